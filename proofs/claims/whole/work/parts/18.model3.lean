/-! A unit is made in the log -/
def mkF (F : Nat → Nat → Int32) (un c : Nat) : Nat → Nat → Int32 := va_up (va_up (va_up (va_up (va_up F 1 (upd (F 1) un (F 13 c))) 2 (upd (F 2) un (F 14 c))) 3 (upd (F 3) un (F 15 c))) 4 (upd (F 4) un (bI (F 12 c = 4)))) 5 (upd (F 5) un 0)
def cmdN (F : Nat → Nat → Int32) (c : Nat) : pC := (nI c, F 12 c, F 13 c, F 14 c, F 15 c)
theorem mkF_6 {F : Nat → Nat → Int32} {un c : Nat} : mkF F un c 6 = F 6 := by simp [mkF, va_up]
theorem mkF_5 {F : Nat → Nat → Int32} {un c v : Nat} : mkF F un c 5 v = if v = un then 0 else F 5 v := by simp [mkF, va_up, upd]
theorem mkF_new {F : Nat → Nat → Int32} {un c : Nat} : uN (mkF F un c) un = uof (cmdN F c) := by simp [uN, mkF, va_up, upd, uof, cmdN]; first | rfl | congr
theorem mkF_old {F : Nat → Nat → Int32} {un c v : Nat} (h : v ≠ un) : uN (mkF F un c) v = uN F v := by simp [uN, mkF, va_up, upd, h]
theorem mkF_SF {F : Nat → Nat → Int32} {un c : Nat} : SF F (mkF F un c) := fun i hi => by
  have h1 : i ≠ 1 := by omega
  have h2 : i ≠ 2 := by omega
  have h3 : i ≠ 3 := by omega
  have h4 : i ≠ 4 := by omega
  have h5 : i ≠ 5 := by omega
  simp [mkF, va_up, h1, h2, h3, h4, h5]
theorem LG.grow {F F' : Nat → Nat → Int32} {un sn : Nat} {fl : Nat → Int64} {us us' : List uU} {u : uU} (h : LG F un sn fl us) (hun : un + 1 ≤ 512) (hV : vU u) (ho : ∀ v, v < un → F' 5 v = F 5 v ∧ uN F' v = uN F v) (h6 : ∀ v, v ≠ un → F' 6 v = F 6 v) (hn5 : F' 5 un = 0) (hnu : uN F' un = u) (hus : us' = if F' 6 un = 0 then us else us ++ [u]) : LG F' (un + 1) sn fl us' := by
  obtain ⟨h1, h2, h3, h4, h5, h7, h8⟩ := h
  have hl : liveN F' un = liveN F un := liveN_congr (fun v hv => h6 v (by omega))
  have hm : (liveN F un).map (uN F') = (liveN F un).map (uN F) := List.map_congr_left (fun v hv => (ho v (liveN_mem.mp hv).1).2)
  refine ⟨?_, fun a ha => ?_, fun v hv => ?_, fun v hv => ?_, fun v hv => ?_, ?_, hun⟩
  · rw [hus, liveN_s, hl]
    split
    · rw [hm]; exact h1
    · rw [List.map_append, hm, ← h1, List.map_cons, List.map_nil, hnu]
  · rw [h2 a ha, inFl, inFl, bestN_k (fun z => absurd z.1 (by rw [hn5]; decide)), bestN_congr ho]
    cases hb : bestN F (nI a) un with
    | none => rfl
    | some b => show wrd (uN F b) (nI a) = wrd (uN F' b) (nI a); rw [(ho b (bestN_lt hb)).2]
  · by_cases e : v = un
    · rw [e, hnu]; exact hV
    · rw [(ho v (by omega)).2]; exact h3 v (by omega)
  · by_cases e : v = un
    · rw [e, hn5]; exact ⟨0, Nat.zero_le _, rfl⟩
    · rw [(ho v (by omega)).1]; exact h4 v (by omega)
  · rw [h6 v (by omega)]; exact h5 v (by omega)
  · rw [liveN_s, hl]
    split
    · omega
    · rw [List.length_append]; simp; omega
theorem LG.make {F : Nat → Nat → Int32} {un sn c : Nat} {fl : Nat → Int64} {us : List uU} (h : LG F un sn fl us) (hun : un + 1 ≤ 512) (hV : vU (uof (cmdN F c))) : LG (mkF F un c) (un + 1) sn fl us :=
  h.grow hun hV (fun v hv => ⟨by rw [mkF_5, if_neg (by omega)], mkF_old (by omega)⟩) (fun v _ => by rw [mkF_6]) (by rw [mkF_5, if_pos rfl]) mkF_new (by rw [mkF_6, if_pos (h.2.2.2.2.1 un (Nat.le_refl _))])
theorem LG.makeC {F : Nat → Nat → Int32} {un sn c : Nat} {fl : Nat → Int64} {us : List uU} (h : LG F un sn fl us) (hun : un + 1 ≤ 512) (hV : vU (uof (cmdN F c))) : LG (va_up (mkF F un c) 6 (upd (F 6) un 1)) (un + 1) sn fl (us ++ [uof (cmdN F c)]) := by
  have e5 : ∀ i, i ≠ 6 → va_up (mkF F un c) 6 (upd (F 6) un 1) i = mkF F un c i := fun i hi => by simp [va_up, hi]
  have e6 : va_up (mkF F un c) 6 (upd (F 6) un 1) 6 = upd (F 6) un 1 := by simp [va_up]
  have eu : ∀ v, uN (va_up (mkF F un c) 6 (upd (F 6) un 1)) v = uN (mkF F un c) v := fun v => by simp [uN, va_up]
  refine h.grow hun hV (fun v hv => ⟨by rw [e5 5 (by decide), mkF_5, if_neg (by omega)], by rw [eu]; exact mkF_old (by omega)⟩) (fun v hv => by rw [e6]; simp [upd, hv]) (by rw [e5 5 (by decide), mkF_5, if_pos rfl]) (by rw [eu]; exact mkF_new) ?_
  rw [e6, if_neg (by simp [upd])]
theorem LG.live_st {F : Nat → Nat → Int32} {un sn c : Nat} {fl : Nat → Int64} {us : List uU} {x : Int32} (h : LG F un sn fl us) : us = (liveN (stF (mkF F un c) un x) (un + 1)).map (uN (mkF F un c)) := by
  rw [liveN_st, liveN_s, mkF_6, if_pos (h.2.2.2.2.1 un (Nat.le_refl _)), h.1, liveN_congr (F' := mkF F un c) (F := F) (fun v _ => by rw [mkF_6])]
  rw [List.filter_eq_self.mpr (fun v hv => by have := (liveN_mem.mp hv).1; simp; omega)]
  exact List.map_congr_left (fun v hv => (mkF_old (by have := (liveN_mem.mp hv).1; omega)).symm)
theorem SF.up6 {F F' : Nat → Nat → Int32} {f : Nat → Int32} (h : SF F F') : SF F (va_up F' 6 f) := fun i hi => by
  have h6 : i ≠ 6 := by omega
  simp only [va_up, if_neg h6]
  exact h i hi
theorem cmdN_SF {F F' : Nat → Nat → Int32} {c : Nat} (h : SF F F') : cmdN F' c = cmdN F c := by
  simp only [cmdN, h 12 (by decide), h 13 (by decide), h 14 (by decide), h 15 (by decide)]
theorem d_M_make_0 : decode b_M_make 0 = .ok (.aload_n 0, 1) := by decide +kernel
theorem d_M_make_1 : decode b_M_make 1 = .ok (.getfield 7, 3) := by decide +kernel
theorem d_M_make_4 : decode b_M_make 4 = .ok (.aload_n 0, 1) := by decide +kernel
theorem d_M_make_5 : decode b_M_make 5 = .ok (.getfield 64, 3) := by decide +kernel
theorem d_M_make_8 : decode b_M_make 8 = .ok (.aload_n 0, 1) := by decide +kernel
theorem d_M_make_9 : decode b_M_make 9 = .ok (.getfield 35, 3) := by decide +kernel
theorem d_M_make_12 : decode b_M_make 12 = .ok (.iload_n 1, 1) := by decide +kernel
theorem d_M_make_13 : decode b_M_make 13 = .ok (.iaload, 1) := by decide +kernel
theorem d_M_make_14 : decode b_M_make 14 = .ok (.iastore, 1) := by decide +kernel
theorem d_M_make_15 : decode b_M_make 15 = .ok (.aload_n 0, 1) := by decide +kernel
theorem d_M_make_16 : decode b_M_make 16 = .ok (.getfield 13, 3) := by decide +kernel
theorem d_M_make_19 : decode b_M_make 19 = .ok (.aload_n 0, 1) := by decide +kernel
theorem d_M_make_20 : decode b_M_make 20 = .ok (.getfield 64, 3) := by decide +kernel
theorem d_M_make_23 : decode b_M_make 23 = .ok (.aload_n 0, 1) := by decide +kernel
theorem d_M_make_24 : decode b_M_make 24 = .ok (.getfield 38, 3) := by decide +kernel
theorem d_M_make_27 : decode b_M_make 27 = .ok (.iload_n 1, 1) := by decide +kernel
theorem d_M_make_28 : decode b_M_make 28 = .ok (.iaload, 1) := by decide +kernel
theorem d_M_make_29 : decode b_M_make 29 = .ok (.iastore, 1) := by decide +kernel
theorem d_M_make_30 : decode b_M_make 30 = .ok (.aload_n 0, 1) := by decide +kernel
theorem d_M_make_31 : decode b_M_make 31 = .ok (.getfield 16, 3) := by decide +kernel
theorem d_M_make_34 : decode b_M_make 34 = .ok (.aload_n 0, 1) := by decide +kernel
theorem d_M_make_35 : decode b_M_make 35 = .ok (.getfield 64, 3) := by decide +kernel
theorem d_M_make_38 : decode b_M_make 38 = .ok (.aload_n 0, 1) := by decide +kernel
theorem d_M_make_39 : decode b_M_make 39 = .ok (.getfield 41, 3) := by decide +kernel
theorem d_M_make_42 : decode b_M_make 42 = .ok (.iload_n 1, 1) := by decide +kernel
theorem d_M_make_43 : decode b_M_make 43 = .ok (.iaload, 1) := by decide +kernel
theorem d_M_make_44 : decode b_M_make 44 = .ok (.iastore, 1) := by decide +kernel
theorem d_M_make_45 : decode b_M_make 45 = .ok (.aload_n 0, 1) := by decide +kernel
theorem d_M_make_46 : decode b_M_make 46 = .ok (.getfield 19, 3) := by decide +kernel
theorem d_M_make_49 : decode b_M_make 49 = .ok (.aload_n 0, 1) := by decide +kernel
theorem d_M_make_50 : decode b_M_make 50 = .ok (.getfield 64, 3) := by decide +kernel
theorem d_M_make_53 : decode b_M_make 53 = .ok (.aload_n 0, 1) := by decide +kernel
theorem d_M_make_54 : decode b_M_make 54 = .ok (.getfield 32, 3) := by decide +kernel
theorem d_M_make_57 : decode b_M_make 57 = .ok (.iload_n 1, 1) := by decide +kernel
theorem d_M_make_58 : decode b_M_make 58 = .ok (.iaload, 1) := by decide +kernel
theorem d_M_make_59 : decode b_M_make 59 = .ok (.iconst 4, 1) := by decide +kernel
theorem d_M_make_60 : decode b_M_make 60 = .ok (.if_icmp .ne 7, 3) := by decide +kernel
theorem d_M_make_63 : decode b_M_make 63 = .ok (.iconst 1, 1) := by decide +kernel
theorem d_M_make_64 : decode b_M_make 64 = .ok (.goto 4, 3) := by decide +kernel
theorem d_M_make_67 : decode b_M_make 67 = .ok (.iconst 0, 1) := by decide +kernel
theorem d_M_make_68 : decode b_M_make 68 = .ok (.bastore, 1) := by decide +kernel
theorem d_M_make_69 : decode b_M_make 69 = .ok (.aload_n 0, 1) := by decide +kernel
theorem d_M_make_70 : decode b_M_make 70 = .ok (.getfield 23, 3) := by decide +kernel
theorem d_M_make_73 : decode b_M_make 73 = .ok (.aload_n 0, 1) := by decide +kernel
theorem d_M_make_74 : decode b_M_make 74 = .ok (.getfield 64, 3) := by decide +kernel
theorem d_M_make_77 : decode b_M_make 77 = .ok (.iconst 0, 1) := by decide +kernel
theorem d_M_make_78 : decode b_M_make 78 = .ok (.iastore, 1) := by decide +kernel
theorem d_M_make_79 : decode b_M_make 79 = .ok (.aload_n 0, 1) := by decide +kernel
theorem d_M_make_80 : decode b_M_make 80 = .ok (.dup, 1) := by decide +kernel
theorem d_M_make_81 : decode b_M_make 81 = .ok (.getfield 64, 3) := by decide +kernel
theorem d_M_make_84 : decode b_M_make 84 = .ok (.iconst 1, 1) := by decide +kernel
theorem d_M_make_85 : decode b_M_make 85 = .ok (.iadd, 1) := by decide +kernel
theorem d_M_make_86 : decode b_M_make 86 = .ok (.putfield 64, 3) := by decide +kernel
theorem d_M_make_89 : decode b_M_make 89 = .ok (.aload_n 0, 1) := by decide +kernel
theorem d_M_make_90 : decode b_M_make 90 = .ok (.getfield 64, 3) := by decide +kernel
theorem d_M_make_93 : decode b_M_make 93 = .ok (.iconst 1, 1) := by decide +kernel
theorem d_M_make_94 : decode b_M_make 94 = .ok (.isub, 1) := by decide +kernel
theorem d_M_make_95 : decode b_M_make 95 = .ok (.ireturn, 1) := by decide +kernel
theorem d_M_total_0 : decode b_M_total 0 = .ok (.lconst 0, 1) := by decide +kernel
theorem d_M_total_1 : decode b_M_total 1 = .ok (.lstore_n 2, 1) := by decide +kernel
theorem d_M_total_2 : decode b_M_total 2 = .ok (.iconst 0, 1) := by decide +kernel
theorem d_M_total_3 : decode b_M_total 3 = .ok (.istore 4, 2) := by decide +kernel
theorem d_M_total_5 : decode b_M_total 5 = .ok (.iload 4, 2) := by decide +kernel
theorem d_M_total_7 : decode b_M_total 7 = .ok (.aload_n 0, 1) := by decide +kernel
theorem d_M_total_8 : decode b_M_total 8 = .ok (.getfield 38, 3) := by decide +kernel
theorem d_M_total_11 : decode b_M_total 11 = .ok (.iload_n 1, 1) := by decide +kernel
theorem d_M_total_12 : decode b_M_total 12 = .ok (.iaload, 1) := by decide +kernel
theorem d_M_total_13 : decode b_M_total 13 = .ok (.if_icmp .ge 38, 3) := by decide +kernel
theorem d_M_total_16 : decode b_M_total 16 = .ok (.aload_n 0, 1) := by decide +kernel
theorem d_M_total_17 : decode b_M_total 17 = .ok (.aload_n 0, 1) := by decide +kernel
theorem d_M_total_18 : decode b_M_total 18 = .ok (.getfield 35, 3) := by decide +kernel
theorem d_M_total_21 : decode b_M_total 21 = .ok (.iload_n 1, 1) := by decide +kernel
theorem d_M_total_22 : decode b_M_total 22 = .ok (.iaload, 1) := by decide +kernel
theorem d_M_total_23 : decode b_M_total 23 = .ok (.iload 4, 2) := by decide +kernel
theorem d_M_total_25 : decode b_M_total 25 = .ok (.iadd, 1) := by decide +kernel
theorem d_M_total_26 : decode b_M_total 26 = .ok (.invokevirtual 100, 3) := by decide +kernel
theorem d_M_total_29 : decode b_M_total 29 = .ok (.lstore 5, 2) := by decide +kernel
theorem d_M_total_31 : decode b_M_total 31 = .ok (.lload 5, 2) := by decide +kernel
theorem d_M_total_33 : decode b_M_total 33 = .ok (.ldc2_w 54, 3) := by decide +kernel
theorem d_M_total_36 : decode b_M_total 36 = .ok (.lcmp, 1) := by decide +kernel
theorem d_M_total_37 : decode b_M_total 37 = .ok (.ifCond .eq 8, 3) := by decide +kernel
theorem d_M_total_40 : decode b_M_total 40 = .ok (.lload_n 2, 1) := by decide +kernel
theorem d_M_total_41 : decode b_M_total 41 = .ok (.lload 5, 2) := by decide +kernel
theorem d_M_total_43 : decode b_M_total 43 = .ok (.ladd, 1) := by decide +kernel
theorem d_M_total_44 : decode b_M_total 44 = .ok (.lstore_n 2, 1) := by decide +kernel
theorem d_M_total_45 : decode b_M_total 45 = .ok (.iinc 4 1, 3) := by decide +kernel
theorem d_M_total_48 : decode b_M_total 48 = .ok (.goto (-43), 3) := by decide +kernel
theorem d_M_total_51 : decode b_M_total 51 = .ok (.lload_n 2, 1) := by decide +kernel
theorem d_M_total_52 : decode b_M_total 52 = .ok (.lreturn, 1) := by decide +kernel
theorem d_M_differing_0 : decode b_M_differing 0 = .ok (.iconst 0, 1) := by decide +kernel
theorem d_M_differing_1 : decode b_M_differing 1 = .ok (.istore_n 2, 1) := by decide +kernel
theorem d_M_differing_2 : decode b_M_differing 2 = .ok (.iconst 0, 1) := by decide +kernel
theorem d_M_differing_3 : decode b_M_differing 3 = .ok (.istore_n 3, 1) := by decide +kernel
theorem d_M_differing_4 : decode b_M_differing 4 = .ok (.iload_n 3, 1) := by decide +kernel
theorem d_M_differing_5 : decode b_M_differing 5 = .ok (.aload_n 0, 1) := by decide +kernel
theorem d_M_differing_6 : decode b_M_differing 6 = .ok (.getfield 38, 3) := by decide +kernel
theorem d_M_differing_9 : decode b_M_differing 9 = .ok (.iload_n 1, 1) := by decide +kernel
theorem d_M_differing_10 : decode b_M_differing 10 = .ok (.iaload, 1) := by decide +kernel
theorem d_M_differing_11 : decode b_M_differing 11 = .ok (.if_icmp .ge 37, 3) := by decide +kernel
theorem d_M_differing_14 : decode b_M_differing 14 = .ok (.aload_n 0, 1) := by decide +kernel
theorem d_M_differing_15 : decode b_M_differing 15 = .ok (.aload_n 0, 1) := by decide +kernel
theorem d_M_differing_16 : decode b_M_differing 16 = .ok (.getfield 35, 3) := by decide +kernel
theorem d_M_differing_19 : decode b_M_differing 19 = .ok (.iload_n 1, 1) := by decide +kernel
theorem d_M_differing_20 : decode b_M_differing 20 = .ok (.iaload, 1) := by decide +kernel
theorem d_M_differing_21 : decode b_M_differing 21 = .ok (.iload_n 3, 1) := by decide +kernel
theorem d_M_differing_22 : decode b_M_differing 22 = .ok (.iadd, 1) := by decide +kernel
theorem d_M_differing_23 : decode b_M_differing 23 = .ok (.invokevirtual 100, 3) := by decide +kernel
theorem d_M_differing_26 : decode b_M_differing 26 = .ok (.aload_n 0, 1) := by decide +kernel
theorem d_M_differing_27 : decode b_M_differing 27 = .ok (.getfield 41, 3) := by decide +kernel
theorem d_M_differing_30 : decode b_M_differing 30 = .ok (.iload_n 1, 1) := by decide +kernel
theorem d_M_differing_31 : decode b_M_differing 31 = .ok (.iaload, 1) := by decide +kernel
theorem d_M_differing_32 : decode b_M_differing 32 = .ok (.iload_n 3, 1) := by decide +kernel
theorem d_M_differing_33 : decode b_M_differing 33 = .ok (.iadd, 1) := by decide +kernel
theorem d_M_differing_34 : decode b_M_differing 34 = .ok (.i2l, 1) := by decide +kernel
theorem d_M_differing_35 : decode b_M_differing 35 = .ok (.lcmp, 1) := by decide +kernel
theorem d_M_differing_36 : decode b_M_differing 36 = .ok (.ifCond .eq 6, 3) := by decide +kernel
theorem d_M_differing_39 : decode b_M_differing 39 = .ok (.iinc 2 1, 3) := by decide +kernel
theorem d_M_differing_42 : decode b_M_differing 42 = .ok (.iinc 3 1, 3) := by decide +kernel
theorem d_M_differing_45 : decode b_M_differing 45 = .ok (.goto (-41), 3) := by decide +kernel
theorem d_M_differing_48 : decode b_M_differing 48 = .ok (.iload_n 2, 1) := by decide +kernel
theorem d_M_differing_49 : decode b_M_differing 49 = .ok (.ireturn, 1) := by decide +kernel
theorem d_M_work_0 : decode b_M_work 0 = .ok (.aload_n 0, 1) := by decide +kernel
theorem d_M_work_1 : decode b_M_work 1 = .ok (.getfield 32, 3) := by decide +kernel
theorem d_M_work_4 : decode b_M_work 4 = .ok (.iload_n 1, 1) := by decide +kernel
theorem d_M_work_5 : decode b_M_work 5 = .ok (.iaload, 1) := by decide +kernel
theorem d_M_work_6 : decode b_M_work 6 = .ok (.ifCond .ne 9, 3) := by decide +kernel
theorem d_M_work_9 : decode b_M_work 9 = .ok (.aload_n 0, 1) := by decide +kernel
theorem d_M_work_10 : decode b_M_work 10 = .ok (.iload_n 1, 1) := by decide +kernel
theorem d_M_work_11 : decode b_M_work 11 = .ok (.invokevirtual 103, 3) := by decide +kernel
theorem d_M_work_14 : decode b_M_work 14 = .ok (.lreturn, 1) := by decide +kernel
theorem d_M_work_15 : decode b_M_work 15 = .ok (.aload_n 0, 1) := by decide +kernel
theorem d_M_work_16 : decode b_M_work 16 = .ok (.getfield 32, 3) := by decide +kernel
theorem d_M_work_19 : decode b_M_work 19 = .ok (.iload_n 1, 1) := by decide +kernel
theorem d_M_work_20 : decode b_M_work 20 = .ok (.iaload, 1) := by decide +kernel
theorem d_M_work_21 : decode b_M_work 21 = .ok (.iconst 5, 1) := by decide +kernel
theorem d_M_work_22 : decode b_M_work 22 = .ok (.if_icmp .ne 10, 3) := by decide +kernel
theorem d_M_work_25 : decode b_M_work 25 = .ok (.aload_n 0, 1) := by decide +kernel
theorem d_M_work_26 : decode b_M_work 26 = .ok (.iload_n 1, 1) := by decide +kernel
theorem d_M_work_27 : decode b_M_work 27 = .ok (.invokevirtual 106, 3) := by decide +kernel
theorem d_M_work_30 : decode b_M_work 30 = .ok (.i2l, 1) := by decide +kernel
theorem d_M_work_31 : decode b_M_work 31 = .ok (.lreturn, 1) := by decide +kernel
theorem d_M_work_32 : decode b_M_work 32 = .ok (.aload_n 0, 1) := by decide +kernel
theorem d_M_work_33 : decode b_M_work 33 = .ok (.getfield 32, 3) := by decide +kernel
theorem d_M_work_36 : decode b_M_work 36 = .ok (.iload_n 1, 1) := by decide +kernel
theorem d_M_work_37 : decode b_M_work 37 = .ok (.iaload, 1) := by decide +kernel
theorem d_M_work_38 : decode b_M_work 38 = .ok (.iconst 3, 1) := by decide +kernel
theorem d_M_work_39 : decode b_M_work 39 = .ok (.if_icmp .ne 16, 3) := by decide +kernel
theorem d_M_work_42 : decode b_M_work 42 = .ok (.aload_n 0, 1) := by decide +kernel
theorem d_M_work_43 : decode b_M_work 43 = .ok (.invokevirtual 92, 3) := by decide +kernel
theorem d_M_work_46 : decode b_M_work 46 = .ok (.istore_n 2, 1) := by decide +kernel
theorem d_M_work_47 : decode b_M_work 47 = .ok (.aload_n 0, 1) := by decide +kernel
theorem d_M_work_48 : decode b_M_work 48 = .ok (.invokevirtual 110, 3) := by decide +kernel
theorem d_M_work_51 : decode b_M_work 51 = .ok (.istore_n 3, 1) := by decide +kernel
theorem d_M_work_52 : decode b_M_work 52 = .ok (.iload_n 2, 1) := by decide +kernel
theorem d_M_work_53 : decode b_M_work 53 = .ok (.i2l, 1) := by decide +kernel
theorem d_M_work_54 : decode b_M_work 54 = .ok (.lreturn, 1) := by decide +kernel
theorem d_M_work_55 : decode b_M_work 55 = .ok (.aload_n 0, 1) := by decide +kernel
theorem d_M_work_56 : decode b_M_work 56 = .ok (.getfield 32, 3) := by decide +kernel
theorem d_M_work_59 : decode b_M_work 59 = .ok (.iload_n 1, 1) := by decide +kernel
theorem d_M_work_60 : decode b_M_work 60 = .ok (.iaload, 1) := by decide +kernel
theorem d_M_work_61 : decode b_M_work 61 = .ok (.iconst 2, 1) := by decide +kernel
theorem d_M_work_62 : decode b_M_work 62 = .ok (.if_icmp .ne 10, 3) := by decide +kernel
theorem d_M_work_65 : decode b_M_work 65 = .ok (.aload_n 0, 1) := by decide +kernel
theorem d_M_work_66 : decode b_M_work 66 = .ok (.invokevirtual 110, 3) := by decide +kernel
theorem d_M_work_69 : decode b_M_work 69 = .ok (.goto 26, 3) := by decide +kernel
theorem d_M_work_72 : decode b_M_work 72 = .ok (.aload_n 0, 1) := by decide +kernel
theorem d_M_work_73 : decode b_M_work 73 = .ok (.invokevirtual 92, 3) := by decide +kernel
theorem d_M_work_76 : decode b_M_work 76 = .ok (.aload_n 0, 1) := by decide +kernel
theorem d_M_work_77 : decode b_M_work 77 = .ok (.getfield 60, 3) := by decide +kernel
theorem d_M_work_80 : decode b_M_work 80 = .ok (.if_icmp .lt 10, 3) := by decide +kernel
theorem d_M_work_83 : decode b_M_work 83 = .ok (.aload_n 0, 1) := by decide +kernel
theorem d_M_work_84 : decode b_M_work 84 = .ok (.invokevirtual 96, 3) := by decide +kernel
theorem d_M_work_87 : decode b_M_work 87 = .ok (.ifCond .eq 7, 3) := by decide +kernel
theorem d_M_work_90 : decode b_M_work 90 = .ok (.iconst 1, 1) := by decide +kernel
theorem d_M_work_91 : decode b_M_work 91 = .ok (.goto 4, 3) := by decide +kernel
theorem d_M_work_94 : decode b_M_work 94 = .ok (.iconst 0, 1) := by decide +kernel
theorem d_M_work_95 : decode b_M_work 95 = .ok (.istore_n 2, 1) := by decide +kernel
theorem d_M_work_96 : decode b_M_work 96 = .ok (.iload_n 2, 1) := by decide +kernel
theorem d_M_work_97 : decode b_M_work 97 = .ok (.ifCond .ne 5, 3) := by decide +kernel
theorem d_M_work_100 : decode b_M_work 100 = .ok (.lconst 0, 1) := by decide +kernel
theorem d_M_work_101 : decode b_M_work 101 = .ok (.lreturn, 1) := by decide +kernel
theorem d_M_work_102 : decode b_M_work 102 = .ok (.aload_n 0, 1) := by decide +kernel
theorem d_M_work_103 : decode b_M_work 103 = .ok (.iload_n 1, 1) := by decide +kernel
theorem d_M_work_104 : decode b_M_work 104 = .ok (.invokevirtual 113, 3) := by decide +kernel
theorem d_M_work_107 : decode b_M_work 107 = .ok (.istore_n 3, 1) := by decide +kernel
theorem d_M_work_108 : decode b_M_work 108 = .ok (.aload_n 0, 1) := by decide +kernel
theorem d_M_work_109 : decode b_M_work 109 = .ok (.getfield 32, 3) := by decide +kernel
theorem d_M_work_112 : decode b_M_work 112 = .ok (.iload_n 1, 1) := by decide +kernel
theorem d_M_work_113 : decode b_M_work 113 = .ok (.iaload, 1) := by decide +kernel
theorem d_M_work_114 : decode b_M_work 114 = .ok (.iconst 2, 1) := by decide +kernel
theorem d_M_work_115 : decode b_M_work 115 = .ok (.if_icmp .ne 12, 3) := by decide +kernel
theorem d_M_work_118 : decode b_M_work 118 = .ok (.aload_n 0, 1) := by decide +kernel
theorem d_M_work_119 : decode b_M_work 119 = .ok (.iload_n 3, 1) := by decide +kernel
theorem d_M_work_120 : decode b_M_work 120 = .ok (.invokevirtual 88, 3) := by decide +kernel
theorem d_M_work_123 : decode b_M_work 123 = .ok (.istore_n 2, 1) := by decide +kernel
theorem d_M_work_124 : decode b_M_work 124 = .ok (.goto 10, 3) := by decide +kernel
theorem d_M_work_127 : decode b_M_work 127 = .ok (.aload_n 0, 1) := by decide +kernel
theorem d_M_work_128 : decode b_M_work 128 = .ok (.getfield 26, 3) := by decide +kernel
theorem d_M_work_131 : decode b_M_work 131 = .ok (.iload_n 3, 1) := by decide +kernel
theorem d_M_work_132 : decode b_M_work 132 = .ok (.iconst 1, 1) := by decide +kernel
theorem d_M_work_133 : decode b_M_work 133 = .ok (.bastore, 1) := by decide +kernel
theorem d_M_work_134 : decode b_M_work 134 = .ok (.lconst 0, 1) := by decide +kernel
theorem d_M_work_135 : decode b_M_work 135 = .ok (.lreturn, 1) := by decide +kernel
set_option maxHeartbeats 4000000 in
set_option maxRecDepth 100000 in
theorem m_M_make {l : Launch} {D : va_G} {cA : Nat → ClassId} {n0 : Nat} {w : mw} {ρ q : Nat → Nat} {lim un sn pg bd cm cp : Nat} {tk : Int32} {rs : Int64} {F : Nat → Nat → Int32} {R : Nat → Int64} (X : MX cA w ρ q lim un sn pg bd cm cp tk rs F R) {ci : Nat} (hu : ci < 520) (hun : un < 520) {y : Int32} (hyu : y = nI ci) :
    Mi l D cA n0 y_M_make c_M_make (rmd 0) [.ref (q 0), .int y] w (fun r w' => r = nI un ∧ MX cA w' ρ q lim (un + 1) sn pg bd cm cp tk rs (mkF F un ci) R ∧ FR w w' (P7 ρ)) := by
  refine mw_met (cc := b_M_make) (maxL := 2) (ret := (some .int)) (by decide) rfl (Nat.le_of_ble_eq_true rfl) ?_
  intro p e s m below meth c ls G hrt hlocks hname h hl
  have G : mw_G p m c b_M_make 2 s _ (c_M_make :: TB) R_M D cl (tys cA) n0 := G
  have hx := G.1.1
  have hb := G.1.2.1
  have hl : lv_has ls 2 [(0, .ref (q 0)), (1, .int y)] := hl
  refine lv_aload_n hx hb d_M_make_0 rfl (lv_at hl 0 rfl) ?_
  refine mx_get G h X.1 rfl 1 (by decide) (tb_in in_M) (tb_c k_313) rfl rfl d_M_make_1 ?_
  refine lv_aload_n hx hb d_M_make_4 rfl (lv_at hl 0 rfl) ?_
  refine mx_get G h X.1 rfl 7 (by decide) (tb_in in_M) (tb_c k_319) rfl rfl d_M_make_5 ?_
  refine lv_aload_n hx hb d_M_make_8 rfl (lv_at hl 0 rfl) ?_
  refine mx_get G h X.1 rfl 13 (by decide) (tb_in in_M) (tb_c k_325) rfl rfl d_M_make_9 ?_
  refine lv_iload_n hx hb d_M_make_12 rfl (lv_at hl 1 rfl) ?_
  refine ax_i G h (X.2.1 13 (by decide)) ci hyu hu (by decide) d_M_make_13 ?_
  refine ax_si G h (X.2.1 1 (by decide)) un rfl hun (by decide) d_M_make_14 (fun H locs h => ?_)
  have h : mw_H n0 D cl s (mw_up w (q 1) (.inl (cA 0, 520, .inl (upd (F 1) un ((F 13) ci))))) H locs := h
  obtain ⟨w_1, ew_1⟩ : ∃ xx : mw, mw_up w (q 1) (.inl (cA 0, 520, .inl (upd (F 1) un ((F 13) ci)))) = xx := ⟨_, rfl⟩
  rw [ew_1] at h
  have f_2 : w_1 (q 1) = some (.inl (cA 0, 520, .inl (upd (F 1) un ((F 13) ci)))) := by rw [← ew_1]; exact mw_self
  have V1 : MX cA w_1 ρ q lim un sn pg bd cm cp tk rs (va_up F 1 (upd (F 1) un (F 13 ci))) R := by rw [← ew_1]; exact X.putI 1 (by decide) _
  have hfr1 : FR w w_1 (P7 ρ) := (FR.rf).tr (by rw [← ew_1]; exact FQ (X.2.2.2.2.2.2.1 1 (by decide)))
  refine lv_aload_n hx hb d_M_make_15 rfl (lv_at hl 0 rfl) ?_
  refine mx_get G h V1.1 rfl 2 (by decide) (tb_in in_M) (tb_c k_314) rfl rfl d_M_make_16 ?_
  refine lv_aload_n hx hb d_M_make_19 rfl (lv_at hl 0 rfl) ?_
  refine mx_get G h V1.1 rfl 7 (by decide) (tb_in in_M) (tb_c k_319) rfl rfl d_M_make_20 ?_
  refine lv_aload_n hx hb d_M_make_23 rfl (lv_at hl 0 rfl) ?_
  refine mx_get G h V1.1 rfl 14 (by decide) (tb_in in_M) (tb_c k_326) rfl rfl d_M_make_24 ?_
  refine lv_iload_n hx hb d_M_make_27 rfl (lv_at hl 1 rfl) ?_
  refine ax_i G h (V1.2.1 14 (by decide)) ci hyu hu (by decide) d_M_make_28 ?_
  refine ax_si G h (V1.2.1 2 (by decide)) un rfl hun (by decide) d_M_make_29 (fun H locs h => ?_)
  have h : mw_H n0 D cl s (mw_up w_1 (q 2) (.inl (cA 0, 520, .inl (upd (F 2) un ((F 14) ci))))) H locs := h
  obtain ⟨w_3, ew_3⟩ : ∃ xx : mw, mw_up w_1 (q 2) (.inl (cA 0, 520, .inl (upd (F 2) un ((F 14) ci)))) = xx := ⟨_, rfl⟩
  rw [ew_3] at h
  have f_4 : w_3 (q 2) = some (.inl (cA 0, 520, .inl (upd (F 2) un ((F 14) ci)))) := by rw [← ew_3]; exact mw_self
  have V2 : MX cA w_3 ρ q lim un sn pg bd cm cp tk rs (va_up (va_up F 1 (upd (F 1) un (F 13 ci))) 2 (upd (F 2) un (F 14 ci))) R := by rw [← ew_3]; exact V1.putI 2 (by decide) _
  have hfr2 : FR w w_3 (P7 ρ) := (hfr1).tr (by rw [← ew_3]; exact FQ (X.2.2.2.2.2.2.1 2 (by decide)))
  refine lv_aload_n hx hb d_M_make_30 rfl (lv_at hl 0 rfl) ?_
  refine mx_get G h V2.1 rfl 3 (by decide) (tb_in in_M) (tb_c k_315) rfl rfl d_M_make_31 ?_
  refine lv_aload_n hx hb d_M_make_34 rfl (lv_at hl 0 rfl) ?_
  refine mx_get G h V2.1 rfl 7 (by decide) (tb_in in_M) (tb_c k_319) rfl rfl d_M_make_35 ?_
  refine lv_aload_n hx hb d_M_make_38 rfl (lv_at hl 0 rfl) ?_
  refine mx_get G h V2.1 rfl 15 (by decide) (tb_in in_M) (tb_c k_327) rfl rfl d_M_make_39 ?_
  refine lv_iload_n hx hb d_M_make_42 rfl (lv_at hl 1 rfl) ?_
  refine ax_i G h (V2.2.1 15 (by decide)) ci hyu hu (by decide) d_M_make_43 ?_
  refine ax_si G h (V2.2.1 3 (by decide)) un rfl hun (by decide) d_M_make_44 (fun H locs h => ?_)
  have h : mw_H n0 D cl s (mw_up w_3 (q 3) (.inl (cA 0, 520, .inl (upd (F 3) un ((F 15) ci))))) H locs := h
  obtain ⟨w_5, ew_5⟩ : ∃ xx : mw, mw_up w_3 (q 3) (.inl (cA 0, 520, .inl (upd (F 3) un ((F 15) ci)))) = xx := ⟨_, rfl⟩
  rw [ew_5] at h
  have f_6 : w_5 (q 3) = some (.inl (cA 0, 520, .inl (upd (F 3) un ((F 15) ci)))) := by rw [← ew_5]; exact mw_self
  have V3 : MX cA w_5 ρ q lim un sn pg bd cm cp tk rs (va_up (va_up (va_up F 1 (upd (F 1) un (F 13 ci))) 2 (upd (F 2) un (F 14 ci))) 3 (upd (F 3) un (F 15 ci))) R := by rw [← ew_5]; exact V2.putI 3 (by decide) _
  have hfr3 : FR w w_5 (P7 ρ) := (hfr2).tr (by rw [← ew_5]; exact FQ (X.2.2.2.2.2.2.1 3 (by decide)))
  refine lv_aload_n hx hb d_M_make_45 rfl (lv_at hl 0 rfl) ?_
  refine mx_get G h V3.1 rfl 4 (by decide) (tb_in in_M) (tb_c k_316) rfl rfl d_M_make_46 ?_
  refine lv_aload_n hx hb d_M_make_49 rfl (lv_at hl 0 rfl) ?_
  refine mx_get G h V3.1 rfl 7 (by decide) (tb_in in_M) (tb_c k_319) rfl rfl d_M_make_50 ?_
  refine lv_aload_n hx hb d_M_make_53 rfl (lv_at hl 0 rfl) ?_
  refine mx_get G h V3.1 rfl 12 (by decide) (tb_in in_M) (tb_c k_324) rfl rfl d_M_make_54 ?_
  refine lv_iload_n hx hb d_M_make_57 rfl (lv_at hl 1 rfl) ?_
  refine ax_i G h (V3.2.1 12 (by decide)) ci hyu hu (by decide) d_M_make_58 ?_
  refine lv_iconst (v := 4) hx hb d_M_make_59 (by decide) ?_
  refine lv_icmp_ne (tgt := 67) hx hb d_M_make_60 (by decide) (fun c_7 => ?_) (fun c_7 => ?_)
  · refine lv_iconst (v := 0) hx hb d_M_make_67 (by decide) ?_
    refine ax_sz G h (V3.2.2.1 4 (by decide)) un rfl hun (by decide) (by decide) d_M_make_68 (fun H locs h => ?_)
    have h : mw_H n0 D cl s (mw_up w_5 (q 4) (.inl (cA 2, 520, .inl (upd (F 4) un 0)))) H locs := h
    obtain ⟨w_8, ew_8⟩ : ∃ xx : mw, mw_up w_5 (q 4) (.inl (cA 2, 520, .inl (upd (F 4) un 0))) = xx := ⟨_, rfl⟩
    rw [ew_8] at h
    have f_9 : w_8 (q 4) = some (.inl (cA 2, 520, .inl (upd (F 4) un 0))) := by rw [← ew_8]; exact mw_self
    have hb4 : 0 = bI (F 12 ci = 4) := (bI_f c_7).symm
    have V4 : MX cA w_8 ρ q lim un sn pg bd cm cp tk rs (va_up (va_up (va_up (va_up F 1 (upd (F 1) un (F 13 ci))) 2 (upd (F 2) un (F 14 ci))) 3 (upd (F 3) un (F 15 ci))) 4 (upd (F 4) un 0)) R := by rw [← ew_8]; exact V3.putZ 4 (by decide) _
    have hfr4 : FR w w_8 (P7 ρ) := (hfr3).tr (by rw [← ew_8]; exact FQ (X.2.2.2.2.2.2.1 4 (by decide)))
    refine lv_aload_n hx hb d_M_make_69 rfl (lv_at hl 0 rfl) ?_
    refine mx_get G h V4.1 rfl 5 (by decide) (tb_in in_M) (tb_c k_317) rfl rfl d_M_make_70 ?_
    refine lv_aload_n hx hb d_M_make_73 rfl (lv_at hl 0 rfl) ?_
    refine mx_get G h V4.1 rfl 7 (by decide) (tb_in in_M) (tb_c k_319) rfl rfl d_M_make_74 ?_
    refine lv_iconst (v := 0) hx hb d_M_make_77 (by decide) ?_
    refine ax_si G h (V4.2.1 5 (by decide)) un rfl hun (by decide) d_M_make_78 (fun H locs h => ?_)
    have h : mw_H n0 D cl s (mw_up w_8 (q 5) (.inl (cA 0, 520, .inl (upd (F 5) un 0)))) H locs := h
    obtain ⟨w_10, ew_10⟩ : ∃ xx : mw, mw_up w_8 (q 5) (.inl (cA 0, 520, .inl (upd (F 5) un 0))) = xx := ⟨_, rfl⟩
    rw [ew_10] at h
    have f_11 : w_10 (q 5) = some (.inl (cA 0, 520, .inl (upd (F 5) un 0))) := by rw [← ew_10]; exact mw_self
    have V5 : MX cA w_10 ρ q lim un sn pg bd cm cp tk rs (va_up (va_up (va_up (va_up (va_up F 1 (upd (F 1) un (F 13 ci))) 2 (upd (F 2) un (F 14 ci))) 3 (upd (F 3) un (F 15 ci))) 4 (upd (F 4) un 0)) 5 (upd (F 5) un 0)) R := by rw [← ew_10]; exact V4.putI 5 (by decide) _
    have hfr5 : FR w w_10 (P7 ρ) := (hfr4).tr (by rw [← ew_10]; exact FQ (X.2.2.2.2.2.2.1 5 (by decide)))
    refine lv_aload_n hx hb d_M_make_79 rfl (lv_at hl 0 rfl) ?_
    refine lv_dup hx hb d_M_make_80 rfl ?_
    refine mx_get G h V5.1 rfl 7 (by decide) (tb_in in_M) (tb_c k_319) rfl rfl d_M_make_81 ?_
    refine lv_iconst (v := 1) hx hb d_M_make_84 (by decide) ?_
    refine lv_iadd hx hb d_M_make_85 ?_
    have et_12 : (nI un) + 1 = nI (un + 1) := nI_1 un
    rw [et_12]
    refine mx_put G h V5.1 rfl 7 (by decide) (tb_in in_M) t_M t_M_ok n_M (tb_c k_319) rfl rfl rfl rfl rfl (Nat.le_of_ble_eq_true rfl) d_M_make_86 (fun H locs h => ?_)
    have h : mw_H n0 D cl s (mw_up w_10 (q 0) (.inr (5, [.int (nI lim), .ref (q 1), .ref (q 2), .ref (q 3), .ref (q 4), .ref (q 5), .ref (q 6), .int (nI (un + 1)), .int (nI sn), .int (nI pg), .int (nI bd), .ref (q 11), .ref (q 12), .ref (q 13), .ref (q 14), .ref (q 15), .int (nI cm), .ref (q 17), .ref (q 18), .ref (q 19), .int (nI cp), .int tk, .long rs]))) H locs := h
    obtain ⟨w_13, ew_13⟩ : ∃ xx : mw, mw_up w_10 (q 0) (.inr (5, [.int (nI lim), .ref (q 1), .ref (q 2), .ref (q 3), .ref (q 4), .ref (q 5), .ref (q 6), .int (nI (un + 1)), .int (nI sn), .int (nI pg), .int (nI bd), .ref (q 11), .ref (q 12), .ref (q 13), .ref (q 14), .ref (q 15), .int (nI cm), .ref (q 17), .ref (q 18), .ref (q 19), .int (nI cp), .int tk, .long rs])) = xx := ⟨_, rfl⟩
    rw [ew_13] at h
    have f_14 : w_13 (q 0) = some (.inr (5, [.int (nI lim), .ref (q 1), .ref (q 2), .ref (q 3), .ref (q 4), .ref (q 5), .ref (q 6), .int (nI (un + 1)), .int (nI sn), .int (nI pg), .int (nI bd), .ref (q 11), .ref (q 12), .ref (q 13), .ref (q 14), .ref (q 15), .int (nI cm), .ref (q 17), .ref (q 18), .ref (q 19), .int (nI cp), .int tk, .long rs])) := by rw [← ew_13]; exact mw_self
    have V9 : MX cA w_13 ρ q lim (un + 1) sn pg bd cm cp tk rs (mkF F un ci) R := by rw [← ew_13, mkF, ← hb4]; exact V5.put0 (un + 1) sn pg bd cm cp tk rs
    have hfr9 : FR w w_13 (P7 ρ) := (hfr5).tr (by rw [← ew_13]; exact FQ X.2.2.2.2.2.1)
    refine lv_aload_n hx hb d_M_make_89 rfl (lv_at hl 0 rfl) ?_
    refine mx_get G h f_14 rfl 7 (by decide) (tb_in in_M) (tb_c k_319) rfl rfl d_M_make_90 ?_
    refine lv_iconst (v := 1) hx hb d_M_make_93 (by decide) ?_
    refine lv_isub hx hb d_M_make_94 ?_
    exact mx_reti G h hrt hlocks d_M_make_95 (⟨nI_pred un, V9, hfr9⟩)
  · refine lv_iconst (v := 1) hx hb d_M_make_63 (by decide) ?_
    refine lv_goto (tgt := 68) hx hb d_M_make_64 (by decide) ?_
    refine ax_sz G h (V3.2.2.1 4 (by decide)) un rfl hun (by decide) (by decide) d_M_make_68 (fun H locs h => ?_)
    have h : mw_H n0 D cl s (mw_up w_5 (q 4) (.inl (cA 2, 520, .inl (upd (F 4) un 1)))) H locs := h
    obtain ⟨w_15, ew_15⟩ : ∃ xx : mw, mw_up w_5 (q 4) (.inl (cA 2, 520, .inl (upd (F 4) un 1))) = xx := ⟨_, rfl⟩
    rw [ew_15] at h
    have f_16 : w_15 (q 4) = some (.inl (cA 2, 520, .inl (upd (F 4) un 1))) := by rw [← ew_15]; exact mw_self
    have hb4 : 1 = bI (F 12 ci = 4) := (bI_t c_7).symm
    have V4 : MX cA w_15 ρ q lim un sn pg bd cm cp tk rs (va_up (va_up (va_up (va_up F 1 (upd (F 1) un (F 13 ci))) 2 (upd (F 2) un (F 14 ci))) 3 (upd (F 3) un (F 15 ci))) 4 (upd (F 4) un 1)) R := by rw [← ew_15]; exact V3.putZ 4 (by decide) _
    have hfr4 : FR w w_15 (P7 ρ) := (hfr3).tr (by rw [← ew_15]; exact FQ (X.2.2.2.2.2.2.1 4 (by decide)))
    refine lv_aload_n hx hb d_M_make_69 rfl (lv_at hl 0 rfl) ?_
    refine mx_get G h V4.1 rfl 5 (by decide) (tb_in in_M) (tb_c k_317) rfl rfl d_M_make_70 ?_
    refine lv_aload_n hx hb d_M_make_73 rfl (lv_at hl 0 rfl) ?_
    refine mx_get G h V4.1 rfl 7 (by decide) (tb_in in_M) (tb_c k_319) rfl rfl d_M_make_74 ?_
    refine lv_iconst (v := 0) hx hb d_M_make_77 (by decide) ?_
    refine ax_si G h (V4.2.1 5 (by decide)) un rfl hun (by decide) d_M_make_78 (fun H locs h => ?_)
    have h : mw_H n0 D cl s (mw_up w_15 (q 5) (.inl (cA 0, 520, .inl (upd (F 5) un 0)))) H locs := h
    obtain ⟨w_17, ew_17⟩ : ∃ xx : mw, mw_up w_15 (q 5) (.inl (cA 0, 520, .inl (upd (F 5) un 0))) = xx := ⟨_, rfl⟩
    rw [ew_17] at h
    have f_18 : w_17 (q 5) = some (.inl (cA 0, 520, .inl (upd (F 5) un 0))) := by rw [← ew_17]; exact mw_self
    have V5 : MX cA w_17 ρ q lim un sn pg bd cm cp tk rs (va_up (va_up (va_up (va_up (va_up F 1 (upd (F 1) un (F 13 ci))) 2 (upd (F 2) un (F 14 ci))) 3 (upd (F 3) un (F 15 ci))) 4 (upd (F 4) un 1)) 5 (upd (F 5) un 0)) R := by rw [← ew_17]; exact V4.putI 5 (by decide) _
    have hfr5 : FR w w_17 (P7 ρ) := (hfr4).tr (by rw [← ew_17]; exact FQ (X.2.2.2.2.2.2.1 5 (by decide)))
    refine lv_aload_n hx hb d_M_make_79 rfl (lv_at hl 0 rfl) ?_
    refine lv_dup hx hb d_M_make_80 rfl ?_
    refine mx_get G h V5.1 rfl 7 (by decide) (tb_in in_M) (tb_c k_319) rfl rfl d_M_make_81 ?_
    refine lv_iconst (v := 1) hx hb d_M_make_84 (by decide) ?_
    refine lv_iadd hx hb d_M_make_85 ?_
    have et_19 : (nI un) + 1 = nI (un + 1) := nI_1 un
    rw [et_19]
    refine mx_put G h V5.1 rfl 7 (by decide) (tb_in in_M) t_M t_M_ok n_M (tb_c k_319) rfl rfl rfl rfl rfl (Nat.le_of_ble_eq_true rfl) d_M_make_86 (fun H locs h => ?_)
    have h : mw_H n0 D cl s (mw_up w_17 (q 0) (.inr (5, [.int (nI lim), .ref (q 1), .ref (q 2), .ref (q 3), .ref (q 4), .ref (q 5), .ref (q 6), .int (nI (un + 1)), .int (nI sn), .int (nI pg), .int (nI bd), .ref (q 11), .ref (q 12), .ref (q 13), .ref (q 14), .ref (q 15), .int (nI cm), .ref (q 17), .ref (q 18), .ref (q 19), .int (nI cp), .int tk, .long rs]))) H locs := h
    obtain ⟨w_20, ew_20⟩ : ∃ xx : mw, mw_up w_17 (q 0) (.inr (5, [.int (nI lim), .ref (q 1), .ref (q 2), .ref (q 3), .ref (q 4), .ref (q 5), .ref (q 6), .int (nI (un + 1)), .int (nI sn), .int (nI pg), .int (nI bd), .ref (q 11), .ref (q 12), .ref (q 13), .ref (q 14), .ref (q 15), .int (nI cm), .ref (q 17), .ref (q 18), .ref (q 19), .int (nI cp), .int tk, .long rs])) = xx := ⟨_, rfl⟩
    rw [ew_20] at h
    have f_21 : w_20 (q 0) = some (.inr (5, [.int (nI lim), .ref (q 1), .ref (q 2), .ref (q 3), .ref (q 4), .ref (q 5), .ref (q 6), .int (nI (un + 1)), .int (nI sn), .int (nI pg), .int (nI bd), .ref (q 11), .ref (q 12), .ref (q 13), .ref (q 14), .ref (q 15), .int (nI cm), .ref (q 17), .ref (q 18), .ref (q 19), .int (nI cp), .int tk, .long rs])) := by rw [← ew_20]; exact mw_self
    have V9 : MX cA w_20 ρ q lim (un + 1) sn pg bd cm cp tk rs (mkF F un ci) R := by rw [← ew_20, mkF, ← hb4]; exact V5.put0 (un + 1) sn pg bd cm cp tk rs
    have hfr9 : FR w w_20 (P7 ρ) := (hfr5).tr (by rw [← ew_20]; exact FQ X.2.2.2.2.2.1)
    refine lv_aload_n hx hb d_M_make_89 rfl (lv_at hl 0 rfl) ?_
    refine mx_get G h f_21 rfl 7 (by decide) (tb_in in_M) (tb_c k_319) rfl rfl d_M_make_90 ?_
    refine lv_iconst (v := 1) hx hb d_M_make_93 (by decide) ?_
    refine lv_isub hx hb d_M_make_94 ?_
    exact mx_reti G h hrt hlocks d_M_make_95 (⟨nI_pred un, V9, hfr9⟩)
set_option maxHeartbeats 4000000 in
set_option maxRecDepth 100000 in
theorem m_M_total {l : Launch} {D : va_G} {cA : Nat → ClassId} {n0 : Nat} {w : mw} {ρ q : Nat → Nat} {lim un cm cp : Nat} {tk : Int32} {rs : Int64} {F : Nat → Nat → Int32} {R : Nat → Int64} {fl : Nat → Int64} {us : List uU} {sn pg bd : Nat} (Y : MC cA w ρ q lim un cm cp tk rs F R (fl, us, sn, pg, bd)) (hcm : cm ≤ 512) (hcp : cp ≤ 512) (hbd : bd < 1000) {ci : Nat} (hci : ci ≤ 512) {y : Int32} (hyu : y = nI ci) {u : uU} (hu13 : F 13 ci = u.1) (hu14 : F 14 ci = u.2.1) (hV : vU u) :
    Ml l D cA n0 y_M_total c_M_total (rmd 3) [.ref (q 0), .int y] w (fun r w' => r = sumH fl us (fsU u) (lnU u) ∧ w' = w) := by
  refine mw_met (cc := b_M_total) (maxL := 7) (ret := (some .long)) (by decide) rfl (Nat.le_of_ble_eq_true rfl) ?_
  intro p e s m below meth c ls G hrt hlocks hname h hl
  have G : mw_G p m c b_M_total 7 s _ (c_M_total :: TB) R_M D cl (tys cA) n0 := G
  have hx := G.1.1
  have hb := G.1.2.1
  have hl : lv_has ls 7 [(0, .ref (q 0)), (1, .int y)] := hl
  obtain ⟨X, hG⟩ := id Y
  have X : MX cA w ρ q lim un sn pg bd cm cp tk rs F R := X
  have hG : LG F un sn fl us := hG
  have hun := hG.2.2.2.2.2.2
  obtain ⟨hu1, hu2, hl1, hl4, h24, hz⟩ := hV
  refine lv_lconst (v := 0) hx hb d_M_total_0 (by decide) ?_
  refine lv_lstore_n (lv' := [(2, .long 0), (0, .ref (q 0)), (1, .int y)]) hx hb d_M_total_1 rfl hl (by decide) rfl (fun ls hl => ?_)
  refine lv_iconst (v := 0) hx hb d_M_total_2 (by decide) ?_
  refine lv_istore (lv' := [(4, .int 0), (2, .long 0), (0, .ref (q 0)), (1, .int y)]) hx hb d_M_total_3 hl (by decide) rfl (fun ls hl => ?_)
  have loop : ∀ (t k : Nat), k + t = lnU u → ∀ (H : Heap) (locs : List Loc) (ls : Array Slot), mw_H n0 D cl s w H locs → lv_has ls 7 [(4, .int (nI k)), (2, .long (sumH fl us (fsU u) k)), (0, .ref (q 0)), (1, .int y)] → W p l e (rmd 3) s m ([.ref (q 0), .int y] : List Value).toArray below meth c H locs 0 0 (MQ below (mw_Ql n0 D cl (fun r w' => r = sumH fl us (fsU u) (lnU u) ∧ w' = w)) ([.ref (q 0), .int y] : List Value).toArray s 0 0 (mw_A n0)) (F0 m 5 ls []) := by
    intro t
    induction t with
    | zero =>
      intro k hk H locs ls h hl
      have hk : k = lnU u := hk
      refine lv_iload hx hb d_M_total_5 (lv_at hl 0 rfl) ?_
      refine lv_aload_n hx hb d_M_total_7 rfl (lv_at hl 2 rfl) ?_
      refine mx_get G h X.1 rfl 14 (by decide) (tb_in in_M) (tb_c k_326) rfl rfl d_M_total_8 ?_
      refine lv_iload_n hx hb d_M_total_11 rfl (lv_at hl 3 rfl) ?_
      refine ax_i G h (X.2.1 14 (by decide)) ci hyu (by omega) (by decide) d_M_total_12 ?_
      refine lv_icmp_ge (tgt := 51) hx hb d_M_total_13 (by decide) (fun c_1 => ?_) (fun c_1 => ?_)
      · refine lv_lload_n hx hb d_M_total_51 rfl (lv_at hl 1 rfl) ?_
        exact mx_retl G h hrt hlocks d_M_total_52 (⟨by rw [hk], rfl⟩)
      · exact absurd (by rw [hu14, hu2, hk]; exact Int32.le_refl _) c_1
    | succ t ih =>
      intro k hk H locs ls h hl
      have hq1 : F 13 ci + nI k = nI (fsU u + k) := by rw [hu13, hu1]; exact nI_add _ _
      refine lv_iload hx hb d_M_total_5 (lv_at hl 0 rfl) ?_
      refine lv_aload_n hx hb d_M_total_7 rfl (lv_at hl 2 rfl) ?_
      refine mx_get G h X.1 rfl 14 (by decide) (tb_in in_M) (tb_c k_326) rfl rfl d_M_total_8 ?_
      refine lv_iload_n hx hb d_M_total_11 rfl (lv_at hl 3 rfl) ?_
      refine ax_i G h (X.2.1 14 (by decide)) ci hyu (by omega) (by decide) d_M_total_12 ?_
      refine lv_icmp_ge (tgt := 51) hx hb d_M_total_13 (by decide) (fun c_2 => ?_) (fun c_2 => ?_)
      · exact absurd c_2 (by rw [hu14, hu2, nI_leI (by omega) (by omega)]; omega)
      · refine lv_aload_n hx hb d_M_total_16 rfl (lv_at hl 2 rfl) ?_
        refine lv_aload_n hx hb d_M_total_17 rfl (lv_at hl 2 rfl) ?_
        refine mx_get G h X.1 rfl 13 (by decide) (tb_in in_M) (tb_c k_325) rfl rfl d_M_total_18 ?_
        refine lv_iload_n hx hb d_M_total_21 rfl (lv_at hl 3 rfl) ?_
        refine ax_i G h (X.2.1 13 (by decide)) ci hyu (by omega) (by decide) d_M_total_22 ?_
        refine lv_iload hx hb d_M_total_23 (lv_at hl 0 rfl) ?_
        refine lv_iadd hx hb d_M_total_25 ?_
        have et_3 : ((F 13) ci) + (nI k) = nI (fsU u + k) := hq1
        rw [et_3]
        refine mx_cl (cV (As := [.int (nI (fsU u + k))]) (rest := []) G h (m_M_holds X hun hcm hcp (x := nI (fsU u + k))) k_414 k_416 ks_18 k_7 k_417 hd_M_holds rfl rfl ⟨Nat.le_of_ble_eq_true rfl, Nat.le_of_ble_eq_true rfl⟩ X.1 rfl rfl hl.1 rfl (Nat.le_of_ble_eq_true rfl) d_M_total_26 ⟨Nat.le_of_ble_eq_true rfl, Nat.le_of_ble_eq_true rfl⟩) h (fun r_5 w_4 H locs h hcp1 => ?_)
        obtain ⟨er_6, ew_7⟩ := hcp1
        subst er_6
        rw [ew_7] at h
        have et_8 : hldN F un (nI (fsU u + k)) un = hld fl us (fsU u + k) := hG.hldE (by omega)
        rw [et_8]
        refine lv_lstore (lv' := [(5, .long (hld fl us (fsU u + k))), (4, .int (nI k)), (2, .long (sumH fl us (fsU u) k)), (0, .ref (q 0)), (1, .int y)]) hx hb d_M_total_29 hl (by decide) rfl (fun ls hl => ?_)
        refine lv_lload hx hb d_M_total_31 (lv_at hl 0 rfl) ?_
        refine lv_ldc2 (v := NN) hx hb G.1.2.2.2.1 (G.1.2.2.2.2 _ (tb_c k_311)) d_M_total_33 ?_
        refine W.lcmp hx hb d_M_total_36 ?_
        refine lv_if_eq (tgt := 45) hx hb d_M_total_37 (by decide) (fun c_9 => ?_) (fun c_9 => ?_)
        · refine lv_iinc (v := (nI k) + 1) (lv' := [(4, .int ((nI k) + 1)), (5, .long (hld fl us (fsU u + k))), (2, .long (sumH fl us (fsU u) k)), (0, .ref (q 0)), (1, .int y)]) hx hb d_M_total_45 hl (k := 1) rfl rfl (by decide) rfl (fun ls hl => ?_)
          refine lv_goto (tgt := 5) hx hb d_M_total_48 (by decide) ?_
          rw [nI_1] at hl
          refine ih (k + 1) (by omega) H locs ls h ?_
          have q1 : sumH fl us (fsU u) (k + 1) = sumH fl us (fsU u) k := by rw [sumH, if_pos ((lg_cmp_eq _ _).mp c_9)]
          rw [q1]
          exact lv_sub hl [0, 2, 3, 4] rfl
        · refine lv_lload_n hx hb d_M_total_40 rfl (lv_at hl 2 rfl) ?_
          refine lv_lload hx hb d_M_total_41 (lv_at hl 0 rfl) ?_
          refine lv_ladd hx hb d_M_total_43 ?_
          refine lv_lstore_n (lv' := [(2, .long ((sumH fl us (fsU u) k) + (hld fl us (fsU u + k)))), (5, .long (hld fl us (fsU u + k))), (4, .int (nI k)), (0, .ref (q 0)), (1, .int y)]) hx hb d_M_total_44 rfl hl (by decide) rfl (fun ls hl => ?_)
          refine lv_iinc (v := (nI k) + 1) (lv' := [(4, .int ((nI k) + 1)), (2, .long ((sumH fl us (fsU u) k) + (hld fl us (fsU u + k)))), (5, .long (hld fl us (fsU u + k))), (0, .ref (q 0)), (1, .int y)]) hx hb d_M_total_45 hl (k := 2) rfl rfl (by decide) rfl (fun ls hl => ?_)
          refine lv_goto (tgt := 5) hx hb d_M_total_48 (by decide) ?_
          rw [nI_1] at hl
          refine ih (k + 1) (by omega) H locs ls h ?_
          have q1 : sumH fl us (fsU u) (k + 1) = sumH fl us (fsU u) k + hld fl us (fsU u + k) := by rw [sumH, if_neg (fun z => c_9 ((lg_cmp_eq _ _).mpr z))]
          rw [q1]
          exact lv_sub hl [0, 1, 3, 4] rfl
  exact loop (lnU u) 0 (by omega) _ _ ls h (lv_sub hl [0, 1, 2, 3] rfl)
set_option maxHeartbeats 4000000 in
set_option maxRecDepth 100000 in
theorem m_M_differing {l : Launch} {D : va_G} {cA : Nat → ClassId} {n0 : Nat} {w : mw} {ρ q : Nat → Nat} {lim un cm cp : Nat} {tk : Int32} {rs : Int64} {F : Nat → Nat → Int32} {R : Nat → Int64} {fl : Nat → Int64} {us : List uU} {sn pg bd : Nat} (Y : MC cA w ρ q lim un cm cp tk rs F R (fl, us, sn, pg, bd)) (hcm : cm ≤ 512) (hcp : cp ≤ 512) (hbd : bd < 1000) {ci : Nat} (hci : ci ≤ 512) {y : Int32} (hyu : y = nI ci) {u : uU} (hu13 : F 13 ci = u.1) (hu14 : F 14 ci = u.2.1) (hV : vU u) (hu15 : F 15 ci = u.2.2.1) (hu0 : u.2.2.2 = 0) :
    Mi l D cA n0 y_M_differing c_M_differing (rmd 3) [.ref (q 0), .int y] w (fun r w' => r = misH fl us u (fsU u) (lnU u) ∧ w' = w) := by
  refine mw_met (cc := b_M_differing) (maxL := 4) (ret := (some .int)) (by decide) rfl (Nat.le_of_ble_eq_true rfl) ?_
  intro p e s m below meth c ls G hrt hlocks hname h hl
  have G : mw_G p m c b_M_differing 4 s _ (c_M_differing :: TB) R_M D cl (tys cA) n0 := G
  have hx := G.1.1
  have hb := G.1.2.1
  have hl : lv_has ls 4 [(0, .ref (q 0)), (1, .int y)] := hl
  obtain ⟨X, hG⟩ := id Y
  have X : MX cA w ρ q lim un sn pg bd cm cp tk rs F R := X
  have hG : LG F un sn fl us := hG
  have hun := hG.2.2.2.2.2.2
  obtain ⟨hu1, hu2, hl1, hl4, h24, hz⟩ := hV
  refine lv_iconst (v := 0) hx hb d_M_differing_0 (by decide) ?_
  refine lv_istore_n (lv' := [(2, .int 0), (0, .ref (q 0)), (1, .int y)]) hx hb d_M_differing_1 rfl hl (by decide) rfl (fun ls hl => ?_)
  refine lv_iconst (v := 0) hx hb d_M_differing_2 (by decide) ?_
  refine lv_istore_n (lv' := [(3, .int 0), (2, .int 0), (0, .ref (q 0)), (1, .int y)]) hx hb d_M_differing_3 rfl hl (by decide) rfl (fun ls hl => ?_)
  have loop : ∀ (t k : Nat), k + t = lnU u → ∀ (H : Heap) (locs : List Loc) (ls : Array Slot), mw_H n0 D cl s w H locs → lv_has ls 4 [(3, .int (nI k)), (2, .int (misH fl us u (fsU u) k)), (0, .ref (q 0)), (1, .int y)] → W p l e (rmd 3) s m ([.ref (q 0), .int y] : List Value).toArray below meth c H locs 0 0 (MQ below (mw_Qi n0 D cl (fun r w' => r = misH fl us u (fsU u) (lnU u) ∧ w' = w)) ([.ref (q 0), .int y] : List Value).toArray s 0 0 (mw_A n0)) (F0 m 4 ls []) := by
    intro t
    induction t with
    | zero =>
      intro k hk H locs ls h hl
      have hk : k = lnU u := hk
      refine lv_iload_n hx hb d_M_differing_4 rfl (lv_at hl 0 rfl) ?_
      refine lv_aload_n hx hb d_M_differing_5 rfl (lv_at hl 2 rfl) ?_
      refine mx_get G h X.1 rfl 14 (by decide) (tb_in in_M) (tb_c k_326) rfl rfl d_M_differing_6 ?_
      refine lv_iload_n hx hb d_M_differing_9 rfl (lv_at hl 3 rfl) ?_
      refine ax_i G h (X.2.1 14 (by decide)) ci hyu (by omega) (by decide) d_M_differing_10 ?_
      refine lv_icmp_ge (tgt := 48) hx hb d_M_differing_11 (by decide) (fun c_1 => ?_) (fun c_1 => ?_)
      · refine lv_iload_n hx hb d_M_differing_48 rfl (lv_at hl 1 rfl) ?_
        exact mx_reti G h hrt hlocks d_M_differing_49 (⟨by rw [hk], rfl⟩)
      · exact absurd (by rw [hu14, hu2, hk]; exact Int32.le_refl _) c_1
    | succ t ih =>
      intro k hk H locs ls h hl
      have hq1 : F 13 ci + nI k = nI (fsU u + k) := by rw [hu13, hu1]; exact nI_add _ _
      have hq2 : (F 15 ci + nI k).toInt64 = wrd u (nI (fsU u + k)) := by rw [wrd, if_pos hu0, hu15, hu1, pk_sub (Nat.le_add_right _ _), Nat.add_sub_cancel_left]
      refine lv_iload_n hx hb d_M_differing_4 rfl (lv_at hl 0 rfl) ?_
      refine lv_aload_n hx hb d_M_differing_5 rfl (lv_at hl 2 rfl) ?_
      refine mx_get G h X.1 rfl 14 (by decide) (tb_in in_M) (tb_c k_326) rfl rfl d_M_differing_6 ?_
      refine lv_iload_n hx hb d_M_differing_9 rfl (lv_at hl 3 rfl) ?_
      refine ax_i G h (X.2.1 14 (by decide)) ci hyu (by omega) (by decide) d_M_differing_10 ?_
      refine lv_icmp_ge (tgt := 48) hx hb d_M_differing_11 (by decide) (fun c_2 => ?_) (fun c_2 => ?_)
      · exact absurd c_2 (by rw [hu14, hu2, nI_leI (by omega) (by omega)]; omega)
      · refine lv_aload_n hx hb d_M_differing_14 rfl (lv_at hl 2 rfl) ?_
        refine lv_aload_n hx hb d_M_differing_15 rfl (lv_at hl 2 rfl) ?_
        refine mx_get G h X.1 rfl 13 (by decide) (tb_in in_M) (tb_c k_325) rfl rfl d_M_differing_16 ?_
        refine lv_iload_n hx hb d_M_differing_19 rfl (lv_at hl 3 rfl) ?_
        refine ax_i G h (X.2.1 13 (by decide)) ci hyu (by omega) (by decide) d_M_differing_20 ?_
        refine lv_iload_n hx hb d_M_differing_21 rfl (lv_at hl 0 rfl) ?_
        refine lv_iadd hx hb d_M_differing_22 ?_
        have et_3 : ((F 13) ci) + (nI k) = nI (fsU u + k) := hq1
        rw [et_3]
        refine mx_cl (cV (As := [.int (nI (fsU u + k))]) (rest := []) G h (m_M_holds X hun hcm hcp (x := nI (fsU u + k))) k_414 k_416 ks_18 k_7 k_417 hd_M_holds rfl rfl ⟨Nat.le_of_ble_eq_true rfl, Nat.le_of_ble_eq_true rfl⟩ X.1 rfl rfl hl.1 rfl (Nat.le_of_ble_eq_true rfl) d_M_differing_23 ⟨Nat.le_of_ble_eq_true rfl, Nat.le_of_ble_eq_true rfl⟩) h (fun r_5 w_4 H locs h hcp1 => ?_)
        obtain ⟨er_6, ew_7⟩ := hcp1
        subst er_6
        rw [ew_7] at h
        have et_8 : hldN F un (nI (fsU u + k)) un = hld fl us (fsU u + k) := hG.hldE (by omega)
        rw [et_8]
        refine lv_aload_n hx hb d_M_differing_26 rfl (lv_at hl 2 rfl) ?_
        refine mx_get G h X.1 rfl 15 (by decide) (tb_in in_M) (tb_c k_327) rfl rfl d_M_differing_27 ?_
        refine lv_iload_n hx hb d_M_differing_30 rfl (lv_at hl 3 rfl) ?_
        refine ax_i G h (X.2.1 15 (by decide)) ci hyu (by omega) (by decide) d_M_differing_31 ?_
        refine lv_iload_n hx hb d_M_differing_32 rfl (lv_at hl 0 rfl) ?_
        refine lv_iadd hx hb d_M_differing_33 ?_
        refine lv_i2l hx hb d_M_differing_34 rfl ?_
        have et_9 : (((F 15) ci) + (nI k)).toInt64 = wrd u (nI (fsU u + k)) := hq2
        rw [et_9]
        refine W.lcmp hx hb d_M_differing_35 ?_
        refine lv_if_eq (tgt := 42) hx hb d_M_differing_36 (by decide) (fun c_10 => ?_) (fun c_10 => ?_)
        · refine lv_iinc (v := (nI k) + 1) (lv' := [(3, .int ((nI k) + 1)), (2, .int (misH fl us u (fsU u) k)), (0, .ref (q 0)), (1, .int y)]) hx hb d_M_differing_42 hl (k := 0) rfl rfl (by decide) rfl (fun ls hl => ?_)
          refine lv_goto (tgt := 4) hx hb d_M_differing_45 (by decide) ?_
          rw [nI_1] at hl
          refine ih (k + 1) (by omega) H locs ls h ?_
          have q1 : misH fl us u (fsU u) (k + 1) = misH fl us u (fsU u) k := by rw [misH, if_pos ((lg_cmp_eq _ _).mp c_10)]
          rw [q1]
          exact lv_sub hl [0, 1, 2, 3] rfl
        · refine lv_iinc (v := (misH fl us u (fsU u) k) + 1) (lv' := [(2, .int ((misH fl us u (fsU u) k) + 1)), (3, .int (nI k)), (0, .ref (q 0)), (1, .int y)]) hx hb d_M_differing_39 hl (k := 1) rfl rfl (by decide) rfl (fun ls hl => ?_)
          refine lv_iinc (v := (nI k) + 1) (lv' := [(3, .int ((nI k) + 1)), (2, .int ((misH fl us u (fsU u) k) + 1)), (0, .ref (q 0)), (1, .int y)]) hx hb d_M_differing_42 hl (k := 1) rfl rfl (by decide) rfl (fun ls hl => ?_)
          refine lv_goto (tgt := 4) hx hb d_M_differing_45 (by decide) ?_
          rw [nI_1] at hl
          refine ih (k + 1) (by omega) H locs ls h ?_
          have q1 : misH fl us u (fsU u) (k + 1) = misH fl us u (fsU u) k + 1 := by rw [misH, if_neg (fun z => c_10 ((lg_cmp_eq _ _).mpr z))]
          rw [q1]
          exact lv_sub hl [0, 1, 2, 3] rfl
  exact loop (lnU u) 0 (by omega) _ _ ls h (lv_sub hl [0, 1, 2, 3] rfl)
set_option maxHeartbeats 4000000 in
set_option maxRecDepth 100000 in
theorem m_M_work {l : Launch} {D : va_G} {cA : Nat → ClassId} {n0 : Nat} {w : mw} {ρ q : Nat → Nat} {lim un cm cp : Nat} {tk : Int32} {rs : Int64} {F : Nat → Nat → Int32} {R : Nat → Int64} {fl : Nat → Int64} {us : List uU} {sn pg bd : Nat} (Y : MC cA w ρ q lim un cm cp tk rs F R (fl, us, sn, pg, bd)) (hcm : cm ≤ 512) (hcp : cp ≤ 512) (hbd : bd < 1000) (hun1 : un + 1 ≤ 512) (hlim : lim ≤ 6) {ci kd : Nat} (hci : ci ≤ 512) (hk : F 12 ci = nI kd) (hkd : kd ≤ 5) (hV : kd ≠ 3 → vU (uof (cmdN F ci))) {y : Int32} (hyu : y = nI ci) :
    Ml l D cA n0 y_M_work c_M_work (rmd 4) [.ref (q 0), .int y] w (fun r w' => r = (carA lim kd (uof (cmdN F ci)) (fl, us, sn, pg, bd)).1 ∧ ∃ F' un', un' ≤ un + 1 ∧ MC cA w' ρ q lim un' cm cp tk rs F' R (carA lim kd (uof (cmdN F ci)) (fl, us, sn, pg, bd)).2 ∧ SF F F' ∧ FR w w' (P7 ρ)) := by
  refine mw_met (cc := b_M_work) (maxL := 4) (ret := (some .long)) (by decide) rfl (Nat.le_of_ble_eq_true rfl) ?_
  intro p e s m below meth c ls G hrt hlocks hname h hl
  have G : mw_G p m c b_M_work 4 s _ (c_M_work :: TB) R_M D cl (tys cA) n0 := G
  have hx := G.1.1
  have hb := G.1.2.1
  have hl : lv_has ls 4 [(0, .ref (q 0)), (1, .int y)] := hl
  obtain ⟨X, hG⟩ := id Y
  have X : MX cA w ρ q lim un sn pg bd cm cp tk rs F R := X
  have hG : LG F un sn fl us := hG
  have hun := hG.2.2.2.2.2.2
  have hlen : (liveN F un).length = us.length := by rw [hG.1, List.length_map]
  have hlle := liveN_le F un
  rcases (show kd = 0 ∨ kd = 1 ∨ kd = 2 ∨ kd = 3 ∨ kd = 4 ∨ kd = 5 by omega) with rfl | rfl | rfl | rfl | rfl | rfl
  · refine lv_aload_n hx hb d_M_work_0 rfl (lv_at hl 0 rfl) ?_
    refine mx_get G h X.1 rfl 12 (by decide) (tb_in in_M) (tb_c k_324) rfl rfl d_M_work_1 ?_
    refine lv_iload_n hx hb d_M_work_4 rfl (lv_at hl 1 rfl) ?_
    refine ax_i G h (X.2.1 12 (by decide)) ci hyu (by omega) (by decide) d_M_work_5 ?_
    refine lv_if_ne (tgt := 15) hx hb d_M_work_6 (by decide) (fun c_1 => absurd hk c_1) (fun c_1 => ?_)
    refine lv_aload_n hx hb d_M_work_9 rfl (lv_at hl 0 rfl) ?_
    refine lv_iload_n hx hb d_M_work_10 rfl (lv_at hl 1 rfl) ?_
    refine mx_cl (cV (As := [.int y]) (rest := []) G h (m_M_total Y hcm hcp hbd (by omega) hyu (u := (uof (cmdN F ci))) rfl rfl (hV (by decide))) k_410 k_412 ks_17 k_7 k_413 hd_M_total rfl rfl ⟨Nat.le_of_ble_eq_true rfl, Nat.le_of_ble_eq_true rfl⟩ X.1 rfl rfl hl.1 rfl (Nat.le_of_ble_eq_true rfl) d_M_work_11 ⟨Nat.le_of_ble_eq_true rfl, Nat.le_of_ble_eq_true rfl⟩) h (fun r_3 w_2 H locs h hcp1 => ?_)
    obtain ⟨er_4, ew_5⟩ := hcp1
    subst er_4
    rw [ew_5] at h
    exact mx_retl G h hrt hlocks d_M_work_14 (⟨rfl, F, un, by omega, Y, SF.rf, FR.rf⟩)
  · refine lv_aload_n hx hb d_M_work_0 rfl (lv_at hl 0 rfl) ?_
    refine mx_get G h X.1 rfl 12 (by decide) (tb_in in_M) (tb_c k_324) rfl rfl d_M_work_1 ?_
    refine lv_iload_n hx hb d_M_work_4 rfl (lv_at hl 1 rfl) ?_
    refine ax_i G h (X.2.1 12 (by decide)) ci hyu (by omega) (by decide) d_M_work_5 ?_
    refine lv_if_ne (tgt := 15) hx hb d_M_work_6 (by decide) (fun c_6 => ?_) (fun c_6 => absurd (hk.symm.trans c_6) (by decide))
    refine lv_aload_n hx hb d_M_work_15 rfl (lv_at hl 0 rfl) ?_
    refine mx_get G h X.1 rfl 12 (by decide) (tb_in in_M) (tb_c k_324) rfl rfl d_M_work_16 ?_
    refine lv_iload_n hx hb d_M_work_19 rfl (lv_at hl 1 rfl) ?_
    refine ax_i G h (X.2.1 12 (by decide)) ci hyu (by omega) (by decide) d_M_work_20 ?_
    refine lv_iconst (v := 5) hx hb d_M_work_21 (by decide) ?_
    refine lv_icmp_ne (tgt := 32) hx hb d_M_work_22 (by decide) (fun c_7 => ?_) (fun c_7 => absurd (hk.symm.trans c_7) (by decide))
    refine lv_aload_n hx hb d_M_work_32 rfl (lv_at hl 0 rfl) ?_
    refine mx_get G h X.1 rfl 12 (by decide) (tb_in in_M) (tb_c k_324) rfl rfl d_M_work_33 ?_
    refine lv_iload_n hx hb d_M_work_36 rfl (lv_at hl 1 rfl) ?_
    refine ax_i G h (X.2.1 12 (by decide)) ci hyu (by omega) (by decide) d_M_work_37 ?_
    refine lv_iconst (v := 3) hx hb d_M_work_38 (by decide) ?_
    refine lv_icmp_ne (tgt := 55) hx hb d_M_work_39 (by decide) (fun c_8 => ?_) (fun c_8 => absurd (hk.symm.trans c_8) (by decide))
    refine lv_aload_n hx hb d_M_work_55 rfl (lv_at hl 0 rfl) ?_
    refine mx_get G h X.1 rfl 12 (by decide) (tb_in in_M) (tb_c k_324) rfl rfl d_M_work_56 ?_
    refine lv_iload_n hx hb d_M_work_59 rfl (lv_at hl 1 rfl) ?_
    refine ax_i G h (X.2.1 12 (by decide)) ci hyu (by omega) (by decide) d_M_work_60 ?_
    refine lv_iconst (v := 2) hx hb d_M_work_61 (by decide) ?_
    refine lv_icmp_ne (tgt := 72) hx hb d_M_work_62 (by decide) (fun c_9 => ?_) (fun c_9 => absurd (hk.symm.trans c_9) (by decide))
    have e8 : carA lim 1 (uof (cmdN F ci)) (fl, us, sn, pg, bd) = (0, cacA lim (uof (cmdN F ci)) (fl, us, sn, pg, bd)) := rfl
    rw [e8]
    have add : ∀ (κ : kS) (E : Nat → Nat → Int32) (v : mw), MC cA v ρ q lim un cm cp tk rs E R κ → SF F E → FR w v (P7 ρ) → cacA lim (uof (cmdN F ci)) (fl, us, sn, pg, bd) = (κ.1, κ.2.1 ++ [(uof (cmdN F ci))], κ.2.2) → ∀ (H : Heap) (locs : List Loc) (ls : Array Slot), mw_H n0 D cl s v H locs → lv_has ls 4 [(2, .int 1), (0, .ref (q 0)), (1, .int y)] → W p l e (rmd 4) s m ([.ref (q 0), .int y] : List Value).toArray below meth c H locs 0 0 (MQ below (mw_Ql n0 D cl (fun r w' => r = ((0 : Int64), cacA lim (uof (cmdN F ci)) (fl, us, sn, pg, bd)).1 ∧ ∃ F' un', un' ≤ un + 1 ∧ MC cA w' ρ q lim un' cm cp tk rs F' R ((0 : Int64), cacA lim (uof (cmdN F ci)) (fl, us, sn, pg, bd)).2 ∧ SF F F' ∧ FR w w' (P7 ρ))) ([.ref (q 0), .int y] : List Value).toArray s 0 0 (mw_A n0)) (F0 m 102 ls []) := by
      intro κ E v V hsf hfr he H locs ls h hl
      obtain ⟨X1, hG1⟩ := id V
      have ec : cmdN E ci = cmdN F ci := cmdN_SF hsf
      refine lv_aload_n hx hb d_M_work_102 rfl (lv_at hl 1 rfl) ?_
      refine lv_iload_n hx hb d_M_work_103 rfl (lv_at hl 2 rfl) ?_
      refine mx_ci (cV (As := [.int y]) (rest := []) G h (m_M_make X1 (ci := ci) (by omega) (by omega) hyu) k_450 k_452 ks_27 k_7 k_453 hd_M_make rfl rfl ⟨Nat.le_of_ble_eq_true rfl, Nat.le_of_ble_eq_true rfl⟩ X1.1 rfl rfl hl.1 rfl (Nat.le_of_ble_eq_true rfl) d_M_work_104 ⟨Nat.le_of_ble_eq_true rfl, Nat.le_of_ble_eq_true rfl⟩) h (fun r_11 w_10 H locs h hcp1 => ?_)
      obtain ⟨er2, X2, hf2⟩ := hcp1
      subst er2
      have hk2 : mkF E un ci 12 ci = nI 1 := by rw [mkF_SF 12 (by decide), hsf 12 (by decide)]; exact hk
      refine lv_istore_n (lv' := [(3, .int (nI un)), (2, .int 1), (0, .ref (q 0)), (1, .int y)]) hx hb d_M_work_107 rfl hl (by decide) rfl (fun ls hl => ?_)
      refine lv_aload_n hx hb d_M_work_108 rfl (lv_at hl 2 rfl) ?_
      refine mx_get G h X2.1 rfl 12 (by decide) (tb_in in_M) (tb_c k_324) rfl rfl d_M_work_109 ?_
      refine lv_iload_n hx hb d_M_work_112 rfl (lv_at hl 3 rfl) ?_
      refine ax_i G h (X2.2.1 12 (by decide)) ci hyu (by omega) (by decide) d_M_work_113 ?_
      refine lv_iconst (v := 2) hx hb d_M_work_114 (by decide) ?_
      refine lv_icmp_ne (tgt := 127) hx hb d_M_work_115 (by decide) (fun c_12 => ?_) (fun c_12 => absurd (hk2.symm.trans c_12) (by decide))
      refine lv_aload_n hx hb d_M_work_127 rfl (lv_at hl 2 rfl) ?_
      refine mx_get G h X2.1 rfl 6 (by decide) (tb_in in_M) (tb_c k_318) rfl rfl d_M_work_128 ?_
      refine lv_iload_n hx hb d_M_work_131 rfl (lv_at hl 0 rfl) ?_
      refine lv_iconst (v := 1) hx hb d_M_work_132 (by decide) ?_
      refine ax_sz G h (X2.2.2.1 6 (by decide)) un rfl (by omega) (by decide) (by decide) d_M_work_133 (fun H locs h => ?_)
      have h : mw_H n0 D cl s (mw_up w_10 (q 6) (.inl (cA 2, 520, .inl (upd ((mkF E un ci) 6) un 1)))) H locs := h
      obtain ⟨w_13, ew_13⟩ : ∃ xx : mw, mw_up w_10 (q 6) (.inl (cA 2, 520, .inl (upd ((mkF E un ci) 6) un 1))) = xx := ⟨_, rfl⟩
      rw [ew_13] at h
      have f_14 : w_13 (q 6) = some (.inl (cA 2, 520, .inl (upd ((mkF E un ci) 6) un 1))) := by rw [← ew_13]; exact mw_self
      have X3 : MX cA w_13 ρ q lim (un + 1) κ.2.2.1 κ.2.2.2.1 κ.2.2.2.2 cm cp tk rs (va_up (mkF E un ci) 6 (upd (E 6) un 1)) R := by rw [← ew_13]; exact X2.putZ 6 (by decide) _
      have hf3 : FR w w_13 (P7 ρ) := (hfr.tr hf2).tr (by rw [← ew_13]; exact FQ (X.2.2.2.2.2.2.1 6 (by decide)))
      have hG3 := hG1.makeC (c := ci) (by omega) (by rw [ec]; exact hV (by decide))
      rw [ec] at hG3
      refine lv_lconst (v := 0) hx hb d_M_work_134 (by decide) ?_
      exact mx_retl G h hrt hlocks d_M_work_135 (⟨rfl, _, un + 1, Nat.le_refl _, by rw [he]; exact ⟨X3, hG3⟩, (hsf.tr mkF_SF).up6, hf3⟩)
    refine lv_aload_n hx hb d_M_work_72 rfl (lv_at hl 0 rfl) ?_
    refine mx_ci (cV (As := []) (rest := []) G h (m_M_inCache X hun hcm hcp) k_434 k_436 ks_23 k_7 k_437 hd_M_inCache rfl rfl ⟨Nat.le_of_ble_eq_true rfl, Nat.le_of_ble_eq_true rfl⟩ X.1 rfl rfl hl.1 rfl (Nat.le_of_ble_eq_true rfl) d_M_work_73 ⟨Nat.le_of_ble_eq_true rfl, Nat.le_of_ble_eq_true rfl⟩) h (fun r_16 w_15 H locs h hcp1 => ?_)
    obtain ⟨er_17, ew_18⟩ := hcp1
    subst er_17
    rw [ew_18] at h
    have et_19 : nI (liveN F un).length = nI us.length := by rw [hlen]
    rw [et_19]
    refine lv_aload_n hx hb d_M_work_76 rfl (lv_at hl 0 rfl) ?_
    refine mx_get G h X.1 rfl 0 (by decide) (tb_in in_M) (tb_c k_312) rfl rfl d_M_work_77 ?_
    refine lv_icmp_lt (tgt := 90) hx hb d_M_work_80 (by decide) (fun c_20 => ?_) (fun c_20 => ?_)
    · have hlt : us.length < lim := (nI_ltI (by omega) (by omega)).mp c_20
      refine lv_iconst (v := 1) hx hb d_M_work_90 (by decide) ?_
      refine lv_goto (tgt := 95) hx hb d_M_work_91 (by decide) ?_
      refine lv_istore_n (lv' := [(2, .int 1), (0, .ref (q 0)), (1, .int y)]) hx hb d_M_work_95 rfl hl (by decide) rfl (fun ls hl => ?_)
      refine lv_iload_n hx hb d_M_work_96 rfl (lv_at hl 0 rfl) ?_
      refine lv_if_ne (tgt := 102) hx hb d_M_work_97 (by decide) (fun c_21 => ?_) (fun c_21 => absurd c_21 (by decide))
      exact add (fl, us, sn, pg, bd) F w Y SF.rf FR.rf (by simp only [cacA]; rw [if_neg (by omega)]) H locs ls h (lv_sub hl [0, 1, 2] rfl)
    · have hge : lim ≤ us.length := Nat.not_lt.mp (fun z => c_20 ((nI_ltI (by omega) (by omega)).mpr z))
      refine lv_aload_n hx hb d_M_work_83 rfl (lv_at hl 0 rfl) ?_
      refine mx_ci (cV (As := []) (rest := []) G h (m_M_storeOldest Y hcm hcp hbd) k_442 k_444 ks_25 k_7 k_445 hd_M_storeOldest rfl rfl ⟨Nat.le_of_ble_eq_true rfl, Nat.le_of_ble_eq_true rfl⟩ X.1 rfl rfl hl.1 rfl (Nat.le_of_ble_eq_true rfl) d_M_work_84 ⟨Nat.le_of_ble_eq_true rfl, Nat.le_of_ble_eq_true rfl⟩) h (fun r_23 w_22 H locs h hcp1 => ?_)
      obtain ⟨er, E1, V1, hsf1, hf1⟩ := hcp1
      subst er
      refine lv_if_eq (tgt := 94) hx hb d_M_work_87 (by decide) (fun c_24 => ?_) (fun c_24 => ?_)
      · refine lv_iconst (v := 0) hx hb d_M_work_94 (by decide) ?_
        refine lv_istore_n (lv' := [(2, .int 0), (0, .ref (q 0)), (1, .int y)]) hx hb d_M_work_95 rfl hl (by decide) rfl (fun ls hl => ?_)
        refine lv_iload_n hx hb d_M_work_96 rfl (lv_at hl 0 rfl) ?_
        refine lv_if_ne (tgt := 102) hx hb d_M_work_97 (by decide) (fun c_25 => absurd rfl c_25) (fun c_25 => ?_)
        refine lv_lconst (v := 0) hx hb d_M_work_100 (by decide) ?_
        exact mx_retl G h hrt hlocks d_M_work_101 (⟨rfl, E1, un, by omega, by simp only [cacA]; rw [if_pos hge, if_neg (bI_0 c_24)]; exact V1, hsf1, hf1⟩)
      · refine lv_iconst (v := 1) hx hb d_M_work_90 (by decide) ?_
        refine lv_goto (tgt := 95) hx hb d_M_work_91 (by decide) ?_
        refine lv_istore_n (lv' := [(2, .int 1), (0, .ref (q 0)), (1, .int y)]) hx hb d_M_work_95 rfl hl (by decide) rfl (fun ls hl => ?_)
        refine lv_iload_n hx hb d_M_work_96 rfl (lv_at hl 0 rfl) ?_
        refine lv_if_ne (tgt := 102) hx hb d_M_work_97 (by decide) (fun c_26 => ?_) (fun c_26 => absurd c_26 (by decide))
        exact add (stoO (fl, us, sn, pg, bd)).2 E1 _ V1 hsf1 hf1 (by simp only [cacA]; rw [if_pos hge, if_pos (bI_n c_24)]) H locs ls h (lv_sub hl [0, 1, 2] rfl)
  · refine lv_aload_n hx hb d_M_work_0 rfl (lv_at hl 0 rfl) ?_
    refine mx_get G h X.1 rfl 12 (by decide) (tb_in in_M) (tb_c k_324) rfl rfl d_M_work_1 ?_
    refine lv_iload_n hx hb d_M_work_4 rfl (lv_at hl 1 rfl) ?_
    refine ax_i G h (X.2.1 12 (by decide)) ci hyu (by omega) (by decide) d_M_work_5 ?_
    refine lv_if_ne (tgt := 15) hx hb d_M_work_6 (by decide) (fun c_27 => ?_) (fun c_27 => absurd (hk.symm.trans c_27) (by decide))
    refine lv_aload_n hx hb d_M_work_15 rfl (lv_at hl 0 rfl) ?_
    refine mx_get G h X.1 rfl 12 (by decide) (tb_in in_M) (tb_c k_324) rfl rfl d_M_work_16 ?_
    refine lv_iload_n hx hb d_M_work_19 rfl (lv_at hl 1 rfl) ?_
    refine ax_i G h (X.2.1 12 (by decide)) ci hyu (by omega) (by decide) d_M_work_20 ?_
    refine lv_iconst (v := 5) hx hb d_M_work_21 (by decide) ?_
    refine lv_icmp_ne (tgt := 32) hx hb d_M_work_22 (by decide) (fun c_28 => ?_) (fun c_28 => absurd (hk.symm.trans c_28) (by decide))
    refine lv_aload_n hx hb d_M_work_32 rfl (lv_at hl 0 rfl) ?_
    refine mx_get G h X.1 rfl 12 (by decide) (tb_in in_M) (tb_c k_324) rfl rfl d_M_work_33 ?_
    refine lv_iload_n hx hb d_M_work_36 rfl (lv_at hl 1 rfl) ?_
    refine ax_i G h (X.2.1 12 (by decide)) ci hyu (by omega) (by decide) d_M_work_37 ?_
    refine lv_iconst (v := 3) hx hb d_M_work_38 (by decide) ?_
    refine lv_icmp_ne (tgt := 55) hx hb d_M_work_39 (by decide) (fun c_29 => ?_) (fun c_29 => absurd (hk.symm.trans c_29) (by decide))
    refine lv_aload_n hx hb d_M_work_55 rfl (lv_at hl 0 rfl) ?_
    refine mx_get G h X.1 rfl 12 (by decide) (tb_in in_M) (tb_c k_324) rfl rfl d_M_work_56 ?_
    refine lv_iload_n hx hb d_M_work_59 rfl (lv_at hl 1 rfl) ?_
    refine ax_i G h (X.2.1 12 (by decide)) ci hyu (by omega) (by decide) d_M_work_60 ?_
    refine lv_iconst (v := 2) hx hb d_M_work_61 (by decide) ?_
    refine lv_icmp_ne (tgt := 72) hx hb d_M_work_62 (by decide) (fun c_30 => absurd hk c_30) (fun c_30 => ?_)
    refine lv_aload_n hx hb d_M_work_65 rfl (lv_at hl 0 rfl) ?_
    refine mx_ci (cV (As := []) (rest := []) G h (m_M_empty Y hcm hcp hbd) k_438 k_440 ks_24 k_7 k_441 hd_M_empty rfl rfl ⟨Nat.le_of_ble_eq_true rfl, Nat.le_of_ble_eq_true rfl⟩ X.1 rfl rfl hl.1 rfl (Nat.le_of_ble_eq_true rfl) d_M_work_66 ⟨Nat.le_of_ble_eq_true rfl, Nat.le_of_ble_eq_true rfl⟩) h (fun r_32 w_31 H locs h hcp1 => ?_)
    obtain ⟨er, E1, V1, hsf1, hf1⟩ := hcp1
    subst er
    refine lv_goto (tgt := 95) hx hb d_M_work_69 (by decide) ?_
    refine lv_istore_n (lv' := [(2, .int (bI ((empK (fl, us, sn, pg, bd)).1 = true))), (0, .ref (q 0)), (1, .int y)]) hx hb d_M_work_95 rfl hl (by decide) rfl (fun ls hl => ?_)
    refine lv_iload_n hx hb d_M_work_96 rfl (lv_at hl 0 rfl) ?_
    have hpl1 : (empK (fl, us, sn, pg, bd)).2.2.2.2.2 < 1000 := Nat.lt_of_le_of_lt empA_pl hbd
    refine lv_if_ne (tgt := 102) hx hb d_M_work_97 (by decide) (fun c_33 => ?_) (fun c_33 => ?_)
    · have e9 : forA (uof (cmdN F ci)) (fl, us, sn, pg, bd) = stoF (uof (cmdN F ci)) (empK (fl, us, sn, pg, bd)).2 := by simp only [forA]; rw [if_pos (bI_n c_33)]
      have e8 : carA lim 2 (uof (cmdN F ci)) (fl, us, sn, pg, bd) = (0, stoF (uof (cmdN F ci)) (empK (fl, us, sn, pg, bd)).2) := by rw [← e9]; rfl
      rw [e8]
      generalize (empK (fl, us, sn, pg, bd)).2 = κ at V1 hpl1
      obtain ⟨X1, hG1⟩ := id V1
      have ec : cmdN E1 ci = cmdN F ci := cmdN_SF hsf1
      refine lv_aload_n hx hb d_M_work_102 rfl (lv_at hl 1 rfl) ?_
      refine lv_iload_n hx hb d_M_work_103 rfl (lv_at hl 2 rfl) ?_
      refine mx_ci (cV (As := [.int y]) (rest := []) G h (m_M_make X1 (ci := ci) (by omega) (by omega) hyu) k_450 k_452 ks_27 k_7 k_453 hd_M_make rfl rfl ⟨Nat.le_of_ble_eq_true rfl, Nat.le_of_ble_eq_true rfl⟩ X1.1 rfl rfl hl.1 rfl (Nat.le_of_ble_eq_true rfl) d_M_work_104 ⟨Nat.le_of_ble_eq_true rfl, Nat.le_of_ble_eq_true rfl⟩) h (fun r_35 w_34 H locs h hcp1 => ?_)
      obtain ⟨er2, X2, hf2⟩ := hcp1
      subst er2
      have hk2 : mkF E1 un ci 12 ci = nI 2 := by rw [mkF_SF 12 (by decide), hsf1 12 (by decide)]; exact hk
      have hG2 := hG1.make (c := ci) (by omega) (by rw [ec]; exact hV (by decide))
      have hn2 : uN (mkF E1 un ci) un = (uof (cmdN F ci)) := by rw [mkF_new, ec]
      refine lv_istore_n (lv' := [(3, .int (nI un)), (2, .int (bI ((empK (fl, us, sn, pg, bd)).1 = true))), (0, .ref (q 0)), (1, .int y)]) hx hb d_M_work_107 rfl hl (by decide) rfl (fun ls hl => ?_)
      refine lv_aload_n hx hb d_M_work_108 rfl (lv_at hl 2 rfl) ?_
      refine mx_get G h X2.1 rfl 12 (by decide) (tb_in in_M) (tb_c k_324) rfl rfl d_M_work_109 ?_
      refine lv_iload_n hx hb d_M_work_112 rfl (lv_at hl 3 rfl) ?_
      refine ax_i G h (X2.2.1 12 (by decide)) ci hyu (by omega) (by decide) d_M_work_113 ?_
      refine lv_iconst (v := 2) hx hb d_M_work_114 (by decide) ?_
      refine lv_icmp_ne (tgt := 127) hx hb d_M_work_115 (by decide) (fun c_36 => absurd hk2 c_36) (fun c_36 => ?_)
      refine lv_aload_n hx hb d_M_work_118 rfl (lv_at hl 2 rfl) ?_
      refine lv_iload_n hx hb d_M_work_119 rfl (lv_at hl 0 rfl) ?_
      refine mx_ci (cV (As := [.int (nI un)]) (rest := []) G h (m_M_store X2 (u := un) (by omega) (by rw [hn2]; exact hV (by decide)) hpl1 rfl) k_446 k_448 ks_26 k_7 k_449 hd_M_store rfl rfl ⟨Nat.le_of_ble_eq_true rfl, Nat.le_of_ble_eq_true rfl⟩ X2.1 rfl rfl hl.1 rfl (Nat.le_of_ble_eq_true rfl) d_M_work_120 ⟨Nat.le_of_ble_eq_true rfl, Nat.le_of_ble_eq_true rfl⟩) h (fun r_38 w_37 H locs h hcp1 => ?_)
      refine lv_istore_n (lv' := [(2, .int r_38), (3, .int (nI un)), (0, .ref (q 0)), (1, .int y)]) hx hb d_M_work_123 rfl hl (by decide) rfl (fun ls hl => ?_)
      refine lv_goto (tgt := 134) hx hb d_M_work_124 (by decide) ?_
      refine lv_lconst (v := 0) hx hb d_M_work_134 (by decide) ?_
      rw [hn2] at hcp1
      rcases Nat.lt_or_ge κ.2.2.2.2 (lnU (uof (cmdN F ci))) with hlt | hge
      · obtain ⟨-, X3, hf3⟩ := hcp1.2 hlt
        exact mx_retl G h hrt hlocks d_M_work_135 (⟨rfl, _, un + 1, Nat.le_refl _, by rw [stoF, if_neg (by omega)]; exact ⟨X3, hG2⟩, hsf1.tr mkF_SF, (hf1.tr hf2).tr hf3⟩)
      · obtain ⟨-, X3, hf3⟩ := hcp1.1 hge
        have hG3 := hG2.store (u := un) (us' := κ.2.1) (by omega) (by have h9 := hG1.2.2.2.2.2.1; have h8 := congrArg List.length hG1.1; rw [List.length_map] at h8; omega) (LG.live_st hG1)
        rw [hn2] at hG3
        exact mx_retl G h hrt hlocks d_M_work_135 (⟨rfl, _, un + 1, Nat.le_refl _, by rw [stoF, if_pos hge]; exact ⟨X3, hG3⟩, (hsf1.tr mkF_SF).tr SF.st, (hf1.tr hf2).tr hf3⟩)
    · refine lv_lconst (v := 0) hx hb d_M_work_100 (by decide) ?_
      have e9 : forA (uof (cmdN F ci)) (fl, us, sn, pg, bd) = (empK (fl, us, sn, pg, bd)).2 := by simp only [forA]; rw [if_neg (bI_0 c_33)]
      have e8 : carA lim 2 (uof (cmdN F ci)) (fl, us, sn, pg, bd) = (0, (empK (fl, us, sn, pg, bd)).2) := by rw [← e9]; rfl
      exact mx_retl G h hrt hlocks d_M_work_101 (by rw [e8]; exact ⟨rfl, E1, un, by omega, V1, hsf1, hf1⟩)
  · refine lv_aload_n hx hb d_M_work_0 rfl (lv_at hl 0 rfl) ?_
    refine mx_get G h X.1 rfl 12 (by decide) (tb_in in_M) (tb_c k_324) rfl rfl d_M_work_1 ?_
    refine lv_iload_n hx hb d_M_work_4 rfl (lv_at hl 1 rfl) ?_
    refine ax_i G h (X.2.1 12 (by decide)) ci hyu (by omega) (by decide) d_M_work_5 ?_
    refine lv_if_ne (tgt := 15) hx hb d_M_work_6 (by decide) (fun c_39 => ?_) (fun c_39 => absurd (hk.symm.trans c_39) (by decide))
    refine lv_aload_n hx hb d_M_work_15 rfl (lv_at hl 0 rfl) ?_
    refine mx_get G h X.1 rfl 12 (by decide) (tb_in in_M) (tb_c k_324) rfl rfl d_M_work_16 ?_
    refine lv_iload_n hx hb d_M_work_19 rfl (lv_at hl 1 rfl) ?_
    refine ax_i G h (X.2.1 12 (by decide)) ci hyu (by omega) (by decide) d_M_work_20 ?_
    refine lv_iconst (v := 5) hx hb d_M_work_21 (by decide) ?_
    refine lv_icmp_ne (tgt := 32) hx hb d_M_work_22 (by decide) (fun c_40 => ?_) (fun c_40 => absurd (hk.symm.trans c_40) (by decide))
    refine lv_aload_n hx hb d_M_work_32 rfl (lv_at hl 0 rfl) ?_
    refine mx_get G h X.1 rfl 12 (by decide) (tb_in in_M) (tb_c k_324) rfl rfl d_M_work_33 ?_
    refine lv_iload_n hx hb d_M_work_36 rfl (lv_at hl 1 rfl) ?_
    refine ax_i G h (X.2.1 12 (by decide)) ci hyu (by omega) (by decide) d_M_work_37 ?_
    refine lv_iconst (v := 3) hx hb d_M_work_38 (by decide) ?_
    refine lv_icmp_ne (tgt := 55) hx hb d_M_work_39 (by decide) (fun c_41 => absurd hk c_41) (fun c_41 => ?_)
    refine lv_aload_n hx hb d_M_work_42 rfl (lv_at hl 0 rfl) ?_
    refine mx_ci (cV (As := []) (rest := []) G h (m_M_inCache X hun hcm hcp) k_434 k_436 ks_23 k_7 k_437 hd_M_inCache rfl rfl ⟨Nat.le_of_ble_eq_true rfl, Nat.le_of_ble_eq_true rfl⟩ X.1 rfl rfl hl.1 rfl (Nat.le_of_ble_eq_true rfl) d_M_work_43 ⟨Nat.le_of_ble_eq_true rfl, Nat.le_of_ble_eq_true rfl⟩) h (fun r_43 w_42 H locs h hcp1 => ?_)
    obtain ⟨er_44, ew_45⟩ := hcp1
    subst er_44
    rw [ew_45] at h
    have et_46 : nI (liveN F un).length = nI us.length := by rw [hlen]
    rw [et_46]
    refine lv_istore_n (lv' := [(2, .int (nI us.length)), (0, .ref (q 0)), (1, .int y)]) hx hb d_M_work_46 rfl hl (by decide) rfl (fun ls hl => ?_)
    refine lv_aload_n hx hb d_M_work_47 rfl (lv_at hl 1 rfl) ?_
    refine mx_ci (cV (As := []) (rest := []) G h (m_M_empty Y hcm hcp hbd) k_438 k_440 ks_24 k_7 k_441 hd_M_empty rfl rfl ⟨Nat.le_of_ble_eq_true rfl, Nat.le_of_ble_eq_true rfl⟩ X.1 rfl rfl hl.1 rfl (Nat.le_of_ble_eq_true rfl) d_M_work_48 ⟨Nat.le_of_ble_eq_true rfl, Nat.le_of_ble_eq_true rfl⟩) h (fun r_48 w_47 H locs h hcp1 => ?_)
    obtain ⟨-, E1, V1, hsf1, hf1⟩ := hcp1
    refine lv_istore_n (lv' := [(3, .int r_48), (2, .int (nI us.length)), (0, .ref (q 0)), (1, .int y)]) hx hb d_M_work_51 rfl hl (by decide) rfl (fun ls hl => ?_)
    refine lv_iload_n hx hb d_M_work_52 rfl (lv_at hl 1 rfl) ?_
    refine lv_i2l hx hb d_M_work_53 rfl ?_
    exact mx_retl G h hrt hlocks d_M_work_54 (⟨rfl, E1, un, by omega, V1, hsf1, hf1⟩)
  · refine lv_aload_n hx hb d_M_work_0 rfl (lv_at hl 0 rfl) ?_
    refine mx_get G h X.1 rfl 12 (by decide) (tb_in in_M) (tb_c k_324) rfl rfl d_M_work_1 ?_
    refine lv_iload_n hx hb d_M_work_4 rfl (lv_at hl 1 rfl) ?_
    refine ax_i G h (X.2.1 12 (by decide)) ci hyu (by omega) (by decide) d_M_work_5 ?_
    refine lv_if_ne (tgt := 15) hx hb d_M_work_6 (by decide) (fun c_49 => ?_) (fun c_49 => absurd (hk.symm.trans c_49) (by decide))
    refine lv_aload_n hx hb d_M_work_15 rfl (lv_at hl 0 rfl) ?_
    refine mx_get G h X.1 rfl 12 (by decide) (tb_in in_M) (tb_c k_324) rfl rfl d_M_work_16 ?_
    refine lv_iload_n hx hb d_M_work_19 rfl (lv_at hl 1 rfl) ?_
    refine ax_i G h (X.2.1 12 (by decide)) ci hyu (by omega) (by decide) d_M_work_20 ?_
    refine lv_iconst (v := 5) hx hb d_M_work_21 (by decide) ?_
    refine lv_icmp_ne (tgt := 32) hx hb d_M_work_22 (by decide) (fun c_50 => ?_) (fun c_50 => absurd (hk.symm.trans c_50) (by decide))
    refine lv_aload_n hx hb d_M_work_32 rfl (lv_at hl 0 rfl) ?_
    refine mx_get G h X.1 rfl 12 (by decide) (tb_in in_M) (tb_c k_324) rfl rfl d_M_work_33 ?_
    refine lv_iload_n hx hb d_M_work_36 rfl (lv_at hl 1 rfl) ?_
    refine ax_i G h (X.2.1 12 (by decide)) ci hyu (by omega) (by decide) d_M_work_37 ?_
    refine lv_iconst (v := 3) hx hb d_M_work_38 (by decide) ?_
    refine lv_icmp_ne (tgt := 55) hx hb d_M_work_39 (by decide) (fun c_51 => ?_) (fun c_51 => absurd (hk.symm.trans c_51) (by decide))
    refine lv_aload_n hx hb d_M_work_55 rfl (lv_at hl 0 rfl) ?_
    refine mx_get G h X.1 rfl 12 (by decide) (tb_in in_M) (tb_c k_324) rfl rfl d_M_work_56 ?_
    refine lv_iload_n hx hb d_M_work_59 rfl (lv_at hl 1 rfl) ?_
    refine ax_i G h (X.2.1 12 (by decide)) ci hyu (by omega) (by decide) d_M_work_60 ?_
    refine lv_iconst (v := 2) hx hb d_M_work_61 (by decide) ?_
    refine lv_icmp_ne (tgt := 72) hx hb d_M_work_62 (by decide) (fun c_52 => ?_) (fun c_52 => absurd (hk.symm.trans c_52) (by decide))
    have e8 : carA lim 4 (uof (cmdN F ci)) (fl, us, sn, pg, bd) = (0, cacA lim (uof (cmdN F ci)) (fl, us, sn, pg, bd)) := rfl
    rw [e8]
    have add : ∀ (κ : kS) (E : Nat → Nat → Int32) (v : mw), MC cA v ρ q lim un cm cp tk rs E R κ → SF F E → FR w v (P7 ρ) → cacA lim (uof (cmdN F ci)) (fl, us, sn, pg, bd) = (κ.1, κ.2.1 ++ [(uof (cmdN F ci))], κ.2.2) → ∀ (H : Heap) (locs : List Loc) (ls : Array Slot), mw_H n0 D cl s v H locs → lv_has ls 4 [(2, .int 1), (0, .ref (q 0)), (1, .int y)] → W p l e (rmd 4) s m ([.ref (q 0), .int y] : List Value).toArray below meth c H locs 0 0 (MQ below (mw_Ql n0 D cl (fun r w' => r = ((0 : Int64), cacA lim (uof (cmdN F ci)) (fl, us, sn, pg, bd)).1 ∧ ∃ F' un', un' ≤ un + 1 ∧ MC cA w' ρ q lim un' cm cp tk rs F' R ((0 : Int64), cacA lim (uof (cmdN F ci)) (fl, us, sn, pg, bd)).2 ∧ SF F F' ∧ FR w w' (P7 ρ))) ([.ref (q 0), .int y] : List Value).toArray s 0 0 (mw_A n0)) (F0 m 102 ls []) := by
      intro κ E v V hsf hfr he H locs ls h hl
      obtain ⟨X1, hG1⟩ := id V
      have ec : cmdN E ci = cmdN F ci := cmdN_SF hsf
      refine lv_aload_n hx hb d_M_work_102 rfl (lv_at hl 1 rfl) ?_
      refine lv_iload_n hx hb d_M_work_103 rfl (lv_at hl 2 rfl) ?_
      refine mx_ci (cV (As := [.int y]) (rest := []) G h (m_M_make X1 (ci := ci) (by omega) (by omega) hyu) k_450 k_452 ks_27 k_7 k_453 hd_M_make rfl rfl ⟨Nat.le_of_ble_eq_true rfl, Nat.le_of_ble_eq_true rfl⟩ X1.1 rfl rfl hl.1 rfl (Nat.le_of_ble_eq_true rfl) d_M_work_104 ⟨Nat.le_of_ble_eq_true rfl, Nat.le_of_ble_eq_true rfl⟩) h (fun r_54 w_53 H locs h hcp1 => ?_)
      obtain ⟨er2, X2, hf2⟩ := hcp1
      subst er2
      have hk2 : mkF E un ci 12 ci = nI 4 := by rw [mkF_SF 12 (by decide), hsf 12 (by decide)]; exact hk
      refine lv_istore_n (lv' := [(3, .int (nI un)), (2, .int 1), (0, .ref (q 0)), (1, .int y)]) hx hb d_M_work_107 rfl hl (by decide) rfl (fun ls hl => ?_)
      refine lv_aload_n hx hb d_M_work_108 rfl (lv_at hl 2 rfl) ?_
      refine mx_get G h X2.1 rfl 12 (by decide) (tb_in in_M) (tb_c k_324) rfl rfl d_M_work_109 ?_
      refine lv_iload_n hx hb d_M_work_112 rfl (lv_at hl 3 rfl) ?_
      refine ax_i G h (X2.2.1 12 (by decide)) ci hyu (by omega) (by decide) d_M_work_113 ?_
      refine lv_iconst (v := 2) hx hb d_M_work_114 (by decide) ?_
      refine lv_icmp_ne (tgt := 127) hx hb d_M_work_115 (by decide) (fun c_55 => ?_) (fun c_55 => absurd (hk2.symm.trans c_55) (by decide))
      refine lv_aload_n hx hb d_M_work_127 rfl (lv_at hl 2 rfl) ?_
      refine mx_get G h X2.1 rfl 6 (by decide) (tb_in in_M) (tb_c k_318) rfl rfl d_M_work_128 ?_
      refine lv_iload_n hx hb d_M_work_131 rfl (lv_at hl 0 rfl) ?_
      refine lv_iconst (v := 1) hx hb d_M_work_132 (by decide) ?_
      refine ax_sz G h (X2.2.2.1 6 (by decide)) un rfl (by omega) (by decide) (by decide) d_M_work_133 (fun H locs h => ?_)
      have h : mw_H n0 D cl s (mw_up w_53 (q 6) (.inl (cA 2, 520, .inl (upd ((mkF E un ci) 6) un 1)))) H locs := h
      obtain ⟨w_56, ew_56⟩ : ∃ xx : mw, mw_up w_53 (q 6) (.inl (cA 2, 520, .inl (upd ((mkF E un ci) 6) un 1))) = xx := ⟨_, rfl⟩
      rw [ew_56] at h
      have f_57 : w_56 (q 6) = some (.inl (cA 2, 520, .inl (upd ((mkF E un ci) 6) un 1))) := by rw [← ew_56]; exact mw_self
      have X3 : MX cA w_56 ρ q lim (un + 1) κ.2.2.1 κ.2.2.2.1 κ.2.2.2.2 cm cp tk rs (va_up (mkF E un ci) 6 (upd (E 6) un 1)) R := by rw [← ew_56]; exact X2.putZ 6 (by decide) _
      have hf3 : FR w w_56 (P7 ρ) := (hfr.tr hf2).tr (by rw [← ew_56]; exact FQ (X.2.2.2.2.2.2.1 6 (by decide)))
      have hG3 := hG1.makeC (c := ci) (by omega) (by rw [ec]; exact hV (by decide))
      rw [ec] at hG3
      refine lv_lconst (v := 0) hx hb d_M_work_134 (by decide) ?_
      exact mx_retl G h hrt hlocks d_M_work_135 (⟨rfl, _, un + 1, Nat.le_refl _, by rw [he]; exact ⟨X3, hG3⟩, (hsf.tr mkF_SF).up6, hf3⟩)
    refine lv_aload_n hx hb d_M_work_72 rfl (lv_at hl 0 rfl) ?_
    refine mx_ci (cV (As := []) (rest := []) G h (m_M_inCache X hun hcm hcp) k_434 k_436 ks_23 k_7 k_437 hd_M_inCache rfl rfl ⟨Nat.le_of_ble_eq_true rfl, Nat.le_of_ble_eq_true rfl⟩ X.1 rfl rfl hl.1 rfl (Nat.le_of_ble_eq_true rfl) d_M_work_73 ⟨Nat.le_of_ble_eq_true rfl, Nat.le_of_ble_eq_true rfl⟩) h (fun r_59 w_58 H locs h hcp1 => ?_)
    obtain ⟨er_60, ew_61⟩ := hcp1
    subst er_60
    rw [ew_61] at h
    have et_62 : nI (liveN F un).length = nI us.length := by rw [hlen]
    rw [et_62]
    refine lv_aload_n hx hb d_M_work_76 rfl (lv_at hl 0 rfl) ?_
    refine mx_get G h X.1 rfl 0 (by decide) (tb_in in_M) (tb_c k_312) rfl rfl d_M_work_77 ?_
    refine lv_icmp_lt (tgt := 90) hx hb d_M_work_80 (by decide) (fun c_63 => ?_) (fun c_63 => ?_)
    · have hlt : us.length < lim := (nI_ltI (by omega) (by omega)).mp c_63
      refine lv_iconst (v := 1) hx hb d_M_work_90 (by decide) ?_
      refine lv_goto (tgt := 95) hx hb d_M_work_91 (by decide) ?_
      refine lv_istore_n (lv' := [(2, .int 1), (0, .ref (q 0)), (1, .int y)]) hx hb d_M_work_95 rfl hl (by decide) rfl (fun ls hl => ?_)
      refine lv_iload_n hx hb d_M_work_96 rfl (lv_at hl 0 rfl) ?_
      refine lv_if_ne (tgt := 102) hx hb d_M_work_97 (by decide) (fun c_64 => ?_) (fun c_64 => absurd c_64 (by decide))
      exact add (fl, us, sn, pg, bd) F w Y SF.rf FR.rf (by simp only [cacA]; rw [if_neg (by omega)]) H locs ls h (lv_sub hl [0, 1, 2] rfl)
    · have hge : lim ≤ us.length := Nat.not_lt.mp (fun z => c_63 ((nI_ltI (by omega) (by omega)).mpr z))
      refine lv_aload_n hx hb d_M_work_83 rfl (lv_at hl 0 rfl) ?_
      refine mx_ci (cV (As := []) (rest := []) G h (m_M_storeOldest Y hcm hcp hbd) k_442 k_444 ks_25 k_7 k_445 hd_M_storeOldest rfl rfl ⟨Nat.le_of_ble_eq_true rfl, Nat.le_of_ble_eq_true rfl⟩ X.1 rfl rfl hl.1 rfl (Nat.le_of_ble_eq_true rfl) d_M_work_84 ⟨Nat.le_of_ble_eq_true rfl, Nat.le_of_ble_eq_true rfl⟩) h (fun r_66 w_65 H locs h hcp1 => ?_)
      obtain ⟨er, E1, V1, hsf1, hf1⟩ := hcp1
      subst er
      refine lv_if_eq (tgt := 94) hx hb d_M_work_87 (by decide) (fun c_67 => ?_) (fun c_67 => ?_)
      · refine lv_iconst (v := 0) hx hb d_M_work_94 (by decide) ?_
        refine lv_istore_n (lv' := [(2, .int 0), (0, .ref (q 0)), (1, .int y)]) hx hb d_M_work_95 rfl hl (by decide) rfl (fun ls hl => ?_)
        refine lv_iload_n hx hb d_M_work_96 rfl (lv_at hl 0 rfl) ?_
        refine lv_if_ne (tgt := 102) hx hb d_M_work_97 (by decide) (fun c_68 => absurd rfl c_68) (fun c_68 => ?_)
        refine lv_lconst (v := 0) hx hb d_M_work_100 (by decide) ?_
        exact mx_retl G h hrt hlocks d_M_work_101 (⟨rfl, E1, un, by omega, by simp only [cacA]; rw [if_pos hge, if_neg (bI_0 c_67)]; exact V1, hsf1, hf1⟩)
      · refine lv_iconst (v := 1) hx hb d_M_work_90 (by decide) ?_
        refine lv_goto (tgt := 95) hx hb d_M_work_91 (by decide) ?_
        refine lv_istore_n (lv' := [(2, .int 1), (0, .ref (q 0)), (1, .int y)]) hx hb d_M_work_95 rfl hl (by decide) rfl (fun ls hl => ?_)
        refine lv_iload_n hx hb d_M_work_96 rfl (lv_at hl 0 rfl) ?_
        refine lv_if_ne (tgt := 102) hx hb d_M_work_97 (by decide) (fun c_69 => ?_) (fun c_69 => absurd c_69 (by decide))
        exact add (stoO (fl, us, sn, pg, bd)).2 E1 _ V1 hsf1 hf1 (by simp only [cacA]; rw [if_pos hge, if_pos (bI_n c_67)]) H locs ls h (lv_sub hl [0, 1, 2] rfl)
  · refine lv_aload_n hx hb d_M_work_0 rfl (lv_at hl 0 rfl) ?_
    refine mx_get G h X.1 rfl 12 (by decide) (tb_in in_M) (tb_c k_324) rfl rfl d_M_work_1 ?_
    refine lv_iload_n hx hb d_M_work_4 rfl (lv_at hl 1 rfl) ?_
    refine ax_i G h (X.2.1 12 (by decide)) ci hyu (by omega) (by decide) d_M_work_5 ?_
    refine lv_if_ne (tgt := 15) hx hb d_M_work_6 (by decide) (fun c_70 => ?_) (fun c_70 => absurd (hk.symm.trans c_70) (by decide))
    refine lv_aload_n hx hb d_M_work_15 rfl (lv_at hl 0 rfl) ?_
    refine mx_get G h X.1 rfl 12 (by decide) (tb_in in_M) (tb_c k_324) rfl rfl d_M_work_16 ?_
    refine lv_iload_n hx hb d_M_work_19 rfl (lv_at hl 1 rfl) ?_
    refine ax_i G h (X.2.1 12 (by decide)) ci hyu (by omega) (by decide) d_M_work_20 ?_
    refine lv_iconst (v := 5) hx hb d_M_work_21 (by decide) ?_
    refine lv_icmp_ne (tgt := 32) hx hb d_M_work_22 (by decide) (fun c_71 => absurd hk c_71) (fun c_71 => ?_)
    refine lv_aload_n hx hb d_M_work_25 rfl (lv_at hl 0 rfl) ?_
    refine lv_iload_n hx hb d_M_work_26 rfl (lv_at hl 1 rfl) ?_
    refine mx_ci (cV (As := [.int y]) (rest := []) G h (m_M_differing Y hcm hcp hbd (by omega) hyu (u := (uof (cmdN F ci))) rfl rfl (hV (by decide)) rfl (bI_f (by rw [show (cmdN F ci).2.1 = nI 5 from hk]; decide))) k_430 k_432 ks_22 k_7 k_433 hd_M_differing rfl rfl ⟨Nat.le_of_ble_eq_true rfl, Nat.le_of_ble_eq_true rfl⟩ X.1 rfl rfl hl.1 rfl (Nat.le_of_ble_eq_true rfl) d_M_work_27 ⟨Nat.le_of_ble_eq_true rfl, Nat.le_of_ble_eq_true rfl⟩) h (fun r_73 w_72 H locs h hcp1 => ?_)
    obtain ⟨er_74, ew_75⟩ := hcp1
    subst er_74
    rw [ew_75] at h
    refine lv_i2l hx hb d_M_work_30 rfl ?_
    exact mx_retl G h hrt hlocks d_M_work_31 (⟨rfl, F, un, by omega, Y, SF.rf, FR.rf⟩)
