theorem lt6 {x : Int32} : x < 6 ↔ x ≤ 5 := by
  rw [Int32.lt_iff_toInt_lt, Int32.le_iff_toInt_le]
  have h1 : (6 : Int32).toInt = 6 := rfl
  have h2 : (5 : Int32).toInt = 5 := rfl
  omega
theorem lt31 {x : Int32} : x < 31 ↔ x ≤ 30 := by
  rw [Int32.lt_iff_toInt_lt, Int32.le_iff_toInt_le]
  have h1 : (31 : Int32).toInt = 31 := rfl
  have h2 : (30 : Int32).toInt = 30 := rfl
  omega
theorem lt25 {a n : Int32} (h1 : 1 ≤ n) (h4 : n ≤ 4) : a < 25 - n ↔ a ≤ 24 - n := by
  obtain ⟨nn, hn, rfl⟩ := ixL 4 rfl (by decide) (Int32.le_trans (by decide) h1) h4
  have e1 : (25 : Int32) - nI nn = nI (25 - nn) := pk_sub (a := 25) (b := nn) (by omega)
  have e2 : (24 : Int32) - nI nn = nI (24 - nn) := pk_sub (a := 24) (b := nn) (by omega)
  rw [e1, e2, Int32.lt_iff_toInt_lt, Int32.le_iff_toInt_le, nI_toInt (by omega), nI_toInt (by omega)]
  omega
def sbF (F : Nat → Nat → Int32) (c : Nat) (x kd a n v : Int32) : Nat → Nat → Int32 := va_up (va_up (va_up (va_up (va_up F 11 (upd (F 11) c x)) 12 (upd (F 12) c kd)) 13 (upd (F 13) c a)) 14 (upd (F 14) c n)) 15 (upd (F 15) c v)
theorem nI_j {i j : Nat} (hi : i < 3) (hj : j < 3) (h : nI i = nI j) : i = j := (nI_eq (by omega) (by omega)).mp h
theorem QN.sub {F : Nat → Nat → Int32} {R : Nat → Int64} {cm cp : Nat} {pq : Nat → List pC} {cq : Nat → List (Int32 × Int64)} (h : QN F R cm cp pq cq) {j : Nat} (hj : j < 3) (hl : (pq j).length < 4) {kd a n v : Int32} (hv : vC (nI (cm + 1), kd, a, n, v)) : QN (sbF F (cm + 1) (nI j) kd a n v) R (cm + 1) cp (va_up pq j (pq j ++ [(nI (cm + 1), kd, a, n, v)])) cq := by
  obtain ⟨h1, h2, h3, h4⟩ := h
  have o11 : ∀ c, c ≠ cm + 1 → sbF F (cm + 1) (nI j) kd a n v 11 c = F 11 c := fun c hc => by simp [sbF, va_up, upd, hc]
  have n11 : sbF F (cm + 1) (nI j) kd a n v 11 (cm + 1) = nI j := by simp [sbF, va_up, upd]
  have oc : ∀ c, c ≠ cm + 1 → cmdN (sbF F (cm + 1) (nI j) kd a n v) c = cmdN F c := fun c hc => by simp [cmdN, sbF, va_up, upd, hc]
  have nc : cmdN (sbF F (cm + 1) (nI j) kd a n v) (cm + 1) = (nI (cm + 1), kd, a, n, v) := by simp [cmdN, sbF, va_up, upd]
  have o17 : sbF F (cm + 1) (nI j) kd a n v 17 = F 17 := by simp [sbF, va_up]
  have o18 : sbF F (cm + 1) (nI j) kd a n v 18 = F 18 := by simp [sbF, va_up]
  refine ⟨fun i hi => ?_, fun i hi => ?_, fun i hi => ?_, fun c hc1 hc2 => ?_⟩
  · have hm : (pendN F cm (nI i)).map (cmdN (sbF F (cm + 1) (nI j) kd a n v)) = (pendN F cm (nI i)).map (cmdN F) := List.map_congr_left (fun c hc => oc c (by have := (pendN_mem.mp hc).1.2; omega))
    rw [pendN_s, n11, pendN_congr (F' := sbF F (cm + 1) (nI j) kd a n v) (F := F) (fun c _ hc => by rw [o11 c (by omega)])]
    by_cases e : i = j
    · subst e
      rw [if_pos rfl, List.map_append, hm, ← h1 i hi, List.map_cons, List.map_nil, nc]
      simp only [va_up, if_true]
    · rw [if_neg (fun z => e (nI_j hi hj z.symm)), hm, ← h1 i hi]
      simp only [va_up, if_neg e]
  · rw [h2 i hi, doneN_congr (F' := sbF F (cm + 1) (nI j) kd a n v) (F := F) (fun c _ => by rw [o17]), o18]
  · refine ⟨?_, (h3 i hi).2⟩
    by_cases e : i = j
    · subst e; simp only [va_up, if_true, List.length_append, List.length_cons, List.length_nil]; omega
    · simp only [va_up, if_neg e]; exact (h3 i hi).1
  · by_cases e : c = cm + 1
    · rw [e, nc]; exact hv
    · rw [oc c e]; exact h4 c hc1 (by omega)
theorem QN.sf {F F' : Nat → Nat → Int32} {R : Nat → Int64} {cm cp : Nat} {pq : Nat → List pC} {cq : Nat → List (Int32 × Int64)} (h : QN F R cm cp pq cq) (hs : SF F F') : QN F' R cm cp pq cq := by
  obtain ⟨h1, h2, h3, h4⟩ := h
  refine ⟨fun i hi => ?_, fun i hi => ?_, h3, fun c a b => by rw [cmdN_SF hs]; exact h4 c a b⟩
  · rw [h1 i hi, pendN_congr (F' := F') (F := F) (fun c _ _ => by rw [hs 11 (by decide)])]
    exact List.map_congr_left (fun c _ => (cmdN_SF hs).symm)
  · rw [h2 i hi, doneN_congr (F' := F') (F := F) (fun c _ => by rw [hs 17 (by decide)]), hs 18 (by decide)]
theorem map_erase {α β : Type} {f : α → β} : ∀ {l : List α} {i : Nat}, (l.map f).eraseIdx i = (l.eraseIdx i).map f
  | [], _ => rfl
  | a :: l, 0 => rfl
  | a :: l, i + 1 => by
    rw [List.map_cons, List.eraseIdx_cons_succ, List.eraseIdx_cons_succ, List.map_cons, map_erase]
theorem carA_pl {L kd : Nat} {u : uU} {κ : kS} : (carA L kd u κ).2.2.2.2.2 ≤ κ.2.2.2.2 := by
  unfold carA
  by_cases c0 : kd = 0
  · rw [if_pos c0]; exact Nat.le_refl _
  · rw [if_neg c0]
    by_cases c1 : kd = 1 ∨ kd = 4
    · rw [if_pos c1]
      simp only [cacA]
      by_cases cl : L ≤ κ.2.1.length
      · rw [if_pos cl]
        split
        · exact stoO_pl
        · exact stoO_pl
      · rw [if_neg cl]; exact Nat.le_refl _
    · rw [if_neg c1]
      by_cases c2 : kd = 2
      · rw [if_pos c2]
        simp only [forA]
        have hc : (empK κ).2.2.2.2.2 ≤ κ.2.2.2.2 := empA_pl
        split
        · simp only [stoF]
          split
          · show (empK κ).2.2.2.2.2 - lnU u ≤ _; omega
          · exact Nat.zero_le _
        · exact hc
      · rw [if_neg c2]
        by_cases c3 : kd = 3
        · rw [if_pos c3]; exact empA_pl
        · rw [if_neg c3]; exact Nat.le_refl _
def dnF (F : Nat → Nat → Int32) (cp c : Nat) (x : Int32) : Nat → Nat → Int32 := va_up (va_up (va_up F 17 (upd (F 17) cp x)) 18 (upd (F 18) cp (nI c))) 11 (upd (F 11) c (-1))
theorem m1ne (j : Nat) (hj : j < 3) : (-1 : Int32) ≠ nI j := by
  rcases (show j = 0 ∨ j = 1 ∨ j = 2 by omega) with rfl | rfl | rfl <;> decide
theorem QN.step {F : Nat → Nat → Int32} {R : Nat → Int64} {cm cp : Nat} {pq : Nat → List pC} {cq : Nat → List (Int32 × Int64)} (h : QN F R cm cp pq cq) {j i c : Nat} (hj : j < 3) (hc : (pendN F cm (nI j))[i]? = some c) (hl : (cq j).length < 4) (r : Int64) : QN (dnF F cp c (nI j)) (vp_updL R cp r) cm (cp + 1) (va_up pq j ((pq j).eraseIdx i)) (va_up cq j (cq j ++ [(nI c, r)])) := by
  obtain ⟨h1, h2, h3, h4⟩ := h
  have hcm := (pendN_mem.mp (List.mem_of_getElem? hc))
  have e11 : dnF F cp c (nI j) 11 = va_up F 11 (upd (F 11) c (-1)) 11 := by simp [dnF, va_up]
  have n17 : dnF F cp c (nI j) 17 cp = nI j := by simp [dnF, va_up, upd]
  have o17 : ∀ k, k ≠ cp → dnF F cp c (nI j) 17 k = F 17 k := fun k hk => by simp [dnF, va_up, upd, hk]
  have n18 : dnF F cp c (nI j) 18 cp = nI c := by simp [dnF, va_up, upd]
  have o18 : ∀ k, k ≠ cp → dnF F cp c (nI j) 18 k = F 18 k := fun k hk => by simp [dnF, va_up, upd, hk]
  have oc : ∀ k, cmdN (dnF F cp c (nI j)) k = cmdN F k := fun k => by simp [cmdN, dnF, va_up]
  refine ⟨fun i2 hi => ?_, fun i2 hi => ?_, fun i2 hi => ⟨?_, ?_⟩, fun k a b => by rw [oc]; exact h4 k a b⟩
  · have em : ∀ l : List Nat, l.map (cmdN (dnF F cp c (nI j))) = l.map (cmdN F) := fun l => List.map_congr_left (fun k _ => oc k)
    rw [em, pendN_congr (F' := dnF F cp c (nI j)) (F := va_up F 11 (upd (F 11) c (-1))) (fun k _ _ => by rw [e11]), pendN_off (m1ne i2 hi)]
    by_cases e : i2 = j
    · subst e
      rw [filt_ne pendN_nd hc]
      simp only [va_up, if_true]
      rw [h1 i2 hi, map_erase]
    · simp only [va_up, if_neg e]
      rw [List.filter_eq_self.mpr (fun k hk => by simp; intro z; subst z; exact e (nI_j hi hj ((pendN_mem.mp hk).2.symm.trans hcm.2))), h1 i2 hi]
  · rw [doneN_s, n17, doneN_congr (F' := dnF F cp c (nI j)) (F := F) (fun k hk => by rw [o17 k (by omega)])]
    have em : ∀ x, (doneN F cp x).map (fun i => (dnF F cp c (nI j) 18 i, vp_updL R cp r i)) = (doneN F cp x).map (fun i => (F 18 i, R i)) := fun x => List.map_congr_left (fun k hk => by have := (doneN_mem.mp hk).1; rw [o18 k (by omega)]; simp only [vp_updL]; rw [if_neg (by omega)])
    by_cases e : i2 = j
    · subst e
      rw [if_pos rfl, List.map_append, em, ← h2 i2 hi]
      simp only [va_up, if_true, List.map_cons, List.map_nil, n18, vp_updL]
    · rw [if_neg (fun z => e (nI_j hi hj z.symm)), em, ← h2 i2 hi]
      simp only [va_up, if_neg e]
  · by_cases e : i2 = j
    · subst e; simp only [va_up, if_true]; exact Nat.le_trans (List.length_eraseIdx_le _ _) (h3 i2 hi).1
    · simp only [va_up, if_neg e]; exact (h3 i2 hi).1
  · by_cases e : i2 = j
    · subst e; simp only [va_up, if_true, List.length_append, List.length_cons, List.length_nil]; omega
    · simp only [va_up, if_neg e]; exact (h3 i2 hi).2
theorem QN.take {F : Nat → Nat → Int32} {R : Nat → Int64} {cm cp : Nat} {pq : Nat → List pC} {cq : Nat → List (Int32 × Int64)} (h : QN F R cm cp pq cq) {j i : Nat} (hj : j < 3) {rr : List Nat} (hc : doneN F cp (nI j) = i :: rr) : QN (va_up F 17 (upd (F 17) i (-1))) R cm cp pq (va_up cq j (rr.map (fun i => (F 18 i, R i)))) := by
  obtain ⟨h1, h2, h3, h4⟩ := h
  have hci := doneN_mem.mp (show i ∈ doneN F cp (nI j) by rw [hc]; exact List.mem_cons_self)
  have e11 : va_up F 17 (upd (F 17) i (-1)) 11 = F 11 := by simp [va_up]
  have e18 : va_up F 17 (upd (F 17) i (-1)) 18 = F 18 := by simp [va_up]
  have oc : ∀ k, cmdN (va_up F 17 (upd (F 17) i (-1))) k = cmdN F k := fun k => by simp [cmdN, va_up]
  refine ⟨fun i2 hi => ?_, fun i2 hi => ?_, fun i2 hi => ⟨(h3 i2 hi).1, ?_⟩, fun k a b => by rw [oc]; exact h4 k a b⟩
  · rw [h1 i2 hi, pendN_congr (F' := va_up F 17 (upd (F 17) i (-1))) (F := F) (fun k _ _ => by rw [e11])]
    exact List.map_congr_left (fun k _ => (oc k).symm)
  · rw [doneN_off (m1ne i2 hi), e18]
    by_cases e : i2 = j
    · subst e
      rw [filt_ne (i := 0) doneN_nd (by rw [hc]; rfl), hc]
      simp only [va_up, if_true, List.eraseIdx_cons_zero]
    · simp only [va_up, if_neg e]
      rw [List.filter_eq_self.mpr (fun k hk => by simp; intro z; subst z; exact e (nI_j hi hj ((doneN_mem.mp hk).2.symm.trans hci.2))), h2 i2 hi]
  · by_cases e : i2 = j
    · subst e
      simp only [va_up, if_true, List.length_map]
      have := (h3 i2 hi).2
      rw [h2 i2 hi, hc] at this
      simp at this
      omega
    · simp only [va_up, if_neg e]; exact (h3 i2 hi).2
theorem doneN_pre (F : Nat → Nat → Int32) (n : Nat) (x : Int32) : ∀ t : Nat, ∃ r, doneN F (n + t) x = doneN F n x ++ r
  | 0 => ⟨[], by simp⟩
  | t + 1 => by
    obtain ⟨r, hr⟩ := doneN_pre F n x t
    rw [show n + (t + 1) = n + t + 1 by omega, doneN_s]
    split
    · exact ⟨r ++ [n + t], by rw [hr, List.append_assoc]⟩
    · exact ⟨r, hr⟩
theorem d_M_submit_0 : decode b_M_submit 0 = .ok (.iload_n 1, 1) := by decide +kernel
theorem d_M_submit_1 : decode b_M_submit 1 = .ok (.iconst 3, 1) := by decide +kernel
theorem d_M_submit_2 : decode b_M_submit 2 = .ok (.invokestatic 122, 3) := by decide +kernel
theorem d_M_submit_5 : decode b_M_submit 5 = .ok (.ifCond .eq 12, 3) := by decide +kernel
theorem d_M_submit_8 : decode b_M_submit 8 = .ok (.iload_n 2, 1) := by decide +kernel
theorem d_M_submit_9 : decode b_M_submit 9 = .ok (.bipush 6, 2) := by decide +kernel
theorem d_M_submit_11 : decode b_M_submit 11 = .ok (.invokestatic 122, 3) := by decide +kernel
theorem d_M_submit_14 : decode b_M_submit 14 = .ok (.ifCond .ne 5, 3) := by decide +kernel
theorem d_M_submit_17 : decode b_M_submit 17 = .ok (.iconst (-1), 1) := by decide +kernel
theorem d_M_submit_18 : decode b_M_submit 18 = .ok (.ireturn, 1) := by decide +kernel
theorem d_M_submit_19 : decode b_M_submit 19 = .ok (.iload_n 2, 1) := by decide +kernel
theorem d_M_submit_20 : decode b_M_submit 20 = .ok (.iconst 3, 1) := by decide +kernel
theorem d_M_submit_21 : decode b_M_submit 21 = .ok (.if_icmp .eq 29, 3) := by decide +kernel
theorem d_M_submit_24 : decode b_M_submit 24 = .ok (.iload 4, 2) := by decide +kernel
theorem d_M_submit_26 : decode b_M_submit 26 = .ok (.iconst 1, 1) := by decide +kernel
theorem d_M_submit_27 : decode b_M_submit 27 = .ok (.if_icmp .lt 21, 3) := by decide +kernel
theorem d_M_submit_30 : decode b_M_submit 30 = .ok (.iload 4, 2) := by decide +kernel
theorem d_M_submit_32 : decode b_M_submit 32 = .ok (.iconst 4, 1) := by decide +kernel
theorem d_M_submit_33 : decode b_M_submit 33 = .ok (.if_icmp .gt 15, 3) := by decide +kernel
theorem d_M_submit_36 : decode b_M_submit 36 = .ok (.iload_n 3, 1) := by decide +kernel
theorem d_M_submit_37 : decode b_M_submit 37 = .ok (.bipush 25, 2) := by decide +kernel
theorem d_M_submit_39 : decode b_M_submit 39 = .ok (.iload 4, 2) := by decide +kernel
theorem d_M_submit_41 : decode b_M_submit 41 = .ok (.isub, 1) := by decide +kernel
theorem d_M_submit_42 : decode b_M_submit 42 = .ok (.invokestatic 122, 3) := by decide +kernel
theorem d_M_submit_45 : decode b_M_submit 45 = .ok (.ifCond .ne 5, 3) := by decide +kernel
theorem d_M_submit_48 : decode b_M_submit 48 = .ok (.iconst (-1), 1) := by decide +kernel
theorem d_M_submit_49 : decode b_M_submit 49 = .ok (.ireturn, 1) := by decide +kernel
theorem d_M_submit_50 : decode b_M_submit 50 = .ok (.aload_n 0, 1) := by decide +kernel
theorem d_M_submit_51 : decode b_M_submit 51 = .ok (.iload_n 1, 1) := by decide +kernel
theorem d_M_submit_52 : decode b_M_submit 52 = .ok (.invokevirtual 125, 3) := by decide +kernel
theorem d_M_submit_55 : decode b_M_submit 55 = .ok (.iconst 4, 1) := by decide +kernel
theorem d_M_submit_56 : decode b_M_submit 56 = .ok (.if_icmp .ne 6, 3) := by decide +kernel
theorem d_M_submit_59 : decode b_M_submit 59 = .ok (.bipush (-2), 2) := by decide +kernel
theorem d_M_submit_61 : decode b_M_submit 61 = .ok (.ireturn, 1) := by decide +kernel
theorem d_M_submit_62 : decode b_M_submit 62 = .ok (.aload_n 0, 1) := by decide +kernel
theorem d_M_submit_63 : decode b_M_submit 63 = .ok (.dup, 1) := by decide +kernel
theorem d_M_submit_64 : decode b_M_submit 64 = .ok (.getfield 116, 3) := by decide +kernel
theorem d_M_submit_67 : decode b_M_submit 67 = .ok (.iconst 1, 1) := by decide +kernel
theorem d_M_submit_68 : decode b_M_submit 68 = .ok (.iadd, 1) := by decide +kernel
theorem d_M_submit_69 : decode b_M_submit 69 = .ok (.putfield 116, 3) := by decide +kernel
theorem d_M_submit_72 : decode b_M_submit 72 = .ok (.aload_n 0, 1) := by decide +kernel
theorem d_M_submit_73 : decode b_M_submit 73 = .ok (.getfield 29, 3) := by decide +kernel
theorem d_M_submit_76 : decode b_M_submit 76 = .ok (.aload_n 0, 1) := by decide +kernel
theorem d_M_submit_77 : decode b_M_submit 77 = .ok (.getfield 116, 3) := by decide +kernel
theorem d_M_submit_80 : decode b_M_submit 80 = .ok (.iload_n 1, 1) := by decide +kernel
theorem d_M_submit_81 : decode b_M_submit 81 = .ok (.iastore, 1) := by decide +kernel
theorem d_M_submit_82 : decode b_M_submit 82 = .ok (.aload_n 0, 1) := by decide +kernel
theorem d_M_submit_83 : decode b_M_submit 83 = .ok (.getfield 32, 3) := by decide +kernel
theorem d_M_submit_86 : decode b_M_submit 86 = .ok (.aload_n 0, 1) := by decide +kernel
theorem d_M_submit_87 : decode b_M_submit 87 = .ok (.getfield 116, 3) := by decide +kernel
theorem d_M_submit_90 : decode b_M_submit 90 = .ok (.iload_n 2, 1) := by decide +kernel
theorem d_M_submit_91 : decode b_M_submit 91 = .ok (.iastore, 1) := by decide +kernel
theorem d_M_submit_92 : decode b_M_submit 92 = .ok (.aload_n 0, 1) := by decide +kernel
theorem d_M_submit_93 : decode b_M_submit 93 = .ok (.getfield 35, 3) := by decide +kernel
theorem d_M_submit_96 : decode b_M_submit 96 = .ok (.aload_n 0, 1) := by decide +kernel
theorem d_M_submit_97 : decode b_M_submit 97 = .ok (.getfield 116, 3) := by decide +kernel
theorem d_M_submit_100 : decode b_M_submit 100 = .ok (.iload_n 3, 1) := by decide +kernel
theorem d_M_submit_101 : decode b_M_submit 101 = .ok (.iastore, 1) := by decide +kernel
theorem d_M_submit_102 : decode b_M_submit 102 = .ok (.aload_n 0, 1) := by decide +kernel
theorem d_M_submit_103 : decode b_M_submit 103 = .ok (.getfield 38, 3) := by decide +kernel
theorem d_M_submit_106 : decode b_M_submit 106 = .ok (.aload_n 0, 1) := by decide +kernel
theorem d_M_submit_107 : decode b_M_submit 107 = .ok (.getfield 116, 3) := by decide +kernel
theorem d_M_submit_110 : decode b_M_submit 110 = .ok (.iload 4, 2) := by decide +kernel
theorem d_M_submit_112 : decode b_M_submit 112 = .ok (.iastore, 1) := by decide +kernel
theorem d_M_submit_113 : decode b_M_submit 113 = .ok (.aload_n 0, 1) := by decide +kernel
theorem d_M_submit_114 : decode b_M_submit 114 = .ok (.getfield 41, 3) := by decide +kernel
theorem d_M_submit_117 : decode b_M_submit 117 = .ok (.aload_n 0, 1) := by decide +kernel
theorem d_M_submit_118 : decode b_M_submit 118 = .ok (.getfield 116, 3) := by decide +kernel
theorem d_M_submit_121 : decode b_M_submit 121 = .ok (.iload 5, 2) := by decide +kernel
theorem d_M_submit_123 : decode b_M_submit 123 = .ok (.iastore, 1) := by decide +kernel
theorem d_M_submit_124 : decode b_M_submit 124 = .ok (.aload_n 0, 1) := by decide +kernel
theorem d_M_submit_125 : decode b_M_submit 125 = .ok (.getfield 116, 3) := by decide +kernel
theorem d_M_submit_128 : decode b_M_submit 128 = .ok (.ireturn, 1) := by decide +kernel
theorem d_M_step_0 : decode b_M_step 0 = .ok (.iload_n 1, 1) := by decide +kernel
theorem d_M_step_1 : decode b_M_step 1 = .ok (.iconst 3, 1) := by decide +kernel
theorem d_M_step_2 : decode b_M_step 2 = .ok (.invokestatic 122, 3) := by decide +kernel
theorem d_M_step_5 : decode b_M_step 5 = .ok (.ifCond .eq 20, 3) := by decide +kernel
theorem d_M_step_8 : decode b_M_step 8 = .ok (.iload_n 2, 1) := by decide +kernel
theorem d_M_step_9 : decode b_M_step 9 = .ok (.iconst 4, 1) := by decide +kernel
theorem d_M_step_10 : decode b_M_step 10 = .ok (.invokestatic 122, 3) := by decide +kernel
theorem d_M_step_13 : decode b_M_step 13 = .ok (.ifCond .eq 12, 3) := by decide +kernel
theorem d_M_step_16 : decode b_M_step 16 = .ok (.aload_n 0, 1) := by decide +kernel
theorem d_M_step_17 : decode b_M_step 17 = .ok (.iload_n 1, 1) := by decide +kernel
theorem d_M_step_18 : decode b_M_step 18 = .ok (.iload_n 2, 1) := by decide +kernel
theorem d_M_step_19 : decode b_M_step 19 = .ok (.invokevirtual 128, 3) := by decide +kernel
theorem d_M_step_22 : decode b_M_step 22 = .ok (.ifCond .ne 5, 3) := by decide +kernel
theorem d_M_step_25 : decode b_M_step 25 = .ok (.iconst (-1), 1) := by decide +kernel
theorem d_M_step_26 : decode b_M_step 26 = .ok (.ireturn, 1) := by decide +kernel
theorem d_M_step_27 : decode b_M_step 27 = .ok (.aload_n 0, 1) := by decide +kernel
theorem d_M_step_28 : decode b_M_step 28 = .ok (.iload_n 1, 1) := by decide +kernel
theorem d_M_step_29 : decode b_M_step 29 = .ok (.invokevirtual 132, 3) := by decide +kernel
theorem d_M_step_32 : decode b_M_step 32 = .ok (.iconst 4, 1) := by decide +kernel
theorem d_M_step_33 : decode b_M_step 33 = .ok (.if_icmp .ne 6, 3) := by decide +kernel
theorem d_M_step_36 : decode b_M_step 36 = .ok (.bipush (-3), 2) := by decide +kernel
theorem d_M_step_38 : decode b_M_step 38 = .ok (.ireturn, 1) := by decide +kernel
theorem d_M_step_39 : decode b_M_step 39 = .ok (.aload_n 0, 1) := by decide +kernel
theorem d_M_step_40 : decode b_M_step 40 = .ok (.iload_n 1, 1) := by decide +kernel
theorem d_M_step_41 : decode b_M_step 41 = .ok (.iload_n 2, 1) := by decide +kernel
theorem d_M_step_42 : decode b_M_step 42 = .ok (.invokevirtual 128, 3) := by decide +kernel
theorem d_M_step_45 : decode b_M_step 45 = .ok (.istore_n 3, 1) := by decide +kernel
theorem d_M_step_46 : decode b_M_step 46 = .ok (.aload_n 0, 1) := by decide +kernel
theorem d_M_step_47 : decode b_M_step 47 = .ok (.bipush 100, 2) := by decide +kernel
theorem d_M_step_49 : decode b_M_step 49 = .ok (.putfield 79, 3) := by decide +kernel
theorem d_M_step_52 : decode b_M_step 52 = .ok (.aload_n 0, 1) := by decide +kernel
theorem d_M_step_53 : decode b_M_step 53 = .ok (.getfield 50, 3) := by decide +kernel
theorem d_M_step_56 : decode b_M_step 56 = .ok (.aload_n 0, 1) := by decide +kernel
theorem d_M_step_57 : decode b_M_step 57 = .ok (.getfield 119, 3) := by decide +kernel
theorem d_M_step_60 : decode b_M_step 60 = .ok (.aload_n 0, 1) := by decide +kernel
theorem d_M_step_61 : decode b_M_step 61 = .ok (.iload_n 3, 1) := by decide +kernel
theorem d_M_step_62 : decode b_M_step 62 = .ok (.invokevirtual 135, 3) := by decide +kernel
theorem d_M_step_65 : decode b_M_step 65 = .ok (.lastore, 1) := by decide +kernel
theorem d_M_step_66 : decode b_M_step 66 = .ok (.aload_n 0, 1) := by decide +kernel
theorem d_M_step_67 : decode b_M_step 67 = .ok (.getfield 44, 3) := by decide +kernel
theorem d_M_step_70 : decode b_M_step 70 = .ok (.aload_n 0, 1) := by decide +kernel
theorem d_M_step_71 : decode b_M_step 71 = .ok (.getfield 119, 3) := by decide +kernel
theorem d_M_step_74 : decode b_M_step 74 = .ok (.iload_n 1, 1) := by decide +kernel
theorem d_M_step_75 : decode b_M_step 75 = .ok (.iastore, 1) := by decide +kernel
theorem d_M_step_76 : decode b_M_step 76 = .ok (.aload_n 0, 1) := by decide +kernel
theorem d_M_step_77 : decode b_M_step 77 = .ok (.getfield 47, 3) := by decide +kernel
theorem d_M_step_80 : decode b_M_step 80 = .ok (.aload_n 0, 1) := by decide +kernel
theorem d_M_step_81 : decode b_M_step 81 = .ok (.getfield 119, 3) := by decide +kernel
theorem d_M_step_84 : decode b_M_step 84 = .ok (.iload_n 3, 1) := by decide +kernel
theorem d_M_step_85 : decode b_M_step 85 = .ok (.iastore, 1) := by decide +kernel
theorem d_M_step_86 : decode b_M_step 86 = .ok (.aload_n 0, 1) := by decide +kernel
theorem d_M_step_87 : decode b_M_step 87 = .ok (.dup, 1) := by decide +kernel
theorem d_M_step_88 : decode b_M_step 88 = .ok (.getfield 119, 3) := by decide +kernel
theorem d_M_step_91 : decode b_M_step 91 = .ok (.iconst 1, 1) := by decide +kernel
theorem d_M_step_92 : decode b_M_step 92 = .ok (.iadd, 1) := by decide +kernel
theorem d_M_step_93 : decode b_M_step 93 = .ok (.putfield 119, 3) := by decide +kernel
theorem d_M_step_96 : decode b_M_step 96 = .ok (.aload_n 0, 1) := by decide +kernel
theorem d_M_step_97 : decode b_M_step 97 = .ok (.getfield 29, 3) := by decide +kernel
theorem d_M_step_100 : decode b_M_step 100 = .ok (.iload_n 3, 1) := by decide +kernel
theorem d_M_step_101 : decode b_M_step 101 = .ok (.iconst (-1), 1) := by decide +kernel
theorem d_M_step_102 : decode b_M_step 102 = .ok (.iastore, 1) := by decide +kernel
theorem d_M_step_103 : decode b_M_step 103 = .ok (.iload_n 3, 1) := by decide +kernel
theorem d_M_step_104 : decode b_M_step 104 = .ok (.ireturn, 1) := by decide +kernel
theorem d_M_take_0 : decode b_M_take 0 = .ok (.iload_n 1, 1) := by decide +kernel
theorem d_M_take_1 : decode b_M_take 1 = .ok (.iconst 3, 1) := by decide +kernel
theorem d_M_take_2 : decode b_M_take 2 = .ok (.invokestatic 122, 3) := by decide +kernel
theorem d_M_take_5 : decode b_M_take 5 = .ok (.ifCond .ne 5, 3) := by decide +kernel
theorem d_M_take_8 : decode b_M_take 8 = .ok (.iconst (-1), 1) := by decide +kernel
theorem d_M_take_9 : decode b_M_take 9 = .ok (.ireturn, 1) := by decide +kernel
theorem d_M_take_10 : decode b_M_take 10 = .ok (.iconst 0, 1) := by decide +kernel
theorem d_M_take_11 : decode b_M_take 11 = .ok (.istore_n 2, 1) := by decide +kernel
theorem d_M_take_12 : decode b_M_take 12 = .ok (.iload_n 2, 1) := by decide +kernel
theorem d_M_take_13 : decode b_M_take 13 = .ok (.aload_n 0, 1) := by decide +kernel
theorem d_M_take_14 : decode b_M_take 14 = .ok (.getfield 119, 3) := by decide +kernel
theorem d_M_take_17 : decode b_M_take 17 = .ok (.if_icmp .ge 51, 3) := by decide +kernel
theorem d_M_take_20 : decode b_M_take 20 = .ok (.aload_n 0, 1) := by decide +kernel
theorem d_M_take_21 : decode b_M_take 21 = .ok (.getfield 44, 3) := by decide +kernel
theorem d_M_take_24 : decode b_M_take 24 = .ok (.iload_n 2, 1) := by decide +kernel
theorem d_M_take_25 : decode b_M_take 25 = .ok (.iaload, 1) := by decide +kernel
theorem d_M_take_26 : decode b_M_take 26 = .ok (.iload_n 1, 1) := by decide +kernel
theorem d_M_take_27 : decode b_M_take 27 = .ok (.if_icmp .ne 35, 3) := by decide +kernel
theorem d_M_take_30 : decode b_M_take 30 = .ok (.aload_n 0, 1) := by decide +kernel
theorem d_M_take_31 : decode b_M_take 31 = .ok (.getfield 44, 3) := by decide +kernel
theorem d_M_take_34 : decode b_M_take 34 = .ok (.iload_n 2, 1) := by decide +kernel
theorem d_M_take_35 : decode b_M_take 35 = .ok (.iconst (-1), 1) := by decide +kernel
theorem d_M_take_36 : decode b_M_take 36 = .ok (.iastore, 1) := by decide +kernel
theorem d_M_take_37 : decode b_M_take 37 = .ok (.aload_n 0, 1) := by decide +kernel
theorem d_M_take_38 : decode b_M_take 38 = .ok (.aload_n 0, 1) := by decide +kernel
theorem d_M_take_39 : decode b_M_take 39 = .ok (.getfield 47, 3) := by decide +kernel
theorem d_M_take_42 : decode b_M_take 42 = .ok (.iload_n 2, 1) := by decide +kernel
theorem d_M_take_43 : decode b_M_take 43 = .ok (.iaload, 1) := by decide +kernel
theorem d_M_take_44 : decode b_M_take 44 = .ok (.putfield 138, 3) := by decide +kernel
theorem d_M_take_47 : decode b_M_take 47 = .ok (.aload_n 0, 1) := by decide +kernel
theorem d_M_take_48 : decode b_M_take 48 = .ok (.aload_n 0, 1) := by decide +kernel
theorem d_M_take_49 : decode b_M_take 49 = .ok (.getfield 50, 3) := by decide +kernel
theorem d_M_take_52 : decode b_M_take 52 = .ok (.iload_n 2, 1) := by decide +kernel
theorem d_M_take_53 : decode b_M_take 53 = .ok (.laload, 1) := by decide +kernel
theorem d_M_take_54 : decode b_M_take 54 = .ok (.putfield 56, 3) := by decide +kernel
theorem d_M_take_57 : decode b_M_take 57 = .ok (.aload_n 0, 1) := by decide +kernel
theorem d_M_take_58 : decode b_M_take 58 = .ok (.getfield 138, 3) := by decide +kernel
theorem d_M_take_61 : decode b_M_take 61 = .ok (.ireturn, 1) := by decide +kernel
theorem d_M_take_62 : decode b_M_take 62 = .ok (.iinc 2 1, 3) := by decide +kernel
theorem d_M_take_65 : decode b_M_take 65 = .ok (.goto (-53), 3) := by decide +kernel
theorem d_M_take_68 : decode b_M_take 68 = .ok (.iconst (-1), 1) := by decide +kernel
theorem d_M_take_69 : decode b_M_take 69 = .ok (.ireturn, 1) := by decide +kernel
set_option maxHeartbeats 4000000 in
set_option maxRecDepth 100000 in
theorem m_M_submit {l : Launch} {D : va_G} {cA : Nat → ClassId} {n0 : Nat} {w : mw} {ρ q : Nat → Nat} {lim t : Nat} {fl : Nat → Int64} {us : List uU} {sn pw : Nat} {pq : Nat → List pC} {cq : Nat → List (Int32 × Int64)} {ln : Nat} {tn : Int32} {tr : Int64} (Y : MR cA w ρ q lim t (fl, us, sn, pw, pq, cq, ln, tn, tr)) (ht : t + 1 ≤ 512) {qu kd a n v : Int32} :
    Mi l D cA n0 y_M_submit c_M_submit (rmd 1) [.ref (q 0), .int qu, .int kd, .int a, .int n, .int v] w (fun r w' => r = (submitS (fl, us, sn, pw, pq, cq, ln, tn, tr) qu kd a n v).1 ∧ MR cA w' ρ q lim (t + 1) (submitS (fl, us, sn, pw, pq, cq, ln, tn, tr) qu kd a n v).2 ∧ FR w w' (P7 ρ)) := by
  refine mw_met (cc := b_M_submit) (maxL := 6) (ret := (some .int)) (by decide) rfl (Nat.le_of_ble_eq_true rfl) ?_
  intro p e s m below meth c ls G hrt hlocks hname h hl
  have G : mw_G p m c b_M_submit 6 s _ (c_M_submit :: TB) R_M D cl (tys cA) n0 := G
  have hx := G.1.1
  have hb := G.1.2.1
  have hl : lv_has ls 6 [(0, .ref (q 0)), (1, .int qu), (2, .int kd), (3, .int a), (4, .int n), (5, .int v)] := hl
  obtain ⟨un, cp, bd, F, R, V, hut, hct, hpt, hbd, hQN⟩ := id Y
  have V : MC cA w ρ q lim un ln cp tn tr F R (fl, us, sn, pw, bd) := V
  have hct : ln ≤ t := hct
  have hQN : QN F R ln cp pq cq := hQN
  obtain ⟨X, hG⟩ := id V
  have X : MX cA w ρ q lim un sn pw bd ln cp tn tr F R := X
  have hG : LG F un sn fl us := hG
  obtain ⟨hQp, hQc, hQl, hQv⟩ := id hQN
  have hun : un ≤ 512 := by omega
  have hcm : ln ≤ 512 := by omega
  have hcp : cp ≤ 512 := by omega
  refine lv_iload_n hx hb d_M_submit_0 rfl (lv_at hl 1 rfl) ?_
  refine lv_iconst (v := 3) hx hb d_M_submit_1 (by decide) ?_
  refine mx_ci (cS (As := [.int qu, .int 3]) (rest := []) G h (m_M_in (x := qu) (n := 3)) k_387 k_388 k_7 k_389 rfl hd_M_in rfl rfl ⟨Nat.le_of_ble_eq_true rfl, Nat.le_of_ble_eq_true rfl⟩ rfl hl.1 rfl (Nat.le_of_ble_eq_true rfl) d_M_submit_2 ⟨Nat.le_of_ble_eq_true rfl, Nat.le_of_ble_eq_true rfl⟩) h (fun r_2 w_1 H locs h hcp1 => ?_)
  obtain ⟨er_3, ew_4⟩ := hcp1
  subst er_3
  rw [ew_4] at h
  refine lv_if_eq (tgt := 17) hx hb d_M_submit_5 (by decide) (fun c_5 => ?_) (fun c_5 => ?_)
  · refine lv_iconst (v := (-1)) hx hb d_M_submit_17 (by decide) ?_
    have e9 : submitS (fl, us, sn, pw, pq, cq, ln, tn, tr) qu kd a n v = (-1, (fl, us, sn, pw, pq, cq, ln, tn, tr)) := by simp only [submitS]; rw [if_neg (fun z => bI_0 c_5 z.1)]
    exact mx_reti G h hrt hlocks d_M_submit_18 (by rw [e9]; exact ⟨rfl, ⟨un, cp, bd, F, R, V, by omega, Nat.le_succ_of_le hct, by omega, hbd, hQN⟩, FR.rf⟩)
  · refine lv_iload_n hx hb d_M_submit_8 rfl (lv_at hl 2 rfl) ?_
    refine lv_bipush (v := 6) hx hb d_M_submit_9 (by decide) ?_
    refine mx_ci (cS (As := [.int kd, .int 6]) (rest := []) G h (m_M_in (x := kd) (n := 6)) k_387 k_388 k_7 k_389 rfl hd_M_in rfl rfl ⟨Nat.le_of_ble_eq_true rfl, Nat.le_of_ble_eq_true rfl⟩ rfl hl.1 rfl (Nat.le_of_ble_eq_true rfl) d_M_submit_11 ⟨Nat.le_of_ble_eq_true rfl, Nat.le_of_ble_eq_true rfl⟩) h (fun r_7 w_6 H locs h hcp1 => ?_)
    obtain ⟨er_8, ew_9⟩ := hcp1
    subst er_8
    rw [ew_9] at h
    refine lv_if_ne (tgt := 19) hx hb d_M_submit_14 (by decide) (fun c_10 => ?_) (fun c_10 => ?_)
    · have hk0 : 0 ≤ kd := (bI_n c_10).1
      have hk5 : kd ≤ 5 := lt6.mp (bI_n c_10).2
      have hi3 := bI_n c_5
      obtain ⟨j, hj, hqj⟩ := ixQ 3 rfl (by decide) hi3.1 hi3.2
      have hqc : qu.toNatClampNeg = j := by rw [hqj]; exact nI_c (by omega)
      have hplen : (pendN F ln qu).length = (pq j).length := by rw [hqj, hQp j hj, List.length_map]
      have hclen : (doneN F cp qu).length = (cq j).length := by rw [hqj, hQc j hj, List.length_map]
      have hp4 := (hQl j hj).1
      have hc4 := (hQl j hj).2
      have main : (kd = 3 ∨ (1 ≤ n ∧ n ≤ 4 ∧ 0 ≤ a ∧ a ≤ 24 - n)) → ∀ (H : Heap) (locs : List Loc), mw_H n0 D cl s w H locs → W p l e (rmd 1) s m ([.ref (q 0), .int qu, .int kd, .int a, .int n, .int v] : List Value).toArray below meth c H locs 0 0 (MQ below (mw_Qi n0 D cl (fun r w' => r = (submitS (fl, us, sn, pw, pq, cq, ln, tn, tr) qu kd a n v).1 ∧ MR cA w' ρ q lim (t + 1) (submitS (fl, us, sn, pw, pq, cq, ln, tn, tr) qu kd a n v).2 ∧ FR w w' (P7 ρ))) ([.ref (q 0), .int qu, .int kd, .int a, .int n, .int v] : List Value).toArray s 0 0 (mw_A n0)) (F0 m 50 ls []) := by
        intro hok H locs h
        refine lv_aload_n hx hb d_M_submit_50 rfl (lv_at hl 0 rfl) ?_
        refine lv_iload_n hx hb d_M_submit_51 rfl (lv_at hl 1 rfl) ?_
        refine mx_ci (cV (As := [.int qu]) (rest := []) G h (m_M_pending X hun hcm hcp (x := qu)) k_390 k_392 ks_13 k_7 k_393 hd_M_pending rfl rfl ⟨Nat.le_of_ble_eq_true rfl, Nat.le_of_ble_eq_true rfl⟩ X.1 rfl rfl hl.1 rfl (Nat.le_of_ble_eq_true rfl) d_M_submit_52 ⟨Nat.le_of_ble_eq_true rfl, Nat.le_of_ble_eq_true rfl⟩) h (fun r_12 w_11 H locs h hcp1 => ?_)
        obtain ⟨er_13, ew_14⟩ := hcp1
        subst er_13
        rw [ew_14] at h
        have et_15 : nI (pendN F ln qu).length = nI (pq j).length := by rw [hplen]
        rw [et_15]
        refine lv_iconst (v := 4) hx hb d_M_submit_55 (by decide) ?_
        refine lv_icmp_ne (tgt := 62) hx hb d_M_submit_56 (by decide) (fun c_16 => ?_) (fun c_16 => ?_)
        · have hlt : (pq j).length < 4 := by
            rcases Nat.lt_or_ge (pq j).length 4 with z | z
            · exact z
            · exact absurd (by rw [show (pq j).length = 4 by omega]; rfl) c_16
          refine lv_aload_n hx hb d_M_submit_62 rfl (lv_at hl 0 rfl) ?_
          refine lv_dup hx hb d_M_submit_63 rfl ?_
          refine mx_get G h X.1 rfl 16 (by decide) (tb_in in_M) (tb_c k_328) rfl rfl d_M_submit_64 ?_
          refine lv_iconst (v := 1) hx hb d_M_submit_67 (by decide) ?_
          refine lv_iadd hx hb d_M_submit_68 ?_
          have et_17 : (nI ln) + 1 = nI (ln + 1) := nI_1 ln
          rw [et_17]
          refine mx_put G h X.1 rfl 16 (by decide) (tb_in in_M) t_M t_M_ok n_M (tb_c k_328) rfl rfl rfl rfl rfl (Nat.le_of_ble_eq_true rfl) d_M_submit_69 (fun H locs h => ?_)
          have h : mw_H n0 D cl s (mw_up w (q 0) (.inr (5, [.int (nI lim), .ref (q 1), .ref (q 2), .ref (q 3), .ref (q 4), .ref (q 5), .ref (q 6), .int (nI un), .int (nI sn), .int (nI pw), .int (nI bd), .ref (q 11), .ref (q 12), .ref (q 13), .ref (q 14), .ref (q 15), .int (nI (ln + 1)), .ref (q 17), .ref (q 18), .ref (q 19), .int (nI cp), .int tn, .long tr]))) H locs := h
          obtain ⟨w_18, ew_18⟩ : ∃ xx : mw, mw_up w (q 0) (.inr (5, [.int (nI lim), .ref (q 1), .ref (q 2), .ref (q 3), .ref (q 4), .ref (q 5), .ref (q 6), .int (nI un), .int (nI sn), .int (nI pw), .int (nI bd), .ref (q 11), .ref (q 12), .ref (q 13), .ref (q 14), .ref (q 15), .int (nI (ln + 1)), .ref (q 17), .ref (q 18), .ref (q 19), .int (nI cp), .int tn, .long tr])) = xx := ⟨_, rfl⟩
          rw [ew_18] at h
          have f_19 : w_18 (q 0) = some (.inr (5, [.int (nI lim), .ref (q 1), .ref (q 2), .ref (q 3), .ref (q 4), .ref (q 5), .ref (q 6), .int (nI un), .int (nI sn), .int (nI pw), .int (nI bd), .ref (q 11), .ref (q 12), .ref (q 13), .ref (q 14), .ref (q 15), .int (nI (ln + 1)), .ref (q 17), .ref (q 18), .ref (q 19), .int (nI cp), .int tn, .long tr])) := by rw [← ew_18]; exact mw_self
          have X0 : MX cA w_18 ρ q lim un sn pw bd (ln + 1) cp tn tr F R := by rw [← ew_18]; exact X.put0 un sn pw bd (ln + 1) cp tn tr
          have hfr0 : FR w w_18 (P7 ρ) := by rw [← ew_18]; exact FQ X.2.2.2.2.2.1
          refine lv_aload_n hx hb d_M_submit_72 rfl (lv_at hl 0 rfl) ?_
          refine mx_get G h X0.1 rfl 11 (by decide) (tb_in in_M) (tb_c k_323) rfl rfl d_M_submit_73 ?_
          refine lv_aload_n hx hb d_M_submit_76 rfl (lv_at hl 0 rfl) ?_
          refine mx_get G h X0.1 rfl 16 (by decide) (tb_in in_M) (tb_c k_328) rfl rfl d_M_submit_77 ?_
          refine lv_iload_n hx hb d_M_submit_80 rfl (lv_at hl 1 rfl) ?_
          refine ax_si G h (X0.2.1 11 (by decide)) (ln + 1) rfl (by omega) (by decide) d_M_submit_81 (fun H locs h => ?_)
          have h : mw_H n0 D cl s (mw_up w_18 (q 11) (.inl (cA 0, 520, .inl (upd (F 11) (ln + 1) qu)))) H locs := h
          obtain ⟨w_20, ew_20⟩ : ∃ xx : mw, mw_up w_18 (q 11) (.inl (cA 0, 520, .inl (upd (F 11) (ln + 1) qu))) = xx := ⟨_, rfl⟩
          rw [ew_20] at h
          have f_21 : w_20 (q 11) = some (.inl (cA 0, 520, .inl (upd (F 11) (ln + 1) qu))) := by rw [← ew_20]; exact mw_self
          have X1 : MX cA w_20 ρ q lim un sn pw bd (ln + 1) cp tn tr (va_up F 11 (upd (F 11) (ln + 1) qu)) R := by rw [← ew_20]; exact X0.putI 11 (by decide) _
          have hfr1 : FR w w_20 (P7 ρ) := hfr0.tr (by rw [← ew_20]; exact FQ (X.2.2.2.2.2.2.1 11 (by decide)))
          refine lv_aload_n hx hb d_M_submit_82 rfl (lv_at hl 0 rfl) ?_
          refine mx_get G h X1.1 rfl 12 (by decide) (tb_in in_M) (tb_c k_324) rfl rfl d_M_submit_83 ?_
          refine lv_aload_n hx hb d_M_submit_86 rfl (lv_at hl 0 rfl) ?_
          refine mx_get G h X1.1 rfl 16 (by decide) (tb_in in_M) (tb_c k_328) rfl rfl d_M_submit_87 ?_
          refine lv_iload_n hx hb d_M_submit_90 rfl (lv_at hl 2 rfl) ?_
          refine ax_si G h (X1.2.1 12 (by decide)) (ln + 1) rfl (by omega) (by decide) d_M_submit_91 (fun H locs h => ?_)
          have h : mw_H n0 D cl s (mw_up w_20 (q 12) (.inl (cA 0, 520, .inl (upd (F 12) (ln + 1) kd)))) H locs := h
          obtain ⟨w_22, ew_22⟩ : ∃ xx : mw, mw_up w_20 (q 12) (.inl (cA 0, 520, .inl (upd (F 12) (ln + 1) kd))) = xx := ⟨_, rfl⟩
          rw [ew_22] at h
          have f_23 : w_22 (q 12) = some (.inl (cA 0, 520, .inl (upd (F 12) (ln + 1) kd))) := by rw [← ew_22]; exact mw_self
          have X2 : MX cA w_22 ρ q lim un sn pw bd (ln + 1) cp tn tr (va_up (va_up F 11 (upd (F 11) (ln + 1) qu)) 12 (upd (F 12) (ln + 1) kd)) R := by rw [← ew_22]; exact X1.putI 12 (by decide) _
          have hfr2 : FR w w_22 (P7 ρ) := hfr1.tr (by rw [← ew_22]; exact FQ (X.2.2.2.2.2.2.1 12 (by decide)))
          refine lv_aload_n hx hb d_M_submit_92 rfl (lv_at hl 0 rfl) ?_
          refine mx_get G h X2.1 rfl 13 (by decide) (tb_in in_M) (tb_c k_325) rfl rfl d_M_submit_93 ?_
          refine lv_aload_n hx hb d_M_submit_96 rfl (lv_at hl 0 rfl) ?_
          refine mx_get G h X2.1 rfl 16 (by decide) (tb_in in_M) (tb_c k_328) rfl rfl d_M_submit_97 ?_
          refine lv_iload_n hx hb d_M_submit_100 rfl (lv_at hl 3 rfl) ?_
          refine ax_si G h (X2.2.1 13 (by decide)) (ln + 1) rfl (by omega) (by decide) d_M_submit_101 (fun H locs h => ?_)
          have h : mw_H n0 D cl s (mw_up w_22 (q 13) (.inl (cA 0, 520, .inl (upd (F 13) (ln + 1) a)))) H locs := h
          obtain ⟨w_24, ew_24⟩ : ∃ xx : mw, mw_up w_22 (q 13) (.inl (cA 0, 520, .inl (upd (F 13) (ln + 1) a))) = xx := ⟨_, rfl⟩
          rw [ew_24] at h
          have f_25 : w_24 (q 13) = some (.inl (cA 0, 520, .inl (upd (F 13) (ln + 1) a))) := by rw [← ew_24]; exact mw_self
          have X3 : MX cA w_24 ρ q lim un sn pw bd (ln + 1) cp tn tr (va_up (va_up (va_up F 11 (upd (F 11) (ln + 1) qu)) 12 (upd (F 12) (ln + 1) kd)) 13 (upd (F 13) (ln + 1) a)) R := by rw [← ew_24]; exact X2.putI 13 (by decide) _
          have hfr3 : FR w w_24 (P7 ρ) := hfr2.tr (by rw [← ew_24]; exact FQ (X.2.2.2.2.2.2.1 13 (by decide)))
          refine lv_aload_n hx hb d_M_submit_102 rfl (lv_at hl 0 rfl) ?_
          refine mx_get G h X3.1 rfl 14 (by decide) (tb_in in_M) (tb_c k_326) rfl rfl d_M_submit_103 ?_
          refine lv_aload_n hx hb d_M_submit_106 rfl (lv_at hl 0 rfl) ?_
          refine mx_get G h X3.1 rfl 16 (by decide) (tb_in in_M) (tb_c k_328) rfl rfl d_M_submit_107 ?_
          refine lv_iload hx hb d_M_submit_110 (lv_at hl 4 rfl) ?_
          refine ax_si G h (X3.2.1 14 (by decide)) (ln + 1) rfl (by omega) (by decide) d_M_submit_112 (fun H locs h => ?_)
          have h : mw_H n0 D cl s (mw_up w_24 (q 14) (.inl (cA 0, 520, .inl (upd (F 14) (ln + 1) n)))) H locs := h
          obtain ⟨w_26, ew_26⟩ : ∃ xx : mw, mw_up w_24 (q 14) (.inl (cA 0, 520, .inl (upd (F 14) (ln + 1) n))) = xx := ⟨_, rfl⟩
          rw [ew_26] at h
          have f_27 : w_26 (q 14) = some (.inl (cA 0, 520, .inl (upd (F 14) (ln + 1) n))) := by rw [← ew_26]; exact mw_self
          have X4 : MX cA w_26 ρ q lim un sn pw bd (ln + 1) cp tn tr (va_up (va_up (va_up (va_up F 11 (upd (F 11) (ln + 1) qu)) 12 (upd (F 12) (ln + 1) kd)) 13 (upd (F 13) (ln + 1) a)) 14 (upd (F 14) (ln + 1) n)) R := by rw [← ew_26]; exact X3.putI 14 (by decide) _
          have hfr4 : FR w w_26 (P7 ρ) := hfr3.tr (by rw [← ew_26]; exact FQ (X.2.2.2.2.2.2.1 14 (by decide)))
          refine lv_aload_n hx hb d_M_submit_113 rfl (lv_at hl 0 rfl) ?_
          refine mx_get G h X4.1 rfl 15 (by decide) (tb_in in_M) (tb_c k_327) rfl rfl d_M_submit_114 ?_
          refine lv_aload_n hx hb d_M_submit_117 rfl (lv_at hl 0 rfl) ?_
          refine mx_get G h X4.1 rfl 16 (by decide) (tb_in in_M) (tb_c k_328) rfl rfl d_M_submit_118 ?_
          refine lv_iload hx hb d_M_submit_121 (lv_at hl 5 rfl) ?_
          refine ax_si G h (X4.2.1 15 (by decide)) (ln + 1) rfl (by omega) (by decide) d_M_submit_123 (fun H locs h => ?_)
          have h : mw_H n0 D cl s (mw_up w_26 (q 15) (.inl (cA 0, 520, .inl (upd (F 15) (ln + 1) v)))) H locs := h
          obtain ⟨w_28, ew_28⟩ : ∃ xx : mw, mw_up w_26 (q 15) (.inl (cA 0, 520, .inl (upd (F 15) (ln + 1) v))) = xx := ⟨_, rfl⟩
          rw [ew_28] at h
          have f_29 : w_28 (q 15) = some (.inl (cA 0, 520, .inl (upd (F 15) (ln + 1) v))) := by rw [← ew_28]; exact mw_self
          have X5 : MX cA w_28 ρ q lim un sn pw bd (ln + 1) cp tn tr (va_up (va_up (va_up (va_up (va_up F 11 (upd (F 11) (ln + 1) qu)) 12 (upd (F 12) (ln + 1) kd)) 13 (upd (F 13) (ln + 1) a)) 14 (upd (F 14) (ln + 1) n)) 15 (upd (F 15) (ln + 1) v)) R := by rw [← ew_28]; exact X4.putI 15 (by decide) _
          have hfr5 : FR w w_28 (P7 ρ) := hfr4.tr (by rw [← ew_28]; exact FQ (X.2.2.2.2.2.2.1 15 (by decide)))
          refine lv_aload_n hx hb d_M_submit_124 rfl (lv_at hl 0 rfl) ?_
          refine mx_get G h X5.1 rfl 16 (by decide) (tb_in in_M) (tb_c k_328) rfl rfl d_M_submit_125 ?_
          have e9 : submitS (fl, us, sn, pw, pq, cq, ln, tn, tr) qu kd a n v = (nI (ln + 1), (fl, us, sn, pw, va_up pq j (pq j ++ [(nI (ln + 1), kd, a, n, v)]), cq, ln + 1, tn, tr)) := by simp only [submitS]; rw [if_pos ⟨hi3, hk0, hk5⟩, if_pos hok, hqc, if_neg (by omega)]
          have hQ9 := hQN.sub hj hlt (vC_of (x := nI (ln + 1)) (v := v) hk0 hk5 hok)
          rw [← hqj] at hQ9
          have hG9 : LG (sbF F (ln + 1) qu kd a n v) un sn fl us := hG.cong (fun i hi => by rcases (show i = 0 ∨ i = 1 ∨ i = 2 ∨ i = 3 ∨ i = 4 ∨ i = 5 ∨ i = 6 by omega) with rfl | rfl | rfl | rfl | rfl | rfl | rfl <;> simp [sbF, va_up])
          exact mx_reti G h hrt hlocks d_M_submit_128 (by rw [e9]; exact ⟨rfl, ⟨un, cp, bd, _, R, ⟨X5, hG9⟩, by omega, Nat.succ_le_succ hct, by omega, hbd, hQ9⟩, hfr5⟩)
        · refine lv_bipush (v := -2) hx hb d_M_submit_59 (by decide) ?_
          have hge : (pq j).length = 4 := (nI_eq (by omega) (by decide)).mp c_16
          have e9 : submitS (fl, us, sn, pw, pq, cq, ln, tn, tr) qu kd a n v = (-2, (fl, us, sn, pw, pq, cq, ln, tn, tr)) := by simp only [submitS]; rw [if_pos ⟨hi3, hk0, hk5⟩, if_pos hok, hqc, if_pos (by omega)]
          exact mx_reti G h hrt hlocks d_M_submit_61 (by rw [e9]; exact ⟨rfl, ⟨un, cp, bd, F, R, V, by omega, Nat.le_succ_of_le hct, by omega, hbd, hQN⟩, FR.rf⟩)
      refine lv_iload_n hx hb d_M_submit_19 rfl (lv_at hl 2 rfl) ?_
      refine lv_iconst (v := 3) hx hb d_M_submit_20 (by decide) ?_
      refine lv_icmp_eq (tgt := 50) hx hb d_M_submit_21 (by decide) (fun c_30 => ?_) (fun c_30 => ?_)
      · exact main (Or.inl c_30) H locs h
      · refine lv_iload hx hb d_M_submit_24 (lv_at hl 4 rfl) ?_
        refine lv_iconst (v := 1) hx hb d_M_submit_26 (by decide) ?_
        refine lv_icmp_lt (tgt := 48) hx hb d_M_submit_27 (by decide) (fun c_31 => ?_) (fun c_31 => ?_)
        · refine lv_iconst (v := (-1)) hx hb d_M_submit_48 (by decide) ?_
          have e9 : submitS (fl, us, sn, pw, pq, cq, ln, tn, tr) qu kd a n v = (-1, (fl, us, sn, pw, pq, cq, ln, tn, tr)) := by simp only [submitS]; rw [if_pos ⟨hi3, hk0, hk5⟩, if_neg (fun z => z.elim c_30 (fun y => absurd y.1 (Int32.not_le.mpr c_31)))]
          exact mx_reti G h hrt hlocks d_M_submit_49 (by rw [e9]; exact ⟨rfl, ⟨un, cp, bd, F, R, V, by omega, Nat.le_succ_of_le hct, by omega, hbd, hQN⟩, FR.rf⟩)
        · refine lv_iload hx hb d_M_submit_30 (lv_at hl 4 rfl) ?_
          refine lv_iconst (v := 4) hx hb d_M_submit_32 (by decide) ?_
          refine lv_icmp_gt (tgt := 48) hx hb d_M_submit_33 (by decide) (fun c_32 => ?_) (fun c_32 => ?_)
          · refine lv_iconst (v := (-1)) hx hb d_M_submit_48 (by decide) ?_
            have e9 : submitS (fl, us, sn, pw, pq, cq, ln, tn, tr) qu kd a n v = (-1, (fl, us, sn, pw, pq, cq, ln, tn, tr)) := by simp only [submitS]; rw [if_pos ⟨hi3, hk0, hk5⟩, if_neg (fun z => z.elim c_30 (fun y => absurd y.2.1 (Int32.not_le.mpr c_32)))]
            exact mx_reti G h hrt hlocks d_M_submit_49 (by rw [e9]; exact ⟨rfl, ⟨un, cp, bd, F, R, V, by omega, Nat.le_succ_of_le hct, by omega, hbd, hQN⟩, FR.rf⟩)
          · have hn1 : 1 ≤ n := Int32.not_lt.mp c_31
            have hn4 : n ≤ 4 := Int32.not_lt.mp c_32
            refine lv_iload_n hx hb d_M_submit_36 rfl (lv_at hl 3 rfl) ?_
            refine lv_bipush (v := 25) hx hb d_M_submit_37 (by decide) ?_
            refine lv_iload hx hb d_M_submit_39 (lv_at hl 4 rfl) ?_
            refine lv_isub hx hb d_M_submit_41 ?_
            refine mx_ci (cS (As := [.int a, .int (25 - n)]) (rest := []) G h (m_M_in (x := a) (n := 25 - n)) k_387 k_388 k_7 k_389 rfl hd_M_in rfl rfl ⟨Nat.le_of_ble_eq_true rfl, Nat.le_of_ble_eq_true rfl⟩ rfl hl.1 rfl (Nat.le_of_ble_eq_true rfl) d_M_submit_42 ⟨Nat.le_of_ble_eq_true rfl, Nat.le_of_ble_eq_true rfl⟩) h (fun r_34 w_33 H locs h hcp1 => ?_)
            obtain ⟨er_35, ew_36⟩ := hcp1
            subst er_35
            rw [ew_36] at h
            refine lv_if_ne (tgt := 50) hx hb d_M_submit_45 (by decide) (fun c_37 => ?_) (fun c_37 => ?_)
            · exact main (Or.inr ⟨hn1, hn4, (bI_n c_37).1, (lt25 hn1 hn4).mp (bI_n c_37).2⟩) H locs h
            · refine lv_iconst (v := (-1)) hx hb d_M_submit_48 (by decide) ?_
              have e9 : submitS (fl, us, sn, pw, pq, cq, ln, tn, tr) qu kd a n v = (-1, (fl, us, sn, pw, pq, cq, ln, tn, tr)) := by simp only [submitS]; rw [if_pos ⟨hi3, hk0, hk5⟩, if_neg (fun z => z.elim c_30 (fun y => bI_0 c_37 ⟨y.2.2.1, (lt25 hn1 hn4).mpr y.2.2.2⟩))]
              exact mx_reti G h hrt hlocks d_M_submit_49 (by rw [e9]; exact ⟨rfl, ⟨un, cp, bd, F, R, V, by omega, Nat.le_succ_of_le hct, by omega, hbd, hQN⟩, FR.rf⟩)
    · refine lv_iconst (v := (-1)) hx hb d_M_submit_17 (by decide) ?_
      have e9 : submitS (fl, us, sn, pw, pq, cq, ln, tn, tr) qu kd a n v = (-1, (fl, us, sn, pw, pq, cq, ln, tn, tr)) := by simp only [submitS]; rw [if_neg (fun z => bI_0 c_10 ⟨z.2.1, lt6.mpr z.2.2⟩)]
      exact mx_reti G h hrt hlocks d_M_submit_18 (by rw [e9]; exact ⟨rfl, ⟨un, cp, bd, F, R, V, by omega, Nat.le_succ_of_le hct, by omega, hbd, hQN⟩, FR.rf⟩)
set_option maxHeartbeats 4000000 in
set_option maxRecDepth 100000 in
theorem m_M_step {l : Launch} {D : va_G} {cA : Nat → ClassId} {n0 : Nat} {w : mw} {ρ q : Nat → Nat} {lim t : Nat} {fl : Nat → Int64} {us : List uU} {sn pw : Nat} {pq : Nat → List pC} {cq : Nat → List (Int32 × Int64)} {ln : Nat} {tn : Int32} {tr : Int64} (Y : MR cA w ρ q lim t (fl, us, sn, pw, pq, cq, ln, tn, tr)) (ht : t + 1 ≤ 512) (hlim : lim ≤ 6) (h6 : us.length ≤ 6) {qu x : Int32} :
    Mi l D cA n0 y_M_step c_M_step (rmd 5) [.ref (q 0), .int qu, .int x] w (fun r w' => r = (stepS lim (fl, us, sn, pw, pq, cq, ln, tn, tr) qu x).1 ∧ MR cA w' ρ q lim (t + 1) (stepS lim (fl, us, sn, pw, pq, cq, ln, tn, tr) qu x).2 ∧ FR w w' (P7 ρ)) := by
  refine mw_met (cc := b_M_step) (maxL := 4) (ret := (some .int)) (by decide) rfl (Nat.le_of_ble_eq_true rfl) ?_
  intro p e s m below meth c ls G hrt hlocks hname h hl
  have G : mw_G p m c b_M_step 4 s _ (c_M_step :: TB) R_M D cl (tys cA) n0 := G
  have hx := G.1.1
  have hb := G.1.2.1
  have hl : lv_has ls 4 [(0, .ref (q 0)), (1, .int qu), (2, .int x)] := hl
  obtain ⟨un, cp, bd, F, R, V, hut, hct, hpt, hbd, hQN⟩ := id Y
  have V : MC cA w ρ q lim un ln cp tn tr F R (fl, us, sn, pw, bd) := V
  have hct : ln ≤ t := hct
  have hQN : QN F R ln cp pq cq := hQN
  obtain ⟨X, hG⟩ := id V
  have X : MX cA w ρ q lim un sn pw bd ln cp tn tr F R := X
  have hG : LG F un sn fl us := hG
  obtain ⟨hQp, hQc, hQl, hQv⟩ := id hQN
  have hun : un ≤ 512 := by omega
  have hcm : ln ≤ 512 := by omega
  have hcp : cp ≤ 512 := by omega
  refine lv_iload_n hx hb d_M_step_0 rfl (lv_at hl 1 rfl) ?_
  refine lv_iconst (v := 3) hx hb d_M_step_1 (by decide) ?_
  refine mx_ci (cS (As := [.int qu, .int 3]) (rest := []) G h (m_M_in (x := qu) (n := 3)) k_387 k_388 k_7 k_389 rfl hd_M_in rfl rfl ⟨Nat.le_of_ble_eq_true rfl, Nat.le_of_ble_eq_true rfl⟩ rfl hl.1 rfl (Nat.le_of_ble_eq_true rfl) d_M_step_2 ⟨Nat.le_of_ble_eq_true rfl, Nat.le_of_ble_eq_true rfl⟩) h (fun r_2 w_1 H locs h hcp1 => ?_)
  obtain ⟨er_3, ew_4⟩ := hcp1
  subst er_3
  rw [ew_4] at h
  refine lv_if_eq (tgt := 25) hx hb d_M_step_5 (by decide) (fun c_5 => ?_) (fun c_5 => ?_)
  · refine lv_iconst (v := (-1)) hx hb d_M_step_25 (by decide) ?_
    have e8 : refS pq cq qu x = -1 := by rw [refS, if_neg (fun z => bI_0 c_5 z.1)]
    have e9 : stepS lim (fl, us, sn, pw, pq, cq, ln, tn, tr) qu x = (-1, (fl, us, sn, pw, pq, cq, ln, tn, tr)) := by simp only [stepS]; rw [e8, if_neg (by decide)]
    exact mx_reti G h hrt hlocks d_M_step_26 (by rw [e9]; exact ⟨rfl, ⟨un, cp, bd, F, R, V, by omega, Nat.le_succ_of_le hct, by omega, hbd, hQN⟩, FR.rf⟩)
  · have hi3 := bI_n c_5
    obtain ⟨j, hj, hqj⟩ := ixQ 3 rfl (by decide) hi3.1 hi3.2
    have hqc : qu.toNatClampNeg = j := by rw [hqj]; exact nI_c (by omega)
    have hplen : (pendN F ln qu).length = (pq j).length := by rw [hqj, hQp j hj, List.length_map]
    have hclen : (doneN F cp qu).length = (cq j).length := by rw [hqj, hQc j hj, List.length_map]
    have hp4 := (hQl j hj).1
    have hc4 := (hQl j hj).2
    refine lv_iload_n hx hb d_M_step_8 rfl (lv_at hl 2 rfl) ?_
    refine lv_iconst (v := 4) hx hb d_M_step_9 (by decide) ?_
    refine mx_ci (cS (As := [.int x, .int 4]) (rest := []) G h (m_M_in (x := x) (n := 4)) k_387 k_388 k_7 k_389 rfl hd_M_in rfl rfl ⟨Nat.le_of_ble_eq_true rfl, Nat.le_of_ble_eq_true rfl⟩ rfl hl.1 rfl (Nat.le_of_ble_eq_true rfl) d_M_step_10 ⟨Nat.le_of_ble_eq_true rfl, Nat.le_of_ble_eq_true rfl⟩) h (fun r_7 w_6 H locs h hcp1 => ?_)
    obtain ⟨er_8, ew_9⟩ := hcp1
    subst er_8
    rw [ew_9] at h
    refine lv_if_eq (tgt := 25) hx hb d_M_step_13 (by decide) (fun c_10 => ?_) (fun c_10 => ?_)
    · refine lv_iconst (v := (-1)) hx hb d_M_step_25 (by decide) ?_
      have e8 : refS pq cq qu x = -1 := by rw [refS, if_neg (fun z => bI_0 c_10 ⟨z.2.1, Int32.lt_of_lt_of_le z.2.2 (by rw [hqc]; exact nI_le (b := 4) hp4 (by decide))⟩)]
      have e9 : stepS lim (fl, us, sn, pw, pq, cq, ln, tn, tr) qu x = (-1, (fl, us, sn, pw, pq, cq, ln, tn, tr)) := by simp only [stepS]; rw [e8, if_neg (by decide)]
      exact mx_reti G h hrt hlocks d_M_step_26 (by rw [e9]; exact ⟨rfl, ⟨un, cp, bd, F, R, V, by omega, Nat.le_succ_of_le hct, by omega, hbd, hQN⟩, FR.rf⟩)
    · obtain ⟨i, hi4, hxi⟩ := ixQ 4 rfl (by decide) (bI_n c_10).1 (bI_n c_10).2
      have hxc : x.toNatClampNeg = i := by rw [hxi]; exact nI_c (by omega)
      refine lv_aload_n hx hb d_M_step_16 rfl (lv_at hl 0 rfl) ?_
      refine lv_iload_n hx hb d_M_step_17 rfl (lv_at hl 1 rfl) ?_
      refine lv_iload_n hx hb d_M_step_18 rfl (lv_at hl 2 rfl) ?_
      refine mx_ci (cV (As := [.int qu, .int x]) (rest := []) G h (m_M_picked X hun hcm hcp (x := qu) (y := x) hxi (by omega)) k_398 k_400 ks_14 k_7 k_401 hd_M_picked rfl rfl ⟨Nat.le_of_ble_eq_true rfl, Nat.le_of_ble_eq_true rfl⟩ X.1 rfl rfl hl.1 rfl (Nat.le_of_ble_eq_true rfl) d_M_step_19 ⟨Nat.le_of_ble_eq_true rfl, Nat.le_of_ble_eq_true rfl⟩) h (fun r_12 w_11 H locs h hcp1 => ?_)
      obtain ⟨er_13, ew_14⟩ := hcp1
      subst er_13
      rw [ew_14] at h
      cases hpk : (pendN F ln qu)[i]? with
      | none =>
        have hil : (pq j).length ≤ i := by rw [← hplen]; exact List.getElem?_eq_none_iff.mp hpk
        refine lv_if_ne (tgt := 27) hx hb d_M_step_22 (by decide) (fun c_15 => ?_) (fun c_15 => ?_)
        · exact absurd rfl c_15
        · refine lv_iconst (v := (-1)) hx hb d_M_step_25 (by decide) ?_
          have e8 : refS pq cq qu x = -1 := by rw [refS, if_neg (fun z => absurd z.2.2 (by rw [hqc, hxi, nI_ltI (by omega) (by omega)]; omega))]
          have e9 : stepS lim (fl, us, sn, pw, pq, cq, ln, tn, tr) qu x = (-1, (fl, us, sn, pw, pq, cq, ln, tn, tr)) := by simp only [stepS]; rw [e8, if_neg (by decide)]
          exact mx_reti G h hrt hlocks d_M_step_26 (by rw [e9]; exact ⟨rfl, ⟨un, cp, bd, F, R, V, by omega, Nat.le_succ_of_le hct, by omega, hbd, hQN⟩, FR.rf⟩)
      | some ci =>
        have hcm2 := pendN_mem.mp (List.mem_of_getElem? hpk)
        have hil : i < (pq j).length := by rw [← hplen]; exact lt_of_get hpk
        have hcond : (0 ≤ qu ∧ qu < 3) ∧ 0 ≤ x ∧ x < nI (pq qu.toNatClampNeg).length := ⟨hi3, (bI_n c_10).1, by rw [hqc, hxi]; exact nI_lt hil (by omega)⟩
        refine lv_if_ne (tgt := 27) hx hb d_M_step_22 (by decide) (fun c_16 => ?_) (fun c_16 => ?_)
        · refine lv_aload_n hx hb d_M_step_27 rfl (lv_at hl 0 rfl) ?_
          refine lv_iload_n hx hb d_M_step_28 rfl (lv_at hl 1 rfl) ?_
          refine mx_ci (cV (As := [.int qu]) (rest := []) G h (m_M_done X hun hcm hcp (x := qu)) k_402 k_404 ks_15 k_7 k_405 hd_M_done rfl rfl ⟨Nat.le_of_ble_eq_true rfl, Nat.le_of_ble_eq_true rfl⟩ X.1 rfl rfl hl.1 rfl (Nat.le_of_ble_eq_true rfl) d_M_step_29 ⟨Nat.le_of_ble_eq_true rfl, Nat.le_of_ble_eq_true rfl⟩) h (fun r_18 w_17 H locs h hcp1 => ?_)
          obtain ⟨er_19, ew_20⟩ := hcp1
          subst er_19
          rw [ew_20] at h
          have et_21 : nI (doneN F cp qu).length = nI (cq j).length := by rw [hclen]
          rw [et_21]
          refine lv_iconst (v := 4) hx hb d_M_step_32 (by decide) ?_
          refine lv_icmp_ne (tgt := 39) hx hb d_M_step_33 (by decide) (fun c_22 => ?_) (fun c_22 => ?_)
          · have hlt : (cq j).length < 4 := by
              rcases Nat.lt_or_ge (cq j).length 4 with z | z
              · exact z
              · exact absurd (by rw [show (cq j).length = 4 by omega]; rfl) c_22
            have e8 : refS pq cq qu x = 0 := by rw [refS, if_pos hcond, hqc, if_neg (by omega)]
            refine lv_aload_n hx hb d_M_step_39 rfl (lv_at hl 0 rfl) ?_
            refine lv_iload_n hx hb d_M_step_40 rfl (lv_at hl 1 rfl) ?_
            refine lv_iload_n hx hb d_M_step_41 rfl (lv_at hl 2 rfl) ?_
            refine mx_ci (cV (As := [.int qu, .int x]) (rest := []) G h (m_M_picked X hun hcm hcp (x := qu) (y := x) hxi (by omega)) k_398 k_400 ks_14 k_7 k_401 hd_M_picked rfl rfl ⟨Nat.le_of_ble_eq_true rfl, Nat.le_of_ble_eq_true rfl⟩ X.1 rfl rfl hl.1 rfl (Nat.le_of_ble_eq_true rfl) d_M_step_42 ⟨Nat.le_of_ble_eq_true rfl, Nat.le_of_ble_eq_true rfl⟩) h (fun r_24 w_23 H locs h hcp1 => ?_)
            obtain ⟨er_25, ew_26⟩ := hcp1
            subst er_25
            rw [ew_26] at h
            rw [hpk]
            refine lv_istore_n (lv' := [(3, .int (nI ci)), (0, .ref (q 0)), (1, .int qu), (2, .int x)]) hx hb d_M_step_45 rfl hl (by decide) rfl (fun ls hl => ?_)
            refine lv_aload_n hx hb d_M_step_46 rfl (lv_at hl 1 rfl) ?_
            refine lv_bipush (v := 100) hx hb d_M_step_47 (by decide) ?_
            have et_27 : 100 = nI 100 := rfl
            rw [et_27]
            refine mx_put G h X.1 rfl 10 (by decide) (tb_in in_M) t_M t_M_ok n_M (tb_c k_322) rfl rfl rfl rfl rfl (Nat.le_of_ble_eq_true rfl) d_M_step_49 (fun H locs h => ?_)
            have h : mw_H n0 D cl s (mw_up w (q 0) (.inr (5, [.int (nI lim), .ref (q 1), .ref (q 2), .ref (q 3), .ref (q 4), .ref (q 5), .ref (q 6), .int (nI un), .int (nI sn), .int (nI pw), .int (nI 100), .ref (q 11), .ref (q 12), .ref (q 13), .ref (q 14), .ref (q 15), .int (nI ln), .ref (q 17), .ref (q 18), .ref (q 19), .int (nI cp), .int tn, .long tr]))) H locs := h
            obtain ⟨w_28, ew_28⟩ : ∃ xx : mw, mw_up w (q 0) (.inr (5, [.int (nI lim), .ref (q 1), .ref (q 2), .ref (q 3), .ref (q 4), .ref (q 5), .ref (q 6), .int (nI un), .int (nI sn), .int (nI pw), .int (nI 100), .ref (q 11), .ref (q 12), .ref (q 13), .ref (q 14), .ref (q 15), .int (nI ln), .ref (q 17), .ref (q 18), .ref (q 19), .int (nI cp), .int tn, .long tr])) = xx := ⟨_, rfl⟩
            rw [ew_28] at h
            have f_29 : w_28 (q 0) = some (.inr (5, [.int (nI lim), .ref (q 1), .ref (q 2), .ref (q 3), .ref (q 4), .ref (q 5), .ref (q 6), .int (nI un), .int (nI sn), .int (nI pw), .int (nI 100), .ref (q 11), .ref (q 12), .ref (q 13), .ref (q 14), .ref (q 15), .int (nI ln), .ref (q 17), .ref (q 18), .ref (q 19), .int (nI cp), .int tn, .long tr])) := by rw [← ew_28]; exact mw_self
            have X0 : MX cA w_28 ρ q lim un sn pw 100 ln cp tn tr F R := by rw [← ew_28]; exact X.put0 un sn pw 100 ln cp tn tr
            have hfr0 : FR w w_28 (P7 ρ) := by rw [← ew_28]; exact FQ X.2.2.2.2.2.1
            have V0 : MC cA w_28 ρ q lim un ln cp tn tr F R (fl, us, sn, pw, 100) := ⟨X0, hG⟩
            obtain ⟨⟨kd, hkd, hkk⟩, hVd⟩ := hQv ci hcm2.1.1 hcm2.1.2
            have hkk : F 12 ci = nI kd := hkk
            have hVd : kd ≠ 3 → vU (uof (cmdN F ci)) := fun z => hVd.resolve_left (fun y => z (by have y2 := hkk.symm.trans y; exact (nI_eq (b := 3) (by omega) (by decide)).mp y2))
            refine lv_aload_n hx hb d_M_step_52 rfl (lv_at hl 1 rfl) ?_
            refine mx_get G h X0.1 rfl 19 (by decide) (tb_in in_M) (tb_c k_331) rfl rfl d_M_step_53 ?_
            refine lv_aload_n hx hb d_M_step_56 rfl (lv_at hl 1 rfl) ?_
            refine mx_get G h X0.1 rfl 20 (by decide) (tb_in in_M) (tb_c k_332) rfl rfl d_M_step_57 ?_
            refine lv_aload_n hx hb d_M_step_60 rfl (lv_at hl 1 rfl) ?_
            refine lv_iload_n hx hb d_M_step_61 rfl (lv_at hl 0 rfl) ?_
            refine mx_cl (cV (As := [.int (nI ci)]) (rest := [.int (nI cp), .ref (q 19)]) G h (m_M_work V0 hcm hcp (by decide) (by omega) hlim (ci := ci) (by omega) hkk hkd hVd rfl) k_406 k_408 ks_16 k_7 k_409 hd_M_work rfl rfl ⟨Nat.le_of_ble_eq_true rfl, Nat.le_of_ble_eq_true rfl⟩ X0.1 rfl rfl hl.1 rfl (Nat.le_of_ble_eq_true rfl) d_M_step_62 ⟨Nat.le_of_ble_eq_true rfl, Nat.le_of_ble_eq_true rfl⟩) h (fun r_31 w_30 H locs h hcp1 => ?_)
            obtain ⟨er, F1, un1, hu1, V1, hsf, hf1⟩ := hcp1
            obtain ⟨he1, he2⟩ := carA_en (L := lim) (kd := kd) (u := uof (cmdN F ci)) (fl := fl) (us := us) (sn := sn) (pw := pw) (p1 := 100) (p2 := 28) (fun z => (hVd (by rw [z]; decide)).2.2.2.1) (fun u hu => by rw [hG.1] at hu; obtain ⟨v9, hv9, rfl⟩ := List.mem_map.mp hu; exact hG.2.2.1 v9 (liveN_mem.mp hv9).1) h6 (by decide) (by decide)
            obtain ⟨X1, hG1⟩ := id V1
            have hbd1 : (carA lim kd (uof (cmdN F ci)) (fl, us, sn, pw, 100)).2.2.2.2.2 < 1000 := Nat.lt_of_le_of_lt carA_pl (show 100 < 1000 by decide)
            refine ax_sl G h X1.2.2.2.1 cp rfl (by omega) (by decide) d_M_step_65 (fun H locs h => ?_)
            have h : mw_H n0 D cl s (mw_up w_30 (q 19) (.inl (cA 1, 520, .inr (.inl (vp_updL R cp r_31))))) H locs := h
            obtain ⟨w_32, ew_32⟩ : ∃ xx : mw, mw_up w_30 (q 19) (.inl (cA 1, 520, .inr (.inl (vp_updL R cp r_31)))) = xx := ⟨_, rfl⟩
            rw [ew_32] at h
            have f_33 : w_32 (q 19) = some (.inl (cA 1, 520, .inr (.inl (vp_updL R cp r_31)))) := by rw [← ew_32]; exact mw_self
            have X2 : MX cA w_32 ρ q lim un1 (carA lim kd (uof (cmdN F ci)) (fl, us, sn, pw, 100)).2.2.2.1 (carA lim kd (uof (cmdN F ci)) (fl, us, sn, pw, 100)).2.2.2.2.1 (carA lim kd (uof (cmdN F ci)) (fl, us, sn, pw, 100)).2.2.2.2.2 ln cp tn tr F1 (vp_updL R cp r_31) := by rw [← ew_32]; exact X1.putL _
            have hfr2 : FR w w_32 (P7 ρ) := (hfr0.tr hf1).tr (by rw [← ew_32]; exact FQ X.2.2.2.2.2.2.2)
            refine lv_aload_n hx hb d_M_step_66 rfl (lv_at hl 1 rfl) ?_
            refine mx_get G h X2.1 rfl 17 (by decide) (tb_in in_M) (tb_c k_329) rfl rfl d_M_step_67 ?_
            refine lv_aload_n hx hb d_M_step_70 rfl (lv_at hl 1 rfl) ?_
            refine mx_get G h X2.1 rfl 20 (by decide) (tb_in in_M) (tb_c k_332) rfl rfl d_M_step_71 ?_
            refine lv_iload_n hx hb d_M_step_74 rfl (lv_at hl 2 rfl) ?_
            refine ax_si G h (X2.2.1 17 (by decide)) cp rfl (by omega) (by decide) d_M_step_75 (fun H locs h => ?_)
            have h : mw_H n0 D cl s (mw_up w_32 (q 17) (.inl (cA 0, 520, .inl (upd (F1 17) cp qu)))) H locs := h
            obtain ⟨w_34, ew_34⟩ : ∃ xx : mw, mw_up w_32 (q 17) (.inl (cA 0, 520, .inl (upd (F1 17) cp qu))) = xx := ⟨_, rfl⟩
            rw [ew_34] at h
            have f_35 : w_34 (q 17) = some (.inl (cA 0, 520, .inl (upd (F1 17) cp qu))) := by rw [← ew_34]; exact mw_self
            have X3 : MX cA w_34 ρ q lim un1 (carA lim kd (uof (cmdN F ci)) (fl, us, sn, pw, 100)).2.2.2.1 (carA lim kd (uof (cmdN F ci)) (fl, us, sn, pw, 100)).2.2.2.2.1 (carA lim kd (uof (cmdN F ci)) (fl, us, sn, pw, 100)).2.2.2.2.2 ln cp tn tr (va_up F1 17 (upd (F1 17) cp qu)) (vp_updL R cp r_31) := by rw [← ew_34]; exact X2.putI 17 (by decide) _
            have hfr3 : FR w w_34 (P7 ρ) := hfr2.tr (by rw [← ew_34]; exact FQ (X.2.2.2.2.2.2.1 17 (by decide)))
            refine lv_aload_n hx hb d_M_step_76 rfl (lv_at hl 1 rfl) ?_
            refine mx_get G h X3.1 rfl 18 (by decide) (tb_in in_M) (tb_c k_330) rfl rfl d_M_step_77 ?_
            refine lv_aload_n hx hb d_M_step_80 rfl (lv_at hl 1 rfl) ?_
            refine mx_get G h X3.1 rfl 20 (by decide) (tb_in in_M) (tb_c k_332) rfl rfl d_M_step_81 ?_
            refine lv_iload_n hx hb d_M_step_84 rfl (lv_at hl 0 rfl) ?_
            refine ax_si G h (X3.2.1 18 (by decide)) cp rfl (by omega) (by decide) d_M_step_85 (fun H locs h => ?_)
            have h : mw_H n0 D cl s (mw_up w_34 (q 18) (.inl (cA 0, 520, .inl (upd (F1 18) cp (nI ci))))) H locs := h
            obtain ⟨w_36, ew_36⟩ : ∃ xx : mw, mw_up w_34 (q 18) (.inl (cA 0, 520, .inl (upd (F1 18) cp (nI ci)))) = xx := ⟨_, rfl⟩
            rw [ew_36] at h
            have f_37 : w_36 (q 18) = some (.inl (cA 0, 520, .inl (upd (F1 18) cp (nI ci)))) := by rw [← ew_36]; exact mw_self
            have X4 : MX cA w_36 ρ q lim un1 (carA lim kd (uof (cmdN F ci)) (fl, us, sn, pw, 100)).2.2.2.1 (carA lim kd (uof (cmdN F ci)) (fl, us, sn, pw, 100)).2.2.2.2.1 (carA lim kd (uof (cmdN F ci)) (fl, us, sn, pw, 100)).2.2.2.2.2 ln cp tn tr (va_up (va_up F1 17 (upd (F1 17) cp qu)) 18 (upd (F1 18) cp (nI ci))) (vp_updL R cp r_31) := by rw [← ew_36]; exact X3.putI 18 (by decide) _
            have hfr4 : FR w w_36 (P7 ρ) := hfr3.tr (by rw [← ew_36]; exact FQ (X.2.2.2.2.2.2.1 18 (by decide)))
            refine lv_aload_n hx hb d_M_step_86 rfl (lv_at hl 1 rfl) ?_
            refine lv_dup hx hb d_M_step_87 rfl ?_
            refine mx_get G h X4.1 rfl 20 (by decide) (tb_in in_M) (tb_c k_332) rfl rfl d_M_step_88 ?_
            refine lv_iconst (v := 1) hx hb d_M_step_91 (by decide) ?_
            refine lv_iadd hx hb d_M_step_92 ?_
            have et_38 : (nI cp) + 1 = nI (cp + 1) := nI_1 cp
            rw [et_38]
            refine mx_put G h X4.1 rfl 20 (by decide) (tb_in in_M) t_M t_M_ok n_M (tb_c k_332) rfl rfl rfl rfl rfl (Nat.le_of_ble_eq_true rfl) d_M_step_93 (fun H locs h => ?_)
            have h : mw_H n0 D cl s (mw_up w_36 (q 0) (.inr (5, [.int (nI lim), .ref (q 1), .ref (q 2), .ref (q 3), .ref (q 4), .ref (q 5), .ref (q 6), .int (nI un1), .int (nI (carA lim kd (uof (cmdN F ci)) (fl, us, sn, pw, 100)).2.2.2.1), .int (nI (carA lim kd (uof (cmdN F ci)) (fl, us, sn, pw, 100)).2.2.2.2.1), .int (nI (carA lim kd (uof (cmdN F ci)) (fl, us, sn, pw, 100)).2.2.2.2.2), .ref (q 11), .ref (q 12), .ref (q 13), .ref (q 14), .ref (q 15), .int (nI ln), .ref (q 17), .ref (q 18), .ref (q 19), .int (nI (cp + 1)), .int tn, .long tr]))) H locs := h
            obtain ⟨w_39, ew_39⟩ : ∃ xx : mw, mw_up w_36 (q 0) (.inr (5, [.int (nI lim), .ref (q 1), .ref (q 2), .ref (q 3), .ref (q 4), .ref (q 5), .ref (q 6), .int (nI un1), .int (nI (carA lim kd (uof (cmdN F ci)) (fl, us, sn, pw, 100)).2.2.2.1), .int (nI (carA lim kd (uof (cmdN F ci)) (fl, us, sn, pw, 100)).2.2.2.2.1), .int (nI (carA lim kd (uof (cmdN F ci)) (fl, us, sn, pw, 100)).2.2.2.2.2), .ref (q 11), .ref (q 12), .ref (q 13), .ref (q 14), .ref (q 15), .int (nI ln), .ref (q 17), .ref (q 18), .ref (q 19), .int (nI (cp + 1)), .int tn, .long tr])) = xx := ⟨_, rfl⟩
            rw [ew_39] at h
            have f_40 : w_39 (q 0) = some (.inr (5, [.int (nI lim), .ref (q 1), .ref (q 2), .ref (q 3), .ref (q 4), .ref (q 5), .ref (q 6), .int (nI un1), .int (nI (carA lim kd (uof (cmdN F ci)) (fl, us, sn, pw, 100)).2.2.2.1), .int (nI (carA lim kd (uof (cmdN F ci)) (fl, us, sn, pw, 100)).2.2.2.2.1), .int (nI (carA lim kd (uof (cmdN F ci)) (fl, us, sn, pw, 100)).2.2.2.2.2), .ref (q 11), .ref (q 12), .ref (q 13), .ref (q 14), .ref (q 15), .int (nI ln), .ref (q 17), .ref (q 18), .ref (q 19), .int (nI (cp + 1)), .int tn, .long tr])) := by rw [← ew_39]; exact mw_self
            have X5 : MX cA w_39 ρ q lim un1 (carA lim kd (uof (cmdN F ci)) (fl, us, sn, pw, 100)).2.2.2.1 (carA lim kd (uof (cmdN F ci)) (fl, us, sn, pw, 100)).2.2.2.2.1 (carA lim kd (uof (cmdN F ci)) (fl, us, sn, pw, 100)).2.2.2.2.2 ln (cp + 1) tn tr (va_up (va_up F1 17 (upd (F1 17) cp qu)) 18 (upd (F1 18) cp (nI ci))) (vp_updL R cp r_31) := by rw [← ew_39]; exact X4.put0 un1 (carA lim kd (uof (cmdN F ci)) (fl, us, sn, pw, 100)).2.2.2.1 (carA lim kd (uof (cmdN F ci)) (fl, us, sn, pw, 100)).2.2.2.2.1 (carA lim kd (uof (cmdN F ci)) (fl, us, sn, pw, 100)).2.2.2.2.2 ln (cp + 1) tn tr
            have hfr5 : FR w w_39 (P7 ρ) := hfr4.tr (by rw [← ew_39]; exact FQ X.2.2.2.2.2.1)
            refine lv_aload_n hx hb d_M_step_96 rfl (lv_at hl 1 rfl) ?_
            refine mx_get G h X5.1 rfl 11 (by decide) (tb_in in_M) (tb_c k_323) rfl rfl d_M_step_97 ?_
            refine lv_iload_n hx hb d_M_step_100 rfl (lv_at hl 0 rfl) ?_
            refine lv_iconst (v := (-1)) hx hb d_M_step_101 (by decide) ?_
            refine ax_si G h (X5.2.1 11 (by decide)) ci rfl (by omega) (by decide) d_M_step_102 (fun H locs h => ?_)
            have h : mw_H n0 D cl s (mw_up w_39 (q 11) (.inl (cA 0, 520, .inl (upd (F1 11) ci (-1))))) H locs := h
            obtain ⟨w_41, ew_41⟩ : ∃ xx : mw, mw_up w_39 (q 11) (.inl (cA 0, 520, .inl (upd (F1 11) ci (-1)))) = xx := ⟨_, rfl⟩
            rw [ew_41] at h
            have f_42 : w_41 (q 11) = some (.inl (cA 0, 520, .inl (upd (F1 11) ci (-1)))) := by rw [← ew_41]; exact mw_self
            have X6 : MX cA w_41 ρ q lim un1 (carA lim kd (uof (cmdN F ci)) (fl, us, sn, pw, 100)).2.2.2.1 (carA lim kd (uof (cmdN F ci)) (fl, us, sn, pw, 100)).2.2.2.2.1 (carA lim kd (uof (cmdN F ci)) (fl, us, sn, pw, 100)).2.2.2.2.2 ln (cp + 1) tn tr (dnF F1 cp ci qu) (vp_updL R cp r_31) := by rw [← ew_41]; exact X5.putI 11 (by decide) _
            have hfr6 : FR w w_41 (P7 ρ) := hfr5.tr (by rw [← ew_41]; exact FQ (X.2.2.2.2.2.2.1 11 (by decide)))
            refine lv_iload_n hx hb d_M_step_103 rfl (lv_at hl 0 rfl) ?_
            have hpk1 : (pendN F1 ln (nI j))[i]? = some ci := by rw [pendN_congr (F' := F1) (F := F) (fun c _ _ => by rw [hsf 11 (by decide)]), ← hqj]; exact hpk
            have hQ9 := (hQN.sf hsf).step hj hpk1 hlt r_31
            rw [← hqj] at hQ9
            have hG9 : LG (dnF F1 cp ci qu) un1 (carA lim kd (uof (cmdN F ci)) (fl, us, sn, pw, 100)).2.2.2.1 (carA lim kd (uof (cmdN F ci)) (fl, us, sn, pw, 100)).2.1 (carA lim kd (uof (cmdN F ci)) (fl, us, sn, pw, 100)).2.2.1 := hG1.cong (fun i hi => by rcases (show i = 0 ∨ i = 1 ∨ i = 2 ∨ i = 3 ∨ i = 4 ∨ i = 5 ∨ i = 6 by omega) with rfl | rfl | rfl | rfl | rfl | rfl | rfl <;> simp [dnF, va_up])
            have hd9 : (pq j)[i]? = some (cmdN F ci) := by rw [hQp j hj, List.getElem?_map, ← hqj, hpk]; rfl
            have hkc : (cmdN F ci).2.1.toNatClampNeg = kd := by show (F 12 ci).toNatClampNeg = kd; rw [hkk]; exact nI_c (by omega)
            have e9 : stepS lim (fl, us, sn, pw, pq, cq, ln, tn, tr) qu x = (nI ci, ((carA lim kd (uof (cmdN F ci)) (fl, us, sn, pw, 28)).2.1, (carA lim kd (uof (cmdN F ci)) (fl, us, sn, pw, 28)).2.2.1, (carA lim kd (uof (cmdN F ci)) (fl, us, sn, pw, 28)).2.2.2.1, (carA lim kd (uof (cmdN F ci)) (fl, us, sn, pw, 28)).2.2.2.2.1, va_up pq j ((pq j).eraseIdx i), va_up cq j (cq j ++ [(nI ci, (carA lim kd (uof (cmdN F ci)) (fl, us, sn, pw, 28)).1)]), ln, tn, tr)) := by simp only [stepS]; rw [if_pos e8, hqc, hxc, hd9]; simp only [hkc]; rfl
            simp only [drp, Prod.mk.injEq] at he2
            obtain ⟨g1, g2, g3, g4⟩ := he2
            rw [er, he1] at hQ9 X6
            exact mx_reti G h hrt hlocks d_M_step_104 (by rw [e9, ← g1, ← g2, ← g3, ← g4]; exact ⟨rfl, ⟨un1, cp + 1, _, _, _, ⟨X6, hG9⟩, by omega, Nat.le_succ_of_le hct, by omega, hbd1, hQ9⟩, hfr6⟩)
          · refine lv_bipush (v := -3) hx hb d_M_step_36 (by decide) ?_
            have hge : (cq j).length = 4 := (nI_eq (by omega) (by decide)).mp c_22
            have e8 : refS pq cq qu x = -3 := by rw [refS, if_pos hcond, hqc, if_pos (by omega)]
            have e9 : stepS lim (fl, us, sn, pw, pq, cq, ln, tn, tr) qu x = (-3, (fl, us, sn, pw, pq, cq, ln, tn, tr)) := by simp only [stepS]; rw [e8, if_neg (by decide)]
            exact mx_reti G h hrt hlocks d_M_step_38 (by rw [e9]; exact ⟨rfl, ⟨un, cp, bd, F, R, V, by omega, Nat.le_succ_of_le hct, by omega, hbd, hQN⟩, FR.rf⟩)
        · exact absurd c_16 (nI_ne0 (by omega) (by omega))
set_option maxHeartbeats 4000000 in
set_option maxRecDepth 100000 in
theorem m_M_take {l : Launch} {D : va_G} {cA : Nat → ClassId} {n0 : Nat} {w : mw} {ρ q : Nat → Nat} {lim t : Nat} {fl : Nat → Int64} {us : List uU} {sn pw : Nat} {pq : Nat → List pC} {cq : Nat → List (Int32 × Int64)} {ln : Nat} {tn : Int32} {tr : Int64} (Y : MR cA w ρ q lim t (fl, us, sn, pw, pq, cq, ln, tn, tr)) (ht : t + 1 ≤ 512) {qu : Int32} :
    Mi l D cA n0 y_M_take c_M_take (rmd 1) [.ref (q 0), .int qu] w (fun r w' => r = (takeS (fl, us, sn, pw, pq, cq, ln, tn, tr) qu).1 ∧ MR cA w' ρ q lim (t + 1) (takeS (fl, us, sn, pw, pq, cq, ln, tn, tr) qu).2 ∧ FR w w' (P7 ρ)) := by
  refine mw_met (cc := b_M_take) (maxL := 3) (ret := (some .int)) (by decide) rfl (Nat.le_of_ble_eq_true rfl) ?_
  intro p e s m below meth c ls G hrt hlocks hname h hl
  have G : mw_G p m c b_M_take 3 s _ (c_M_take :: TB) R_M D cl (tys cA) n0 := G
  have hx := G.1.1
  have hb := G.1.2.1
  have hl : lv_has ls 3 [(0, .ref (q 0)), (1, .int qu)] := hl
  obtain ⟨un, cp, bd, F, R, V, hut, hct, hpt, hbd, hQN⟩ := id Y
  have V : MC cA w ρ q lim un ln cp tn tr F R (fl, us, sn, pw, bd) := V
  have hct : ln ≤ t := hct
  have hQN : QN F R ln cp pq cq := hQN
  obtain ⟨X, hG⟩ := id V
  have X : MX cA w ρ q lim un sn pw bd ln cp tn tr F R := X
  have hG : LG F un sn fl us := hG
  obtain ⟨hQp, hQc, hQl, hQv⟩ := id hQN
  have hun : un ≤ 512 := by omega
  have hcm : ln ≤ 512 := by omega
  have hcp : cp ≤ 512 := by omega
  refine lv_iload_n hx hb d_M_take_0 rfl (lv_at hl 1 rfl) ?_
  refine lv_iconst (v := 3) hx hb d_M_take_1 (by decide) ?_
  refine mx_ci (cS (As := [.int qu, .int 3]) (rest := []) G h (m_M_in (x := qu) (n := 3)) k_387 k_388 k_7 k_389 rfl hd_M_in rfl rfl ⟨Nat.le_of_ble_eq_true rfl, Nat.le_of_ble_eq_true rfl⟩ rfl hl.1 rfl (Nat.le_of_ble_eq_true rfl) d_M_take_2 ⟨Nat.le_of_ble_eq_true rfl, Nat.le_of_ble_eq_true rfl⟩) h (fun r_2 w_1 H locs h hcp1 => ?_)
  obtain ⟨er_3, ew_4⟩ := hcp1
  subst er_3
  rw [ew_4] at h
  refine lv_if_ne (tgt := 10) hx hb d_M_take_5 (by decide) (fun c_5 => ?_) (fun c_5 => ?_)
  · have hi3 := bI_n c_5
    obtain ⟨j, hj, hqj⟩ := ixQ 3 rfl (by decide) hi3.1 hi3.2
    have hqc : qu.toNatClampNeg = j := by rw [hqj]; exact nI_c (by omega)
    have hplen : (pendN F ln qu).length = (pq j).length := by rw [hqj, hQp j hj, List.length_map]
    have hclen : (doneN F cp qu).length = (cq j).length := by rw [hqj, hQc j hj, List.length_map]
    have hp4 := (hQl j hj).1
    have hc4 := (hQl j hj).2
    refine lv_iconst (v := 0) hx hb d_M_take_10 (by decide) ?_
    refine lv_istore_n (lv' := [(2, .int 0), (0, .ref (q 0)), (1, .int qu)]) hx hb d_M_take_11 rfl hl (by decide) rfl (fun ls hl => ?_)
    have loop : ∀ (t9 k : Nat), k + t9 = cp → doneN F k qu = [] → ∀ (H : Heap) (locs : List Loc) (ls : Array Slot), mw_H n0 D cl s w H locs → lv_has ls 3 [(2, .int (nI k)), (0, .ref (q 0)), (1, .int qu)] → W p l e (rmd 1) s m ([.ref (q 0), .int qu] : List Value).toArray below meth c H locs 0 0 (MQ below (mw_Qi n0 D cl (fun r w' => r = (takeS (fl, us, sn, pw, pq, cq, ln, tn, tr) qu).1 ∧ MR cA w' ρ q lim (t + 1) (takeS (fl, us, sn, pw, pq, cq, ln, tn, tr) qu).2 ∧ FR w w' (P7 ρ))) ([.ref (q 0), .int qu] : List Value).toArray s 0 0 (mw_A n0)) (F0 m 12 ls []) := by
      intro t9
      induction t9 with
      | zero =>
        intro k hk hdn H locs ls h hl
        have hk : k = cp := hk
        refine lv_iload_n hx hb d_M_take_12 rfl (lv_at hl 0 rfl) ?_
        refine lv_aload_n hx hb d_M_take_13 rfl (lv_at hl 1 rfl) ?_
        refine mx_get G h X.1 rfl 20 (by decide) (tb_in in_M) (tb_c k_332) rfl rfl d_M_take_14 ?_
        refine lv_icmp_ge (tgt := 68) hx hb d_M_take_17 (by decide) (fun c_6 => ?_) (fun c_6 => ?_)
        · refine lv_iconst (v := (-1)) hx hb d_M_take_68 (by decide) ?_
          have hcs : cq j = [] := by rw [hQc j hj, ← hqj, ← hk, hdn]; rfl
          have e9 : takeS (fl, us, sn, pw, pq, cq, ln, tn, tr) qu = (-1, (fl, us, sn, pw, pq, cq, ln, tn, tr)) := by simp only [takeS]; rw [if_pos hi3, hqc, hcs]
          exact mx_reti G h hrt hlocks d_M_take_69 (by rw [e9]; exact ⟨rfl, ⟨un, cp, bd, F, R, V, by omega, Nat.le_succ_of_le hct, by omega, hbd, hQN⟩, FR.rf⟩)
        · exact absurd (by rw [hk]; exact Int32.le_refl _) c_6
      | succ t9 ih =>
        intro k hk hdn H locs ls h hl
        refine lv_iload_n hx hb d_M_take_12 rfl (lv_at hl 0 rfl) ?_
        refine lv_aload_n hx hb d_M_take_13 rfl (lv_at hl 1 rfl) ?_
        refine mx_get G h X.1 rfl 20 (by decide) (tb_in in_M) (tb_c k_332) rfl rfl d_M_take_14 ?_
        refine lv_icmp_ge (tgt := 68) hx hb d_M_take_17 (by decide) (fun c_7 => ?_) (fun c_7 => ?_)
        · exact absurd ((nI_leI (by omega) (by omega)).mp c_7) (by omega)
        · refine lv_aload_n hx hb d_M_take_20 rfl (lv_at hl 1 rfl) ?_
          refine mx_get G h X.1 rfl 17 (by decide) (tb_in in_M) (tb_c k_329) rfl rfl d_M_take_21 ?_
          refine lv_iload_n hx hb d_M_take_24 rfl (lv_at hl 0 rfl) ?_
          refine ax_i G h (X.2.1 17 (by decide)) k rfl (by omega) (by decide) d_M_take_25 ?_
          refine lv_iload_n hx hb d_M_take_26 rfl (lv_at hl 2 rfl) ?_
          refine lv_icmp_ne (tgt := 62) hx hb d_M_take_27 (by decide) (fun c_8 => ?_) (fun c_8 => ?_)
          · refine lv_iinc (v := (nI k) + 1) (lv' := [(2, .int ((nI k) + 1)), (0, .ref (q 0)), (1, .int qu)]) hx hb d_M_take_62 hl (k := 0) rfl rfl (by decide) rfl (fun ls hl => ?_)
            refine lv_goto (tgt := 12) hx hb d_M_take_65 (by decide) ?_
            rw [nI_1] at hl
            exact ih (k + 1) (by omega) (by rw [doneN_s, if_neg c_8]; exact hdn) H locs ls h (lv_sub hl [0, 1, 2] rfl)
          · obtain ⟨rr, hrr⟩ := doneN_pre F (k + 1) qu t9
            have hdl : doneN F cp (nI j) = k :: rr := by rw [← hqj, show cp = k + 1 + t9 by omega, hrr, doneN_s, if_pos c_8, hdn]; rfl
            have hcs : cq j = (F 18 k, R k) :: rr.map (fun i => (F 18 i, R i)) := by rw [hQc j hj, hdl]; rfl
            refine lv_aload_n hx hb d_M_take_30 rfl (lv_at hl 1 rfl) ?_
            refine mx_get G h X.1 rfl 17 (by decide) (tb_in in_M) (tb_c k_329) rfl rfl d_M_take_31 ?_
            refine lv_iload_n hx hb d_M_take_34 rfl (lv_at hl 0 rfl) ?_
            refine lv_iconst (v := (-1)) hx hb d_M_take_35 (by decide) ?_
            refine ax_si G h (X.2.1 17 (by decide)) k rfl (by omega) (by decide) d_M_take_36 (fun H locs h => ?_)
            have h : mw_H n0 D cl s (mw_up w (q 17) (.inl (cA 0, 520, .inl (upd (F 17) k (-1))))) H locs := h
            obtain ⟨w_9, ew_9⟩ : ∃ xx : mw, mw_up w (q 17) (.inl (cA 0, 520, .inl (upd (F 17) k (-1)))) = xx := ⟨_, rfl⟩
            rw [ew_9] at h
            have f_10 : w_9 (q 17) = some (.inl (cA 0, 520, .inl (upd (F 17) k (-1)))) := by rw [← ew_9]; exact mw_self
            have X1 : MX cA w_9 ρ q lim un sn pw bd ln cp tn tr (va_up F 17 (upd (F 17) k (-1))) R := by rw [← ew_9]; exact X.putI 17 (by decide) _
            have hfr1 : FR w w_9 (P7 ρ) := by rw [← ew_9]; exact FQ (X.2.2.2.2.2.2.1 17 (by decide))
            refine lv_aload_n hx hb d_M_take_37 rfl (lv_at hl 1 rfl) ?_
            refine lv_aload_n hx hb d_M_take_38 rfl (lv_at hl 1 rfl) ?_
            refine mx_get G h X1.1 rfl 18 (by decide) (tb_in in_M) (tb_c k_330) rfl rfl d_M_take_39 ?_
            refine lv_iload_n hx hb d_M_take_42 rfl (lv_at hl 0 rfl) ?_
            refine ax_i G h (X1.2.1 18 (by decide)) k rfl (by omega) (by decide) d_M_take_43 ?_
            refine mx_put G h X1.1 rfl 21 (by decide) (tb_in in_M) t_M t_M_ok n_M (tb_c k_333) rfl rfl rfl rfl rfl (Nat.le_of_ble_eq_true rfl) d_M_take_44 (fun H locs h => ?_)
            have h : mw_H n0 D cl s (mw_up w_9 (q 0) (.inr (5, [.int (nI lim), .ref (q 1), .ref (q 2), .ref (q 3), .ref (q 4), .ref (q 5), .ref (q 6), .int (nI un), .int (nI sn), .int (nI pw), .int (nI bd), .ref (q 11), .ref (q 12), .ref (q 13), .ref (q 14), .ref (q 15), .int (nI ln), .ref (q 17), .ref (q 18), .ref (q 19), .int (nI cp), .int ((F 18) k), .long tr]))) H locs := h
            obtain ⟨w_11, ew_11⟩ : ∃ xx : mw, mw_up w_9 (q 0) (.inr (5, [.int (nI lim), .ref (q 1), .ref (q 2), .ref (q 3), .ref (q 4), .ref (q 5), .ref (q 6), .int (nI un), .int (nI sn), .int (nI pw), .int (nI bd), .ref (q 11), .ref (q 12), .ref (q 13), .ref (q 14), .ref (q 15), .int (nI ln), .ref (q 17), .ref (q 18), .ref (q 19), .int (nI cp), .int ((F 18) k), .long tr])) = xx := ⟨_, rfl⟩
            rw [ew_11] at h
            have f_12 : w_11 (q 0) = some (.inr (5, [.int (nI lim), .ref (q 1), .ref (q 2), .ref (q 3), .ref (q 4), .ref (q 5), .ref (q 6), .int (nI un), .int (nI sn), .int (nI pw), .int (nI bd), .ref (q 11), .ref (q 12), .ref (q 13), .ref (q 14), .ref (q 15), .int (nI ln), .ref (q 17), .ref (q 18), .ref (q 19), .int (nI cp), .int ((F 18) k), .long tr])) := by rw [← ew_11]; exact mw_self
            have X2 : MX cA w_11 ρ q lim un sn pw bd ln cp (F 18 k) tr (va_up F 17 (upd (F 17) k (-1))) R := by rw [← ew_11]; exact X1.put0 un sn pw bd ln cp (F 18 k) tr
            have hfr2 : FR w w_11 (P7 ρ) := hfr1.tr (by rw [← ew_11]; exact FQ X.2.2.2.2.2.1)
            refine lv_aload_n hx hb d_M_take_47 rfl (lv_at hl 1 rfl) ?_
            refine lv_aload_n hx hb d_M_take_48 rfl (lv_at hl 1 rfl) ?_
            refine mx_get G h X2.1 rfl 19 (by decide) (tb_in in_M) (tb_c k_331) rfl rfl d_M_take_49 ?_
            refine lv_iload_n hx hb d_M_take_52 rfl (lv_at hl 0 rfl) ?_
            refine ax_l G h X2.2.2.2.1 k rfl (by omega) (by decide) d_M_take_53 ?_
            refine mx_put G h X2.1 rfl 22 (by decide) (tb_in in_M) t_M t_M_ok n_M (tb_c k_334) rfl rfl rfl rfl rfl (Nat.le_of_ble_eq_true rfl) d_M_take_54 (fun H locs h => ?_)
            have h : mw_H n0 D cl s (mw_up w_11 (q 0) (.inr (5, [.int (nI lim), .ref (q 1), .ref (q 2), .ref (q 3), .ref (q 4), .ref (q 5), .ref (q 6), .int (nI un), .int (nI sn), .int (nI pw), .int (nI bd), .ref (q 11), .ref (q 12), .ref (q 13), .ref (q 14), .ref (q 15), .int (nI ln), .ref (q 17), .ref (q 18), .ref (q 19), .int (nI cp), .int (F 18 k), .long (R k)]))) H locs := h
            obtain ⟨w_13, ew_13⟩ : ∃ xx : mw, mw_up w_11 (q 0) (.inr (5, [.int (nI lim), .ref (q 1), .ref (q 2), .ref (q 3), .ref (q 4), .ref (q 5), .ref (q 6), .int (nI un), .int (nI sn), .int (nI pw), .int (nI bd), .ref (q 11), .ref (q 12), .ref (q 13), .ref (q 14), .ref (q 15), .int (nI ln), .ref (q 17), .ref (q 18), .ref (q 19), .int (nI cp), .int (F 18 k), .long (R k)])) = xx := ⟨_, rfl⟩
            rw [ew_13] at h
            have f_14 : w_13 (q 0) = some (.inr (5, [.int (nI lim), .ref (q 1), .ref (q 2), .ref (q 3), .ref (q 4), .ref (q 5), .ref (q 6), .int (nI un), .int (nI sn), .int (nI pw), .int (nI bd), .ref (q 11), .ref (q 12), .ref (q 13), .ref (q 14), .ref (q 15), .int (nI ln), .ref (q 17), .ref (q 18), .ref (q 19), .int (nI cp), .int (F 18 k), .long (R k)])) := by rw [← ew_13]; exact mw_self
            have X3 : MX cA w_13 ρ q lim un sn pw bd ln cp (F 18 k) (R k) (va_up F 17 (upd (F 17) k (-1))) R := by rw [← ew_13]; exact X2.put0 un sn pw bd ln cp (F 18 k) (R k)
            have hfr3 : FR w w_13 (P7 ρ) := hfr2.tr (by rw [← ew_13]; exact FQ X.2.2.2.2.2.1)
            refine lv_aload_n hx hb d_M_take_57 rfl (lv_at hl 1 rfl) ?_
            refine mx_get G h X3.1 rfl 21 (by decide) (tb_in in_M) (tb_c k_333) rfl rfl d_M_take_58 ?_
            have hG9 : LG (va_up F 17 (upd (F 17) k (-1))) un sn fl us := hG.cong (fun i hi => by rcases (show i = 0 ∨ i = 1 ∨ i = 2 ∨ i = 3 ∨ i = 4 ∨ i = 5 ∨ i = 6 by omega) with rfl | rfl | rfl | rfl | rfl | rfl | rfl <;> simp [va_up])
            have e9 : takeS (fl, us, sn, pw, pq, cq, ln, tn, tr) qu = (F 18 k, (fl, us, sn, pw, pq, va_up cq j (rr.map (fun i => (F 18 i, R i))), ln, F 18 k, R k)) := by simp only [takeS]; rw [if_pos hi3, hqc, hcs]
            exact mx_reti G h hrt hlocks d_M_take_61 (by rw [e9]; exact ⟨rfl, ⟨un, cp, bd, _, R, ⟨X3, hG9⟩, by omega, Nat.le_succ_of_le hct, by omega, hbd, hQN.take hj hdl⟩, hfr3⟩)
    exact loop cp 0 (by omega) rfl _ _ ls h (lv_sub hl [0, 1, 2] rfl)
  · refine lv_iconst (v := (-1)) hx hb d_M_take_8 (by decide) ?_
    have e9 : takeS (fl, us, sn, pw, pq, cq, ln, tn, tr) qu = (-1, (fl, us, sn, pw, pq, cq, ln, tn, tr)) := by simp only [takeS]; rw [if_neg (bI_0 c_5)]
    exact mx_reti G h hrt hlocks d_M_take_9 (by rw [e9]; exact ⟨rfl, ⟨un, cp, bd, F, R, V, by omega, Nat.le_succ_of_le hct, by omega, hbd, hQN⟩, FR.rf⟩)
