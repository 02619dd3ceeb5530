def fil (x : Int32) (f : Nat → Int32) (lo hi : Nat) : Nat → Int32 := fun i => if lo ≤ i ∧ i < hi then x else f i
theorem fil_0 {x : Int32} {f : Nat → Int32} {lo : Nat} : fil x f lo lo = f := by
  funext i
  simp only [fil]
  rw [if_neg (by omega)]
theorem fil_s {x : Int32} {f : Nat → Int32} {lo k : Nat} (h : lo ≤ k) : upd (fil x f lo k) k x = fil x f lo (k + 1) := by
  funext i
  simp only [upd, fil]
  by_cases e : i = k
  · subst e; rw [if_pos rfl, if_pos (by omega)]
  · rw [if_neg e]
    by_cases c : lo ≤ i ∧ i < k
    · rw [if_pos c, if_pos (by omega)]
    · rw [if_neg c, if_neg (by omega)]
theorem va_id {α : Type} {f : Nat → α} {k : Nat} {x : α} (h : f k = x) : va_up f k x = f := by
  funext i
  by_cases e : i = k
  · subst e; simp [va_up, h]
  · simp [va_up, e]
theorem va_uu {α : Type} (f : Nat → α) (k : Nat) (v w : α) : va_up (va_up f k v) k w = va_up f k w := by
  funext i
  by_cases e : i = k <;> simp [va_up, e]
theorem QN.clr {F F' : Nat → Nat → Int32} {R : Nat → Int64} {cm cp : Nat} {pq : Nat → List pC} {cq : Nat → List (Int32 × Int64)} (h : QN F R cm cp pq cq) (h11 : ∀ c, 1 ≤ c → c ≤ cm → F' 11 c = -1) (h17 : ∀ i, i < cp → F' 17 i = -1) (hc : ∀ c, cmdN F' c = cmdN F c) : QN F' R cm cp (fun _ => []) (fun _ => []) := by
  obtain ⟨h1, h2, h3, h4⟩ := h
  refine ⟨fun j hj => ?_, fun j hj => ?_, fun j hj => ⟨Nat.zero_le _, Nat.zero_le _⟩, fun c a b => by rw [hc]; exact h4 c a b⟩
  · have : pendN F' cm (nI j) = [] := by
      rw [List.eq_nil_iff_forall_not_mem]
      intro c hc
      have := pendN_mem.mp hc
      rw [h11 c this.1.1 this.1.2] at this
      exact m1ne j hj this.2
    rw [this]; rfl
  · have : doneN F' cp (nI j) = [] := by
      rw [List.eq_nil_iff_forall_not_mem]
      intro i hi
      have := doneN_mem.mp hi
      rw [h17 i this.1] at this
      exact m1ne j hj this.2
    rw [this]; rfl
theorem LG.clr {F : Nat → Nat → Int32} {un sn : Nat} {fl : Nat → Int64} {us : List uU} (h : LG F un sn fl us) : LG (va_up F 6 (fil 0 (F 6) 0 un)) un sn fl [] := by
  obtain ⟨h1, h2, h3, h4, h5, h6, h7⟩ := h
  have e6 : ∀ v, va_up F 6 (fil 0 (F 6) 0 un) 6 v = 0 := by
    intro v
    simp only [va_up, if_true, fil]
    by_cases c : 0 ≤ v ∧ v < un
    · rw [if_pos c]
    · rw [if_neg c]; exact h5 v (by omega)
  have eu : ∀ v, uN (va_up F 6 (fil 0 (F 6) 0 un)) v = uN F v := fun v => by simp [uN, va_up]
  have e5 : va_up F 6 (fil 0 (F 6) 0 un) 5 = F 5 := by simp [va_up]
  have hl : liveN (va_up F 6 (fil 0 (F 6) 0 un)) un = [] := by
    rw [List.eq_nil_iff_forall_not_mem]
    intro u hu
    exact (liveN_mem.mp hu).2 (e6 u)
  refine ⟨by rw [hl]; rfl, fun a ha => ?_, fun v hv => by rw [eu]; exact h3 v hv, fun v hv => by rw [e5]; exact h4 v hv, fun v _ => e6 v, by rw [hl]; simp; omega, h7⟩
  rw [h2 a ha, inFl, inFl, bestN_congr (F' := va_up F 6 (fil 0 (F 6) 0 un)) (F := F) (fun v _ => ⟨by rw [e5], eu v⟩)]
  cases bestN F (nI a) un with
  | none => rfl
  | some b => show wrd (uN F b) (nI a) = wrd (uN (va_up F 6 (fil 0 (F 6) 0 un)) b) (nI a); rw [eu]
theorem MR.mono {cA : Nat → ClassId} {w : mw} {ρ q : Nat → Nat} {lim t t' : Nat} {g : gS} (h : MR cA w ρ q lim t g) (ht : t ≤ t') : MR cA w ρ q lim t' g := by
  obtain ⟨un, cp, bd, F, R, V, a, b, c, d⟩ := h
  exact ⟨un, cp, bd, F, R, V, Nat.le_trans a ht, Nat.le_trans b ht, Nat.le_trans c ht, d⟩
theorem pdur_1 {L : Nat} {fl : Nat → Int64} {us : List uU} {sn pw : Nat} {pq : Nat → List pC} {cq : Nat → List (Int32 × Int64)} {ln : Nat} {tn : Int32} {tr : Int64} {q x y : Int32} (h : refS pq cq q x = -1) : pdurS L (fl, us, sn, pw, pq, cq, ln, tn, tr) q x y = (-1, (fl, us, sn, pw, pq, cq, ln, tn, tr)) := by
  simp only [pdurS]
  rw [h]
  split
  · rw [if_neg (by decide)]
  · rfl
theorem unit_x {g : gS} {y x : Int32} (h0 : ¬ x = 0) (h1 : ¬ x = 1) (h2 : ¬ x = 2) : unitS g y x = -1 := by
  rw [unitS]
  split
  · split <;> first | rfl | (rw [if_neg h0, if_neg h1, if_neg h2])
  · rfl
theorem d_M_result_0 : decode b_M_result 0 = .ok (.aload_n 0, 1) := by decide +kernel
theorem d_M_result_1 : decode b_M_result 1 = .ok (.getfield 56, 3) := by decide +kernel
theorem d_M_result_4 : decode b_M_result 4 = .ok (.lreturn, 1) := by decide +kernel
theorem d_M_reset_0 : decode b_M_reset 0 = .ok (.iconst 0, 1) := by decide +kernel
theorem d_M_reset_1 : decode b_M_reset 1 = .ok (.istore_n 1, 1) := by decide +kernel
theorem d_M_reset_2 : decode b_M_reset 2 = .ok (.iconst 0, 1) := by decide +kernel
theorem d_M_reset_3 : decode b_M_reset 3 = .ok (.istore_n 2, 1) := by decide +kernel
theorem d_M_reset_4 : decode b_M_reset 4 = .ok (.iload_n 2, 1) := by decide +kernel
theorem d_M_reset_5 : decode b_M_reset 5 = .ok (.iconst 3, 1) := by decide +kernel
theorem d_M_reset_6 : decode b_M_reset 6 = .ok (.if_icmp .ge 17, 3) := by decide +kernel
theorem d_M_reset_9 : decode b_M_reset 9 = .ok (.iload_n 1, 1) := by decide +kernel
theorem d_M_reset_10 : decode b_M_reset 10 = .ok (.aload_n 0, 1) := by decide +kernel
theorem d_M_reset_11 : decode b_M_reset 11 = .ok (.iload_n 2, 1) := by decide +kernel
theorem d_M_reset_12 : decode b_M_reset 12 = .ok (.invokevirtual 125, 3) := by decide +kernel
theorem d_M_reset_15 : decode b_M_reset 15 = .ok (.iadd, 1) := by decide +kernel
theorem d_M_reset_16 : decode b_M_reset 16 = .ok (.istore_n 1, 1) := by decide +kernel
theorem d_M_reset_17 : decode b_M_reset 17 = .ok (.iinc 2 1, 3) := by decide +kernel
theorem d_M_reset_20 : decode b_M_reset 20 = .ok (.goto (-16), 3) := by decide +kernel
theorem d_M_reset_23 : decode b_M_reset 23 = .ok (.iconst 1, 1) := by decide +kernel
theorem d_M_reset_24 : decode b_M_reset 24 = .ok (.istore_n 2, 1) := by decide +kernel
theorem d_M_reset_25 : decode b_M_reset 25 = .ok (.iload_n 2, 1) := by decide +kernel
theorem d_M_reset_26 : decode b_M_reset 26 = .ok (.aload_n 0, 1) := by decide +kernel
theorem d_M_reset_27 : decode b_M_reset 27 = .ok (.getfield 116, 3) := by decide +kernel
theorem d_M_reset_30 : decode b_M_reset 30 = .ok (.if_icmp .gt 16, 3) := by decide +kernel
theorem d_M_reset_33 : decode b_M_reset 33 = .ok (.aload_n 0, 1) := by decide +kernel
theorem d_M_reset_34 : decode b_M_reset 34 = .ok (.getfield 29, 3) := by decide +kernel
theorem d_M_reset_37 : decode b_M_reset 37 = .ok (.iload_n 2, 1) := by decide +kernel
theorem d_M_reset_38 : decode b_M_reset 38 = .ok (.iconst (-1), 1) := by decide +kernel
theorem d_M_reset_39 : decode b_M_reset 39 = .ok (.iastore, 1) := by decide +kernel
theorem d_M_reset_40 : decode b_M_reset 40 = .ok (.iinc 2 1, 3) := by decide +kernel
theorem d_M_reset_43 : decode b_M_reset 43 = .ok (.goto (-18), 3) := by decide +kernel
theorem d_M_reset_46 : decode b_M_reset 46 = .ok (.iconst 0, 1) := by decide +kernel
theorem d_M_reset_47 : decode b_M_reset 47 = .ok (.istore_n 2, 1) := by decide +kernel
theorem d_M_reset_48 : decode b_M_reset 48 = .ok (.iload_n 2, 1) := by decide +kernel
theorem d_M_reset_49 : decode b_M_reset 49 = .ok (.aload_n 0, 1) := by decide +kernel
theorem d_M_reset_50 : decode b_M_reset 50 = .ok (.getfield 119, 3) := by decide +kernel
theorem d_M_reset_53 : decode b_M_reset 53 = .ok (.if_icmp .ge 16, 3) := by decide +kernel
theorem d_M_reset_56 : decode b_M_reset 56 = .ok (.aload_n 0, 1) := by decide +kernel
theorem d_M_reset_57 : decode b_M_reset 57 = .ok (.getfield 44, 3) := by decide +kernel
theorem d_M_reset_60 : decode b_M_reset 60 = .ok (.iload_n 2, 1) := by decide +kernel
theorem d_M_reset_61 : decode b_M_reset 61 = .ok (.iconst (-1), 1) := by decide +kernel
theorem d_M_reset_62 : decode b_M_reset 62 = .ok (.iastore, 1) := by decide +kernel
theorem d_M_reset_63 : decode b_M_reset 63 = .ok (.iinc 2 1, 3) := by decide +kernel
theorem d_M_reset_66 : decode b_M_reset 66 = .ok (.goto (-18), 3) := by decide +kernel
theorem d_M_reset_69 : decode b_M_reset 69 = .ok (.iload_n 1, 1) := by decide +kernel
theorem d_M_reset_70 : decode b_M_reset 70 = .ok (.ireturn, 1) := by decide +kernel
theorem d_M_power_0 : decode b_M_power 0 = .ok (.aload_n 0, 1) := by decide +kernel
theorem d_M_power_1 : decode b_M_power 1 = .ok (.invokevirtual 92, 3) := by decide +kernel
theorem d_M_power_4 : decode b_M_power 4 = .ok (.istore_n 1, 1) := by decide +kernel
theorem d_M_power_5 : decode b_M_power 5 = .ok (.iconst 0, 1) := by decide +kernel
theorem d_M_power_6 : decode b_M_power 6 = .ok (.istore_n 2, 1) := by decide +kernel
theorem d_M_power_7 : decode b_M_power 7 = .ok (.iload_n 2, 1) := by decide +kernel
theorem d_M_power_8 : decode b_M_power 8 = .ok (.aload_n 0, 1) := by decide +kernel
theorem d_M_power_9 : decode b_M_power 9 = .ok (.getfield 64, 3) := by decide +kernel
theorem d_M_power_12 : decode b_M_power 12 = .ok (.if_icmp .ge 16, 3) := by decide +kernel
theorem d_M_power_15 : decode b_M_power 15 = .ok (.aload_n 0, 1) := by decide +kernel
theorem d_M_power_16 : decode b_M_power 16 = .ok (.getfield 26, 3) := by decide +kernel
theorem d_M_power_19 : decode b_M_power 19 = .ok (.iload_n 2, 1) := by decide +kernel
theorem d_M_power_20 : decode b_M_power 20 = .ok (.iconst 0, 1) := by decide +kernel
theorem d_M_power_21 : decode b_M_power 21 = .ok (.bastore, 1) := by decide +kernel
theorem d_M_power_22 : decode b_M_power 22 = .ok (.iinc 2 1, 3) := by decide +kernel
theorem d_M_power_25 : decode b_M_power 25 = .ok (.goto (-18), 3) := by decide +kernel
theorem d_M_power_28 : decode b_M_power 28 = .ok (.aload_n 0, 1) := by decide +kernel
theorem d_M_power_29 : decode b_M_power 29 = .ok (.invokevirtual 141, 3) := by decide +kernel
theorem d_M_power_32 : decode b_M_power 32 = .ok (.istore_n 2, 1) := by decide +kernel
theorem d_M_power_33 : decode b_M_power 33 = .ok (.iload_n 1, 1) := by decide +kernel
theorem d_M_power_34 : decode b_M_power 34 = .ok (.ireturn, 1) := by decide +kernel
theorem d_M_powerDuring_0 : decode b_M_powerDuring 0 = .ok (.iload_n 1, 1) := by decide +kernel
theorem d_M_powerDuring_1 : decode b_M_powerDuring 1 = .ok (.iconst 3, 1) := by decide +kernel
theorem d_M_powerDuring_2 : decode b_M_powerDuring 2 = .ok (.invokestatic 122, 3) := by decide +kernel
theorem d_M_powerDuring_5 : decode b_M_powerDuring 5 = .ok (.ifCond .eq 29, 3) := by decide +kernel
theorem d_M_powerDuring_8 : decode b_M_powerDuring 8 = .ok (.iload_n 2, 1) := by decide +kernel
theorem d_M_powerDuring_9 : decode b_M_powerDuring 9 = .ok (.iconst 4, 1) := by decide +kernel
theorem d_M_powerDuring_10 : decode b_M_powerDuring 10 = .ok (.invokestatic 122, 3) := by decide +kernel
theorem d_M_powerDuring_13 : decode b_M_powerDuring 13 = .ok (.ifCond .eq 21, 3) := by decide +kernel
theorem d_M_powerDuring_16 : decode b_M_powerDuring 16 = .ok (.iload_n 3, 1) := by decide +kernel
theorem d_M_powerDuring_17 : decode b_M_powerDuring 17 = .ok (.bipush 31, 2) := by decide +kernel
theorem d_M_powerDuring_19 : decode b_M_powerDuring 19 = .ok (.invokestatic 122, 3) := by decide +kernel
theorem d_M_powerDuring_22 : decode b_M_powerDuring 22 = .ok (.ifCond .eq 12, 3) := by decide +kernel
theorem d_M_powerDuring_25 : decode b_M_powerDuring 25 = .ok (.aload_n 0, 1) := by decide +kernel
theorem d_M_powerDuring_26 : decode b_M_powerDuring 26 = .ok (.iload_n 1, 1) := by decide +kernel
theorem d_M_powerDuring_27 : decode b_M_powerDuring 27 = .ok (.iload_n 2, 1) := by decide +kernel
theorem d_M_powerDuring_28 : decode b_M_powerDuring 28 = .ok (.invokevirtual 128, 3) := by decide +kernel
theorem d_M_powerDuring_31 : decode b_M_powerDuring 31 = .ok (.ifCond .ne 5, 3) := by decide +kernel
theorem d_M_powerDuring_34 : decode b_M_powerDuring 34 = .ok (.iconst (-1), 1) := by decide +kernel
theorem d_M_powerDuring_35 : decode b_M_powerDuring 35 = .ok (.ireturn, 1) := by decide +kernel
theorem d_M_powerDuring_36 : decode b_M_powerDuring 36 = .ok (.aload_n 0, 1) := by decide +kernel
theorem d_M_powerDuring_37 : decode b_M_powerDuring 37 = .ok (.iload_n 1, 1) := by decide +kernel
theorem d_M_powerDuring_38 : decode b_M_powerDuring 38 = .ok (.invokevirtual 132, 3) := by decide +kernel
theorem d_M_powerDuring_41 : decode b_M_powerDuring 41 = .ok (.iconst 4, 1) := by decide +kernel
theorem d_M_powerDuring_42 : decode b_M_powerDuring 42 = .ok (.if_icmp .ne 6, 3) := by decide +kernel
theorem d_M_powerDuring_45 : decode b_M_powerDuring 45 = .ok (.bipush (-3), 2) := by decide +kernel
theorem d_M_powerDuring_47 : decode b_M_powerDuring 47 = .ok (.ireturn, 1) := by decide +kernel
theorem d_M_powerDuring_48 : decode b_M_powerDuring 48 = .ok (.aload_n 0, 1) := by decide +kernel
theorem d_M_powerDuring_49 : decode b_M_powerDuring 49 = .ok (.getfield 82, 3) := by decide +kernel
theorem d_M_powerDuring_52 : decode b_M_powerDuring 52 = .ok (.istore 4, 2) := by decide +kernel
theorem d_M_powerDuring_54 : decode b_M_powerDuring 54 = .ok (.aload_n 0, 1) := by decide +kernel
theorem d_M_powerDuring_55 : decode b_M_powerDuring 55 = .ok (.iload_n 3, 1) := by decide +kernel
theorem d_M_powerDuring_56 : decode b_M_powerDuring 56 = .ok (.putfield 79, 3) := by decide +kernel
theorem d_M_powerDuring_59 : decode b_M_powerDuring 59 = .ok (.aload_n 0, 1) := by decide +kernel
theorem d_M_powerDuring_60 : decode b_M_powerDuring 60 = .ok (.aload_n 0, 1) := by decide +kernel
theorem d_M_powerDuring_61 : decode b_M_powerDuring 61 = .ok (.iload_n 1, 1) := by decide +kernel
theorem d_M_powerDuring_62 : decode b_M_powerDuring 62 = .ok (.iload_n 2, 1) := by decide +kernel
theorem d_M_powerDuring_63 : decode b_M_powerDuring 63 = .ok (.invokevirtual 128, 3) := by decide +kernel
theorem d_M_powerDuring_66 : decode b_M_powerDuring 66 = .ok (.invokevirtual 135, 3) := by decide +kernel
theorem d_M_powerDuring_69 : decode b_M_powerDuring 69 = .ok (.lstore 5, 2) := by decide +kernel
theorem d_M_powerDuring_71 : decode b_M_powerDuring 71 = .ok (.aload_n 0, 1) := by decide +kernel
theorem d_M_powerDuring_72 : decode b_M_powerDuring 72 = .ok (.invokevirtual 144, 3) := by decide +kernel
theorem d_M_powerDuring_75 : decode b_M_powerDuring 75 = .ok (.istore 7, 2) := by decide +kernel
theorem d_M_powerDuring_77 : decode b_M_powerDuring 77 = .ok (.aload_n 0, 1) := by decide +kernel
theorem d_M_powerDuring_78 : decode b_M_powerDuring 78 = .ok (.getfield 82, 3) := by decide +kernel
theorem d_M_powerDuring_81 : decode b_M_powerDuring 81 = .ok (.iload 4, 2) := by decide +kernel
theorem d_M_powerDuring_83 : decode b_M_powerDuring 83 = .ok (.isub, 1) := by decide +kernel
theorem d_M_powerDuring_84 : decode b_M_powerDuring 84 = .ok (.ireturn, 1) := by decide +kernel
theorem d_M_word_0 : decode b_M_word 0 = .ok (.iload_n 1, 1) := by decide +kernel
theorem d_M_word_1 : decode b_M_word 1 = .ok (.bipush 24, 2) := by decide +kernel
theorem d_M_word_3 : decode b_M_word 3 = .ok (.invokestatic 122, 3) := by decide +kernel
theorem d_M_word_6 : decode b_M_word 6 = .ok (.ifCond .eq 11, 3) := by decide +kernel
theorem d_M_word_9 : decode b_M_word 9 = .ok (.aload_n 0, 1) := by decide +kernel
theorem d_M_word_10 : decode b_M_word 10 = .ok (.iload_n 1, 1) := by decide +kernel
theorem d_M_word_11 : decode b_M_word 11 = .ok (.invokevirtual 100, 3) := by decide +kernel
theorem d_M_word_14 : decode b_M_word 14 = .ok (.goto 6, 3) := by decide +kernel
theorem d_M_word_17 : decode b_M_word 17 = .ok (.ldc2_w 54, 3) := by decide +kernel
theorem d_M_word_20 : decode b_M_word 20 = .ok (.lreturn, 1) := by decide +kernel
theorem d_M_flash_0 : decode b_M_flash 0 = .ok (.iload_n 1, 1) := by decide +kernel
theorem d_M_flash_1 : decode b_M_flash 1 = .ok (.bipush 24, 2) := by decide +kernel
theorem d_M_flash_3 : decode b_M_flash 3 = .ok (.invokestatic 122, 3) := by decide +kernel
theorem d_M_flash_6 : decode b_M_flash 6 = .ok (.ifCond .eq 11, 3) := by decide +kernel
theorem d_M_flash_9 : decode b_M_flash 9 = .ok (.aload_n 0, 1) := by decide +kernel
theorem d_M_flash_10 : decode b_M_flash 10 = .ok (.iload_n 1, 1) := by decide +kernel
theorem d_M_flash_11 : decode b_M_flash 11 = .ok (.invokevirtual 75, 3) := by decide +kernel
theorem d_M_flash_14 : decode b_M_flash 14 = .ok (.goto 6, 3) := by decide +kernel
theorem d_M_flash_17 : decode b_M_flash 17 = .ok (.ldc2_w 54, 3) := by decide +kernel
theorem d_M_flash_20 : decode b_M_flash 20 = .ok (.lreturn, 1) := by decide +kernel
theorem d_M_queue_0 : decode b_M_queue 0 = .ok (.iload_n 1, 1) := by decide +kernel
theorem d_M_queue_1 : decode b_M_queue 1 = .ok (.iconst 3, 1) := by decide +kernel
theorem d_M_queue_2 : decode b_M_queue 2 = .ok (.invokestatic 122, 3) := by decide +kernel
theorem d_M_queue_5 : decode b_M_queue 5 = .ok (.ifCond .eq 12, 3) := by decide +kernel
theorem d_M_queue_8 : decode b_M_queue 8 = .ok (.iload_n 2, 1) := by decide +kernel
theorem d_M_queue_9 : decode b_M_queue 9 = .ok (.bipush 6, 2) := by decide +kernel
theorem d_M_queue_11 : decode b_M_queue 11 = .ok (.invokestatic 122, 3) := by decide +kernel
theorem d_M_queue_14 : decode b_M_queue 14 = .ok (.ifCond .ne 5, 3) := by decide +kernel
theorem d_M_queue_17 : decode b_M_queue 17 = .ok (.iconst (-1), 1) := by decide +kernel
theorem d_M_queue_18 : decode b_M_queue 18 = .ok (.ireturn, 1) := by decide +kernel
theorem d_M_queue_19 : decode b_M_queue 19 = .ok (.iload_n 2, 1) := by decide +kernel
theorem d_M_queue_20 : decode b_M_queue 20 = .ok (.ifCond .ne 9, 3) := by decide +kernel
theorem d_M_queue_23 : decode b_M_queue 23 = .ok (.aload_n 0, 1) := by decide +kernel
theorem d_M_queue_24 : decode b_M_queue 24 = .ok (.iload_n 1, 1) := by decide +kernel
theorem d_M_queue_25 : decode b_M_queue 25 = .ok (.invokevirtual 125, 3) := by decide +kernel
theorem d_M_queue_28 : decode b_M_queue 28 = .ok (.ireturn, 1) := by decide +kernel
theorem d_M_queue_29 : decode b_M_queue 29 = .ok (.iload_n 2, 1) := by decide +kernel
theorem d_M_queue_30 : decode b_M_queue 30 = .ok (.iconst 1, 1) := by decide +kernel
theorem d_M_queue_31 : decode b_M_queue 31 = .ok (.if_icmp .ne 9, 3) := by decide +kernel
theorem d_M_queue_34 : decode b_M_queue 34 = .ok (.aload_n 0, 1) := by decide +kernel
theorem d_M_queue_35 : decode b_M_queue 35 = .ok (.iload_n 1, 1) := by decide +kernel
theorem d_M_queue_36 : decode b_M_queue 36 = .ok (.invokevirtual 132, 3) := by decide +kernel
theorem d_M_queue_39 : decode b_M_queue 39 = .ok (.ireturn, 1) := by decide +kernel
theorem d_M_queue_40 : decode b_M_queue 40 = .ok (.aload_n 0, 1) := by decide +kernel
theorem d_M_queue_41 : decode b_M_queue 41 = .ok (.iload_n 1, 1) := by decide +kernel
theorem d_M_queue_42 : decode b_M_queue 42 = .ok (.iload_n 2, 1) := by decide +kernel
theorem d_M_queue_43 : decode b_M_queue 43 = .ok (.iconst 2, 1) := by decide +kernel
theorem d_M_queue_44 : decode b_M_queue 44 = .ok (.isub, 1) := by decide +kernel
theorem d_M_queue_45 : decode b_M_queue 45 = .ok (.invokevirtual 128, 3) := by decide +kernel
theorem d_M_queue_48 : decode b_M_queue 48 = .ok (.istore_n 3, 1) := by decide +kernel
theorem d_M_queue_49 : decode b_M_queue 49 = .ok (.iload_n 3, 1) := by decide +kernel
theorem d_M_queue_50 : decode b_M_queue 50 = .ok (.ifCond .ne 7, 3) := by decide +kernel
theorem d_M_queue_53 : decode b_M_queue 53 = .ok (.iconst (-1), 1) := by decide +kernel
theorem d_M_queue_54 : decode b_M_queue 54 = .ok (.goto 4, 3) := by decide +kernel
theorem d_M_queue_57 : decode b_M_queue 57 = .ok (.iload_n 3, 1) := by decide +kernel
theorem d_M_queue_58 : decode b_M_queue 58 = .ok (.ireturn, 1) := by decide +kernel
theorem d_M_unit_0 : decode b_M_unit 0 = .ok (.iload_n 1, 1) := by decide +kernel
theorem d_M_unit_1 : decode b_M_unit 1 = .ok (.bipush 6, 2) := by decide +kernel
theorem d_M_unit_3 : decode b_M_unit 3 = .ok (.invokestatic 122, 3) := by decide +kernel
theorem d_M_unit_6 : decode b_M_unit 6 = .ok (.ifCond .eq 19, 3) := by decide +kernel
theorem d_M_unit_9 : decode b_M_unit 9 = .ok (.iload_n 2, 1) := by decide +kernel
theorem d_M_unit_10 : decode b_M_unit 10 = .ok (.iconst 3, 1) := by decide +kernel
theorem d_M_unit_11 : decode b_M_unit 11 = .ok (.invokestatic 122, 3) := by decide +kernel
theorem d_M_unit_14 : decode b_M_unit 14 = .ok (.ifCond .eq 11, 3) := by decide +kernel
theorem d_M_unit_17 : decode b_M_unit 17 = .ok (.iload_n 1, 1) := by decide +kernel
theorem d_M_unit_18 : decode b_M_unit 18 = .ok (.aload_n 0, 1) := by decide +kernel
theorem d_M_unit_19 : decode b_M_unit 19 = .ok (.invokevirtual 92, 3) := by decide +kernel
theorem d_M_unit_22 : decode b_M_unit 22 = .ok (.if_icmp .lt 5, 3) := by decide +kernel
theorem d_M_unit_25 : decode b_M_unit 25 = .ok (.iconst (-1), 1) := by decide +kernel
theorem d_M_unit_26 : decode b_M_unit 26 = .ok (.ireturn, 1) := by decide +kernel
theorem d_M_unit_27 : decode b_M_unit 27 = .ok (.iconst 0, 1) := by decide +kernel
theorem d_M_unit_28 : decode b_M_unit 28 = .ok (.istore_n 3, 1) := by decide +kernel
theorem d_M_unit_29 : decode b_M_unit 29 = .ok (.iconst 0, 1) := by decide +kernel
theorem d_M_unit_30 : decode b_M_unit 30 = .ok (.istore 4, 2) := by decide +kernel
theorem d_M_unit_32 : decode b_M_unit 32 = .ok (.iload 4, 2) := by decide +kernel
theorem d_M_unit_34 : decode b_M_unit 34 = .ok (.aload_n 0, 1) := by decide +kernel
theorem d_M_unit_35 : decode b_M_unit 35 = .ok (.getfield 64, 3) := by decide +kernel
theorem d_M_unit_38 : decode b_M_unit 38 = .ok (.if_icmp .ge 72, 3) := by decide +kernel
theorem d_M_unit_41 : decode b_M_unit 41 = .ok (.aload_n 0, 1) := by decide +kernel
theorem d_M_unit_42 : decode b_M_unit 42 = .ok (.getfield 26, 3) := by decide +kernel
theorem d_M_unit_45 : decode b_M_unit 45 = .ok (.iload 4, 2) := by decide +kernel
theorem d_M_unit_47 : decode b_M_unit 47 = .ok (.baload, 1) := by decide +kernel
theorem d_M_unit_48 : decode b_M_unit 48 = .ok (.ifCond .eq 56, 3) := by decide +kernel
theorem d_M_unit_51 : decode b_M_unit 51 = .ok (.iload_n 3, 1) := by decide +kernel
theorem d_M_unit_52 : decode b_M_unit 52 = .ok (.iload_n 1, 1) := by decide +kernel
theorem d_M_unit_53 : decode b_M_unit 53 = .ok (.if_icmp .ne 48, 3) := by decide +kernel
theorem d_M_unit_56 : decode b_M_unit 56 = .ok (.iload_n 2, 1) := by decide +kernel
theorem d_M_unit_57 : decode b_M_unit 57 = .ok (.ifCond .ne 13, 3) := by decide +kernel
theorem d_M_unit_60 : decode b_M_unit 60 = .ok (.aload_n 0, 1) := by decide +kernel
theorem d_M_unit_61 : decode b_M_unit 61 = .ok (.getfield 7, 3) := by decide +kernel
theorem d_M_unit_64 : decode b_M_unit 64 = .ok (.iload 4, 2) := by decide +kernel
theorem d_M_unit_66 : decode b_M_unit 66 = .ok (.iaload, 1) := by decide +kernel
theorem d_M_unit_67 : decode b_M_unit 67 = .ok (.goto 33, 3) := by decide +kernel
theorem d_M_unit_70 : decode b_M_unit 70 = .ok (.iload_n 2, 1) := by decide +kernel
theorem d_M_unit_71 : decode b_M_unit 71 = .ok (.iconst 1, 1) := by decide +kernel
theorem d_M_unit_72 : decode b_M_unit 72 = .ok (.if_icmp .ne 13, 3) := by decide +kernel
theorem d_M_unit_75 : decode b_M_unit 75 = .ok (.aload_n 0, 1) := by decide +kernel
theorem d_M_unit_76 : decode b_M_unit 76 = .ok (.getfield 13, 3) := by decide +kernel
theorem d_M_unit_79 : decode b_M_unit 79 = .ok (.iload 4, 2) := by decide +kernel
theorem d_M_unit_81 : decode b_M_unit 81 = .ok (.iaload, 1) := by decide +kernel
theorem d_M_unit_82 : decode b_M_unit 82 = .ok (.goto 18, 3) := by decide +kernel
theorem d_M_unit_85 : decode b_M_unit 85 = .ok (.aload_n 0, 1) := by decide +kernel
theorem d_M_unit_86 : decode b_M_unit 86 = .ok (.getfield 19, 3) := by decide +kernel
theorem d_M_unit_89 : decode b_M_unit 89 = .ok (.iload 4, 2) := by decide +kernel
theorem d_M_unit_91 : decode b_M_unit 91 = .ok (.baload, 1) := by decide +kernel
theorem d_M_unit_92 : decode b_M_unit 92 = .ok (.ifCond .eq 7, 3) := by decide +kernel
theorem d_M_unit_95 : decode b_M_unit 95 = .ok (.iconst 1, 1) := by decide +kernel
theorem d_M_unit_96 : decode b_M_unit 96 = .ok (.goto 4, 3) := by decide +kernel
theorem d_M_unit_99 : decode b_M_unit 99 = .ok (.iconst 0, 1) := by decide +kernel
theorem d_M_unit_100 : decode b_M_unit 100 = .ok (.ireturn, 1) := by decide +kernel
theorem d_M_unit_101 : decode b_M_unit 101 = .ok (.iinc 3 1, 3) := by decide +kernel
theorem d_M_unit_104 : decode b_M_unit 104 = .ok (.iinc 4 1, 3) := by decide +kernel
theorem d_M_unit_107 : decode b_M_unit 107 = .ok (.goto (-75), 3) := by decide +kernel
theorem d_M_unit_110 : decode b_M_unit 110 = .ok (.iconst (-1), 1) := by decide +kernel
theorem d_M_unit_111 : decode b_M_unit 111 = .ok (.ireturn, 1) := by decide +kernel
theorem d_M_count_0 : decode b_M_count 0 = .ok (.iload_n 1, 1) := by decide +kernel
theorem d_M_count_1 : decode b_M_count 1 = .ok (.ifCond .ne 8, 3) := by decide +kernel
theorem d_M_count_4 : decode b_M_count 4 = .ok (.aload_n 0, 1) := by decide +kernel
theorem d_M_count_5 : decode b_M_count 5 = .ok (.invokevirtual 92, 3) := by decide +kernel
theorem d_M_count_8 : decode b_M_count 8 = .ok (.ireturn, 1) := by decide +kernel
theorem d_M_count_9 : decode b_M_count 9 = .ok (.iload_n 1, 1) := by decide +kernel
theorem d_M_count_10 : decode b_M_count 10 = .ok (.iconst 1, 1) := by decide +kernel
theorem d_M_count_11 : decode b_M_count 11 = .ok (.if_icmp .ne 8, 3) := by decide +kernel
theorem d_M_count_14 : decode b_M_count 14 = .ok (.aload_n 0, 1) := by decide +kernel
theorem d_M_count_15 : decode b_M_count 15 = .ok (.getfield 116, 3) := by decide +kernel
theorem d_M_count_18 : decode b_M_count 18 = .ok (.ireturn, 1) := by decide +kernel
theorem d_M_count_19 : decode b_M_count 19 = .ok (.iload_n 1, 1) := by decide +kernel
theorem d_M_count_20 : decode b_M_count 20 = .ok (.iconst 2, 1) := by decide +kernel
theorem d_M_count_21 : decode b_M_count 21 = .ok (.if_icmp .ne 8, 3) := by decide +kernel
theorem d_M_count_24 : decode b_M_count 24 = .ok (.aload_n 0, 1) := by decide +kernel
theorem d_M_count_25 : decode b_M_count 25 = .ok (.getfield 85, 3) := by decide +kernel
theorem d_M_count_28 : decode b_M_count 28 = .ok (.ireturn, 1) := by decide +kernel
theorem d_M_count_29 : decode b_M_count 29 = .ok (.iload_n 1, 1) := by decide +kernel
theorem d_M_count_30 : decode b_M_count 30 = .ok (.iconst 3, 1) := by decide +kernel
theorem d_M_count_31 : decode b_M_count 31 = .ok (.if_icmp .ne 8, 3) := by decide +kernel
theorem d_M_count_34 : decode b_M_count 34 = .ok (.aload_n 0, 1) := by decide +kernel
theorem d_M_count_35 : decode b_M_count 35 = .ok (.getfield 82, 3) := by decide +kernel
theorem d_M_count_38 : decode b_M_count 38 = .ok (.ireturn, 1) := by decide +kernel
theorem d_M_count_39 : decode b_M_count 39 = .ok (.iload_n 1, 1) := by decide +kernel
theorem d_M_count_40 : decode b_M_count 40 = .ok (.iconst 4, 1) := by decide +kernel
theorem d_M_count_41 : decode b_M_count 41 = .ok (.if_icmp .ne 10, 3) := by decide +kernel
theorem d_M_count_44 : decode b_M_count 44 = .ok (.aload_n 0, 1) := by decide +kernel
theorem d_M_count_45 : decode b_M_count 45 = .ok (.getfield 138, 3) := by decide +kernel
theorem d_M_count_48 : decode b_M_count 48 = .ok (.goto 4, 3) := by decide +kernel
theorem d_M_count_51 : decode b_M_count 51 = .ok (.iconst (-1), 1) := by decide +kernel
theorem d_M_count_52 : decode b_M_count 52 = .ok (.ireturn, 1) := by decide +kernel
set_option maxHeartbeats 4000000 in
set_option maxRecDepth 100000 in
theorem m_M_result {l : Launch} {D : va_G} {cA : Nat → ClassId} {n0 : Nat} {w : mw} {ρ q : Nat → Nat} {lim t : Nat} {fl : Nat → Int64} {us : List uU} {sn pw : Nat} {pq : Nat → List pC} {cq : Nat → List (Int32 × Int64)} {ln : Nat} {tn : Int32} {tr : Int64} (Y : MR cA w ρ q lim t (fl, us, sn, pw, pq, cq, ln, tn, tr)) (ht : t ≤ 512) :
    Ml l D cA n0 y_M_result c_M_result (rmd 0) [.ref (q 0)] w (fun r w' => r = tr ∧ w' = w) := by
  refine mw_met (cc := b_M_result) (maxL := 1) (ret := (some .long)) (by decide) rfl (Nat.le_of_ble_eq_true rfl) ?_
  intro p e s m below meth c ls G hrt hlocks hname h hl
  have G : mw_G p m c b_M_result 1 s _ (c_M_result :: TB) R_M D cl (tys cA) n0 := G
  have hx := G.1.1
  have hb := G.1.2.1
  have hl : lv_has ls 1 [(0, .ref (q 0))] := hl
  obtain ⟨un, cp, bd, F, R, V, hut, hct, hpt, hbd, hQN⟩ := id Y
  have V : MC cA w ρ q lim un ln cp tn tr F R (fl, us, sn, pw, bd) := V
  have hct : ln ≤ t := hct
  have hQN : QN F R ln cp pq cq := hQN
  obtain ⟨X, hG⟩ := id V
  have X : MX cA w ρ q lim un sn pw bd ln cp tn tr F R := X
  have hG : LG F un sn fl us := hG
  obtain ⟨hQp, hQc, hQl, hQv⟩ := id hQN
  have hun : un ≤ 512 := by omega
  have hcm : ln ≤ 512 := by omega
  have hcp : cp ≤ 512 := by omega
  refine lv_aload_n hx hb d_M_result_0 rfl (lv_at hl 0 rfl) ?_
  refine mx_get G h X.1 rfl 22 (by decide) (tb_in in_M) (tb_c k_334) rfl rfl d_M_result_1 ?_
  exact mx_retl G h hrt hlocks d_M_result_4 (⟨rfl, rfl⟩)
set_option maxHeartbeats 4000000 in
set_option maxRecDepth 100000 in
theorem m_M_reset {l : Launch} {D : va_G} {cA : Nat → ClassId} {n0 : Nat} {w : mw} {ρ q : Nat → Nat} {lim t : Nat} {fl : Nat → Int64} {us : List uU} {sn pw : Nat} {pq : Nat → List pC} {cq : Nat → List (Int32 × Int64)} {ln : Nat} {tn : Int32} {tr : Int64} (Y : MR cA w ρ q lim t (fl, us, sn, pw, pq, cq, ln, tn, tr)) (ht : t ≤ 512) :
    Mi l D cA n0 y_M_reset c_M_reset (rmd 1) [.ref (q 0)] w (fun r w' => r = (resetS (fl, us, sn, pw, pq, cq, ln, tn, tr)).1 ∧ MR cA w' ρ q lim t (resetS (fl, us, sn, pw, pq, cq, ln, tn, tr)).2 ∧ FR w w' (P7 ρ)) := by
  refine mw_met (cc := b_M_reset) (maxL := 3) (ret := (some .int)) (by decide) rfl (Nat.le_of_ble_eq_true rfl) ?_
  intro p e s m below meth c ls G hrt hlocks hname h hl
  have G : mw_G p m c b_M_reset 3 s _ (c_M_reset :: TB) R_M D cl (tys cA) n0 := G
  have hx := G.1.1
  have hb := G.1.2.1
  have hl : lv_has ls 3 [(0, .ref (q 0))] := hl
  obtain ⟨un, cp, bd, F, R, V, hut, hct, hpt, hbd, hQN⟩ := id Y
  have V : MC cA w ρ q lim un ln cp tn tr F R (fl, us, sn, pw, bd) := V
  have hct : ln ≤ t := hct
  have hQN : QN F R ln cp pq cq := hQN
  obtain ⟨X, hG⟩ := id V
  have X : MX cA w ρ q lim un sn pw bd ln cp tn tr F R := X
  have hG : LG F un sn fl us := hG
  obtain ⟨hQp, hQc, hQl, hQv⟩ := id hQN
  have hun : un ≤ 512 := by omega
  have hcm : ln ≤ 512 := by omega
  have hcp : cp ≤ 512 := by omega
  have hl0 : (pendN F ln (nI 0)).length = (pq 0).length := by rw [hQp 0 (by decide), List.length_map]
  have hl1 : (pendN F ln (nI 1)).length = (pq 1).length := by rw [hQp 1 (by decide), List.length_map]
  have hl2 : (pendN F ln (nI 2)).length = (pq 2).length := by rw [hQp 2 (by decide), List.length_map]
  refine lv_iconst (v := 0) hx hb d_M_reset_0 (by decide) ?_
  refine lv_istore_n (lv' := [(1, .int 0), (0, .ref (q 0))]) hx hb d_M_reset_1 rfl hl (by decide) rfl (fun ls hl => ?_)
  refine lv_iconst (v := 0) hx hb d_M_reset_2 (by decide) ?_
  refine lv_istore_n (lv' := [(2, .int 0), (1, .int 0), (0, .ref (q 0))]) hx hb d_M_reset_3 rfl hl (by decide) rfl (fun ls hl => ?_)
  refine lv_iload_n hx hb d_M_reset_4 rfl (lv_at hl 0 rfl) ?_
  refine lv_iconst (v := 3) hx hb d_M_reset_5 (by decide) ?_
  refine lv_icmp_ge (tgt := 23) hx hb d_M_reset_6 (by decide) (fun c_1 => absurd c_1 (by decide)) (fun c_1 => ?_)
  refine lv_iload_n hx hb d_M_reset_9 rfl (lv_at hl 1 rfl) ?_
  refine lv_aload_n hx hb d_M_reset_10 rfl (lv_at hl 2 rfl) ?_
  refine lv_iload_n hx hb d_M_reset_11 rfl (lv_at hl 0 rfl) ?_
  refine mx_ci (cV (As := [.int 0]) (rest := [.int 0]) G h (m_M_pending X hun hcm hcp (x := 0)) k_390 k_392 ks_13 k_7 k_393 hd_M_pending rfl rfl ⟨Nat.le_of_ble_eq_true rfl, Nat.le_of_ble_eq_true rfl⟩ X.1 rfl rfl hl.1 rfl (Nat.le_of_ble_eq_true rfl) d_M_reset_12 ⟨Nat.le_of_ble_eq_true rfl, Nat.le_of_ble_eq_true rfl⟩) h (fun r_3 w_2 H locs h hcp1 => ?_)
  obtain ⟨er_4, ew_5⟩ := hcp1
  subst er_4
  rw [ew_5] at h
  have et_6 : nI (pendN F ln 0).length = nI (pq 0).length := by rw [show (0 : Int32) = nI 0 from by decide, hl0]
  rw [et_6]
  refine lv_iadd hx hb d_M_reset_15 ?_
  refine lv_istore_n (lv' := [(1, .int (0 + (nI (pq 0).length))), (2, .int 0), (0, .ref (q 0))]) hx hb d_M_reset_16 rfl hl (by decide) rfl (fun ls hl => ?_)
  refine lv_iinc (v := 0 + 1) (lv' := [(2, .int (0 + 1)), (1, .int (0 + (nI (pq 0).length))), (0, .ref (q 0))]) hx hb d_M_reset_17 hl (k := 1) rfl rfl (by decide) rfl (fun ls hl => ?_)
  refine lv_goto (tgt := 4) hx hb d_M_reset_20 (by decide) ?_
  refine lv_iload_n hx hb d_M_reset_4 rfl (lv_at hl 0 rfl) ?_
  refine lv_iconst (v := 3) hx hb d_M_reset_5 (by decide) ?_
  refine lv_icmp_ge (tgt := 23) hx hb d_M_reset_6 (by decide) (fun c_7 => absurd c_7 (by decide)) (fun c_7 => ?_)
  refine lv_iload_n hx hb d_M_reset_9 rfl (lv_at hl 1 rfl) ?_
  refine lv_aload_n hx hb d_M_reset_10 rfl (lv_at hl 2 rfl) ?_
  refine lv_iload_n hx hb d_M_reset_11 rfl (lv_at hl 0 rfl) ?_
  refine mx_ci (cV (As := [.int (0 + 1)]) (rest := [.int (0 + (nI (pq 0).length))]) G h (m_M_pending X hun hcm hcp (x := 0 + 1)) k_390 k_392 ks_13 k_7 k_393 hd_M_pending rfl rfl ⟨Nat.le_of_ble_eq_true rfl, Nat.le_of_ble_eq_true rfl⟩ X.1 rfl rfl hl.1 rfl (Nat.le_of_ble_eq_true rfl) d_M_reset_12 ⟨Nat.le_of_ble_eq_true rfl, Nat.le_of_ble_eq_true rfl⟩) h (fun r_9 w_8 H locs h hcp1 => ?_)
  obtain ⟨er_10, ew_11⟩ := hcp1
  subst er_10
  rw [ew_11] at h
  have et_12 : nI (pendN F ln (0 + 1)).length = nI (pq 1).length := by rw [show (0 + 1 : Int32) = nI 1 from by decide, hl1]
  rw [et_12]
  refine lv_iadd hx hb d_M_reset_15 ?_
  refine lv_istore_n (lv' := [(1, .int ((0 + (nI (pq 0).length)) + (nI (pq 1).length))), (2, .int (0 + 1)), (0, .ref (q 0))]) hx hb d_M_reset_16 rfl hl (by decide) rfl (fun ls hl => ?_)
  refine lv_iinc (v := (0 + 1) + 1) (lv' := [(2, .int ((0 + 1) + 1)), (1, .int ((0 + (nI (pq 0).length)) + (nI (pq 1).length))), (0, .ref (q 0))]) hx hb d_M_reset_17 hl (k := 1) rfl rfl (by decide) rfl (fun ls hl => ?_)
  refine lv_goto (tgt := 4) hx hb d_M_reset_20 (by decide) ?_
  refine lv_iload_n hx hb d_M_reset_4 rfl (lv_at hl 0 rfl) ?_
  refine lv_iconst (v := 3) hx hb d_M_reset_5 (by decide) ?_
  refine lv_icmp_ge (tgt := 23) hx hb d_M_reset_6 (by decide) (fun c_13 => absurd c_13 (by decide)) (fun c_13 => ?_)
  refine lv_iload_n hx hb d_M_reset_9 rfl (lv_at hl 1 rfl) ?_
  refine lv_aload_n hx hb d_M_reset_10 rfl (lv_at hl 2 rfl) ?_
  refine lv_iload_n hx hb d_M_reset_11 rfl (lv_at hl 0 rfl) ?_
  refine mx_ci (cV (As := [.int ((0 + 1) + 1)]) (rest := [.int ((0 + (nI (pq 0).length)) + (nI (pq 1).length))]) G h (m_M_pending X hun hcm hcp (x := (0 + 1) + 1)) k_390 k_392 ks_13 k_7 k_393 hd_M_pending rfl rfl ⟨Nat.le_of_ble_eq_true rfl, Nat.le_of_ble_eq_true rfl⟩ X.1 rfl rfl hl.1 rfl (Nat.le_of_ble_eq_true rfl) d_M_reset_12 ⟨Nat.le_of_ble_eq_true rfl, Nat.le_of_ble_eq_true rfl⟩) h (fun r_15 w_14 H locs h hcp1 => ?_)
  obtain ⟨er_16, ew_17⟩ := hcp1
  subst er_16
  rw [ew_17] at h
  have et_18 : nI (pendN F ln ((0 + 1) + 1)).length = nI (pq 2).length := by rw [show ((0 + 1) + 1 : Int32) = nI 2 from by decide, hl2]
  rw [et_18]
  refine lv_iadd hx hb d_M_reset_15 ?_
  refine lv_istore_n (lv' := [(1, .int (((0 + (nI (pq 0).length)) + (nI (pq 1).length)) + (nI (pq 2).length))), (2, .int ((0 + 1) + 1)), (0, .ref (q 0))]) hx hb d_M_reset_16 rfl hl (by decide) rfl (fun ls hl => ?_)
  refine lv_iinc (v := ((0 + 1) + 1) + 1) (lv' := [(2, .int (((0 + 1) + 1) + 1)), (1, .int (((0 + (nI (pq 0).length)) + (nI (pq 1).length)) + (nI (pq 2).length))), (0, .ref (q 0))]) hx hb d_M_reset_17 hl (k := 1) rfl rfl (by decide) rfl (fun ls hl => ?_)
  refine lv_goto (tgt := 4) hx hb d_M_reset_20 (by decide) ?_
  refine lv_iload_n hx hb d_M_reset_4 rfl (lv_at hl 0 rfl) ?_
  refine lv_iconst (v := 3) hx hb d_M_reset_5 (by decide) ?_
  refine lv_icmp_ge (tgt := 23) hx hb d_M_reset_6 (by decide) (fun c_19 => ?_) (fun c_19 => absurd (by decide) c_19)
  refine lv_iconst (v := 1) hx hb d_M_reset_23 (by decide) ?_
  refine lv_istore_n (lv' := [(2, .int 1), (1, .int (((0 + (nI (pq 0).length)) + (nI (pq 1).length)) + (nI (pq 2).length))), (0, .ref (q 0))]) hx hb d_M_reset_24 rfl hl (by decide) rfl (fun ls hl => ?_)
  have et_20 : ((0 + (nI (pq 0).length)) + (nI (pq 1).length)) + (nI (pq 2).length) = nI ((pq 0).length + (pq 1).length + (pq 2).length) := by rw [← nI_add, ← nI_add]; simp
  rw [et_20] at hl
  have loop3 : ∀ (t9 k : Nat), k + t9 = cp → ∀ (v : mw), MX cA v ρ q lim un sn pw bd ln cp tn tr (va_up (va_up F 11 (fil (-1) (F 11) 1 (ln + 1))) 17 (fil (-1) (F 17) 0 k)) R → FR w v (P7 ρ) → ∀ (H : Heap) (locs : List Loc) (ls : Array Slot), mw_H n0 D cl s v H locs → lv_has ls 3 [(2, .int (nI k)), (1, .int (nI ((pq 0).length + (pq 1).length + (pq 2).length))), (0, .ref (q 0))] → W p l e (rmd 1) s m ([.ref (q 0)] : List Value).toArray below meth c H locs 0 0 (MQ below (mw_Qi n0 D cl (fun r w' => r = (resetS (fl, us, sn, pw, pq, cq, ln, tn, tr)).1 ∧ MR cA w' ρ q lim t (resetS (fl, us, sn, pw, pq, cq, ln, tn, tr)).2 ∧ FR w w' (P7 ρ))) ([.ref (q 0)] : List Value).toArray s 0 0 (mw_A n0)) (F0 m 48 ls []) := by
    intro t9
    induction t9 with
    | zero =>
      intro k hk v V1 hfr H locs ls h hl
      have hk : k = cp := hk
      refine lv_iload_n hx hb d_M_reset_48 rfl (lv_at hl 0 rfl) ?_
      refine lv_aload_n hx hb d_M_reset_49 rfl (lv_at hl 2 rfl) ?_
      refine mx_get G h V1.1 rfl 20 (by decide) (tb_in in_M) (tb_c k_332) rfl rfl d_M_reset_50 ?_
      refine lv_icmp_ge (tgt := 69) hx hb d_M_reset_53 (by decide) (fun c_21 => ?_) (fun c_21 => ?_)
      · refine lv_iload_n hx hb d_M_reset_69 rfl (lv_at hl 1 rfl) ?_
        have hQ9 : QN (va_up (va_up F 11 (fil (-1) (F 11) 1 (ln + 1))) 17 (fil (-1) (F 17) 0 k)) R ln cp (fun _ => []) (fun _ => []) := hQN.clr (fun c h1 h2 => by simp only [va_up]; simp [fil]; omega) (fun i hi => by simp only [va_up]; simp [fil]; omega) (fun c => by simp [cmdN, va_up])
        have hG9 : LG (va_up (va_up F 11 (fil (-1) (F 11) 1 (ln + 1))) 17 (fil (-1) (F 17) 0 k)) un sn fl us := hG.cong (fun i hi => by rcases (show i = 0 ∨ i = 1 ∨ i = 2 ∨ i = 3 ∨ i = 4 ∨ i = 5 ∨ i = 6 by omega) with rfl | rfl | rfl | rfl | rfl | rfl | rfl <;> simp [va_up])
        exact mx_reti G h hrt hlocks d_M_reset_70 (⟨rfl, ⟨un, cp, bd, _, R, ⟨V1, hG9⟩, hut, hct, hpt, hbd, hQ9⟩, hfr⟩)
      · exact absurd (by rw [hk]; exact Int32.le_refl _) c_21
    | succ t9 ih =>
      intro k hk v V1 hfr H locs ls h hl
      refine lv_iload_n hx hb d_M_reset_48 rfl (lv_at hl 0 rfl) ?_
      refine lv_aload_n hx hb d_M_reset_49 rfl (lv_at hl 2 rfl) ?_
      refine mx_get G h V1.1 rfl 20 (by decide) (tb_in in_M) (tb_c k_332) rfl rfl d_M_reset_50 ?_
      refine lv_icmp_ge (tgt := 69) hx hb d_M_reset_53 (by decide) (fun c_22 => ?_) (fun c_22 => ?_)
      · exact absurd ((nI_leI (by omega) (by omega)).mp c_22) (by omega)
      · refine lv_aload_n hx hb d_M_reset_56 rfl (lv_at hl 2 rfl) ?_
        refine mx_get G h V1.1 rfl 17 (by decide) (tb_in in_M) (tb_c k_329) rfl rfl d_M_reset_57 ?_
        refine lv_iload_n hx hb d_M_reset_60 rfl (lv_at hl 0 rfl) ?_
        refine lv_iconst (v := (-1)) hx hb d_M_reset_61 (by decide) ?_
        refine ax_si G h (V1.2.1 17 (by decide)) k rfl (by omega) (by decide) d_M_reset_62 (fun H locs h => ?_)
        have h : mw_H n0 D cl s (mw_up v (q 17) (.inl (cA 0, 520, .inl (upd (fil (-1) (F 17) 0 k) k (-1))))) H locs := h
        obtain ⟨w_23, ew_23⟩ : ∃ xx : mw, mw_up v (q 17) (.inl (cA 0, 520, .inl (upd (fil (-1) (F 17) 0 k) k (-1)))) = xx := ⟨_, rfl⟩
        rw [ew_23] at h
        have f_24 : w_23 (q 17) = some (.inl (cA 0, 520, .inl (upd (fil (-1) (F 17) 0 k) k (-1)))) := by rw [← ew_23]; exact mw_self
        have V2 : MX cA w_23 ρ q lim un sn pw bd ln cp tn tr (va_up (va_up F 11 (fil (-1) (F 11) 1 (ln + 1))) 17 (fil (-1) (F 17) 0 (k + 1))) R := by
          have z := V1.putI 17 (by decide) (upd (fil (-1) (F 17) 0 k) k (-1))
          rw [ew_23, va_uu, fil_s (Nat.zero_le _)] at z
          exact z
        have hfr2 : FR w w_23 (P7 ρ) := hfr.tr (by rw [← ew_23]; exact FQ (X.2.2.2.2.2.2.1 17 (by decide)))
        refine lv_iinc (v := (nI k) + 1) (lv' := [(2, .int ((nI k) + 1)), (1, .int (nI ((pq 0).length + (pq 1).length + (pq 2).length))), (0, .ref (q 0))]) hx hb d_M_reset_63 hl (k := 0) rfl rfl (by decide) rfl (fun ls hl => ?_)
        refine lv_goto (tgt := 48) hx hb d_M_reset_66 (by decide) ?_
        rw [nI_1] at hl
        exact ih (k + 1) (by omega) _ V2 hfr2 H locs ls h (lv_sub hl [0, 1, 2] rfl)
  have loop2 : ∀ (t9 k : Nat), k + t9 = ln → ∀ (v : mw), MX cA v ρ q lim un sn pw bd ln cp tn tr (va_up F 11 (fil (-1) (F 11) 1 (k + 1))) R → FR w v (P7 ρ) → ∀ (H : Heap) (locs : List Loc) (ls : Array Slot), mw_H n0 D cl s v H locs → lv_has ls 3 [(2, .int (nI (k + 1))), (1, .int (nI ((pq 0).length + (pq 1).length + (pq 2).length))), (0, .ref (q 0))] → W p l e (rmd 1) s m ([.ref (q 0)] : List Value).toArray below meth c H locs 0 0 (MQ below (mw_Qi n0 D cl (fun r w' => r = (resetS (fl, us, sn, pw, pq, cq, ln, tn, tr)).1 ∧ MR cA w' ρ q lim t (resetS (fl, us, sn, pw, pq, cq, ln, tn, tr)).2 ∧ FR w w' (P7 ρ))) ([.ref (q 0)] : List Value).toArray s 0 0 (mw_A n0)) (F0 m 25 ls []) := by
    intro t9
    induction t9 with
    | zero =>
      intro k hk v V1 hfr H locs ls h hl
      have hk : k = ln := hk
      refine lv_iload_n hx hb d_M_reset_25 rfl (lv_at hl 0 rfl) ?_
      refine lv_aload_n hx hb d_M_reset_26 rfl (lv_at hl 2 rfl) ?_
      refine mx_get G h V1.1 rfl 16 (by decide) (tb_in in_M) (tb_c k_328) rfl rfl d_M_reset_27 ?_
      refine lv_icmp_gt (tgt := 46) hx hb d_M_reset_30 (by decide) (fun c_25 => ?_) (fun c_25 => ?_)
      · refine lv_iconst (v := 0) hx hb d_M_reset_46 (by decide) ?_
        refine lv_istore_n (lv' := [(2, .int 0), (1, .int (nI ((pq 0).length + (pq 1).length + (pq 2).length))), (0, .ref (q 0))]) hx hb d_M_reset_47 rfl hl (by decide) rfl (fun ls hl => ?_)
        subst hk
        exact loop3 cp 0 (by omega) v (by rw [fil_0, va_id (by simp [va_up])]; exact V1) hfr H locs ls h (lv_sub hl [0, 1, 2] rfl)
      · exact absurd ((nI_ltI (by omega) (by omega)).mpr (by omega)) c_25
    | succ t9 ih =>
      intro k hk v V1 hfr H locs ls h hl
      refine lv_iload_n hx hb d_M_reset_25 rfl (lv_at hl 0 rfl) ?_
      refine lv_aload_n hx hb d_M_reset_26 rfl (lv_at hl 2 rfl) ?_
      refine mx_get G h V1.1 rfl 16 (by decide) (tb_in in_M) (tb_c k_328) rfl rfl d_M_reset_27 ?_
      refine lv_icmp_gt (tgt := 46) hx hb d_M_reset_30 (by decide) (fun c_26 => ?_) (fun c_26 => ?_)
      · exact absurd ((nI_ltI (by omega) (by omega)).mp c_26) (by omega)
      · refine lv_aload_n hx hb d_M_reset_33 rfl (lv_at hl 2 rfl) ?_
        refine mx_get G h V1.1 rfl 11 (by decide) (tb_in in_M) (tb_c k_323) rfl rfl d_M_reset_34 ?_
        refine lv_iload_n hx hb d_M_reset_37 rfl (lv_at hl 0 rfl) ?_
        refine lv_iconst (v := (-1)) hx hb d_M_reset_38 (by decide) ?_
        refine ax_si G h (V1.2.1 11 (by decide)) (k + 1) rfl (by omega) (by decide) d_M_reset_39 (fun H locs h => ?_)
        have h : mw_H n0 D cl s (mw_up v (q 11) (.inl (cA 0, 520, .inl (upd (fil (-1) (F 11) 1 (k + 1)) (k + 1) (-1))))) H locs := h
        obtain ⟨w_27, ew_27⟩ : ∃ xx : mw, mw_up v (q 11) (.inl (cA 0, 520, .inl (upd (fil (-1) (F 11) 1 (k + 1)) (k + 1) (-1)))) = xx := ⟨_, rfl⟩
        rw [ew_27] at h
        have f_28 : w_27 (q 11) = some (.inl (cA 0, 520, .inl (upd (fil (-1) (F 11) 1 (k + 1)) (k + 1) (-1)))) := by rw [← ew_27]; exact mw_self
        have V2 : MX cA w_27 ρ q lim un sn pw bd ln cp tn tr (va_up F 11 (fil (-1) (F 11) 1 (k + 1 + 1))) R := by
          have z := V1.putI 11 (by decide) (upd (fil (-1) (F 11) 1 (k + 1)) (k + 1) (-1))
          rw [ew_27, va_uu, fil_s (by omega)] at z
          exact z
        have hfr2 : FR w w_27 (P7 ρ) := hfr.tr (by rw [← ew_27]; exact FQ (X.2.2.2.2.2.2.1 11 (by decide)))
        refine lv_iinc (v := (nI (k + 1)) + 1) (lv' := [(2, .int ((nI (k + 1)) + 1)), (1, .int (nI ((pq 0).length + (pq 1).length + (pq 2).length))), (0, .ref (q 0))]) hx hb d_M_reset_40 hl (k := 0) rfl rfl (by decide) rfl (fun ls hl => ?_)
        refine lv_goto (tgt := 25) hx hb d_M_reset_43 (by decide) ?_
        rw [nI_1] at hl
        exact ih (k + 1) (by omega) _ V2 hfr2 H locs ls h (lv_sub hl [0, 1, 2] rfl)
  exact loop2 ln 0 (by omega) w (by rw [fil_0, va_id rfl]; exact X) FR.rf H locs ls h (lv_sub hl [0, 1, 2] rfl)
set_option maxHeartbeats 4000000 in
set_option maxRecDepth 100000 in
theorem m_M_power {l : Launch} {D : va_G} {cA : Nat → ClassId} {n0 : Nat} {w : mw} {ρ q : Nat → Nat} {lim t : Nat} {fl : Nat → Int64} {us : List uU} {sn pw : Nat} {pq : Nat → List pC} {cq : Nat → List (Int32 × Int64)} {ln : Nat} {tn : Int32} {tr : Int64} (Y : MR cA w ρ q lim t (fl, us, sn, pw, pq, cq, ln, tn, tr)) (ht : t ≤ 512) :
    Mi l D cA n0 y_M_power c_M_power (rmd 2) [.ref (q 0)] w (fun r w' => r = (powerS (fl, us, sn, pw, pq, cq, ln, tn, tr)).1 ∧ MR cA w' ρ q lim t (powerS (fl, us, sn, pw, pq, cq, ln, tn, tr)).2 ∧ FR w w' (P7 ρ)) := by
  refine mw_met (cc := b_M_power) (maxL := 3) (ret := (some .int)) (by decide) rfl (Nat.le_of_ble_eq_true rfl) ?_
  intro p e s m below meth c ls G hrt hlocks hname h hl
  have G : mw_G p m c b_M_power 3 s _ (c_M_power :: TB) R_M D cl (tys cA) n0 := G
  have hx := G.1.1
  have hb := G.1.2.1
  have hl : lv_has ls 3 [(0, .ref (q 0))] := hl
  obtain ⟨un, cp, bd, F, R, V, hut, hct, hpt, hbd, hQN⟩ := id Y
  have V : MC cA w ρ q lim un ln cp tn tr F R (fl, us, sn, pw, bd) := V
  have hct : ln ≤ t := hct
  have hQN : QN F R ln cp pq cq := hQN
  obtain ⟨X, hG⟩ := id V
  have X : MX cA w ρ q lim un sn pw bd ln cp tn tr F R := X
  have hG : LG F un sn fl us := hG
  obtain ⟨hQp, hQc, hQl, hQv⟩ := id hQN
  have hun : un ≤ 512 := by omega
  have hcm : ln ≤ 512 := by omega
  have hcp : cp ≤ 512 := by omega
  have hlen : (liveN F un).length = us.length := by rw [hG.1, List.length_map]
  refine lv_aload_n hx hb d_M_power_0 rfl (lv_at hl 0 rfl) ?_
  refine mx_ci (cV (As := []) (rest := []) G h (m_M_inCache X hun hcm hcp) k_434 k_436 ks_23 k_7 k_437 hd_M_inCache rfl rfl ⟨Nat.le_of_ble_eq_true rfl, Nat.le_of_ble_eq_true rfl⟩ X.1 rfl rfl hl.1 rfl (Nat.le_of_ble_eq_true rfl) d_M_power_1 ⟨Nat.le_of_ble_eq_true rfl, Nat.le_of_ble_eq_true rfl⟩) h (fun r_2 w_1 H locs h hcp1 => ?_)
  obtain ⟨er_3, ew_4⟩ := hcp1
  subst er_3
  rw [ew_4] at h
  have et_5 : nI (liveN F un).length = nI us.length := by rw [hlen]
  rw [et_5]
  refine lv_istore_n (lv' := [(1, .int (nI us.length)), (0, .ref (q 0))]) hx hb d_M_power_4 rfl hl (by decide) rfl (fun ls hl => ?_)
  refine lv_iconst (v := 0) hx hb d_M_power_5 (by decide) ?_
  refine lv_istore_n (lv' := [(2, .int 0), (1, .int (nI us.length)), (0, .ref (q 0))]) hx hb d_M_power_6 rfl hl (by decide) rfl (fun ls hl => ?_)
  have loop : ∀ (t9 k : Nat), k + t9 = un → ∀ (v : mw), MX cA v ρ q lim un sn pw bd ln cp tn tr (va_up F 6 (fil 0 (F 6) 0 k)) R → FR w v (P7 ρ) → ∀ (H : Heap) (locs : List Loc) (ls : Array Slot), mw_H n0 D cl s v H locs → lv_has ls 3 [(2, .int (nI k)), (1, .int (nI us.length)), (0, .ref (q 0))] → W p l e (rmd 2) s m ([.ref (q 0)] : List Value).toArray below meth c H locs 0 0 (MQ below (mw_Qi n0 D cl (fun r w' => r = (powerS (fl, us, sn, pw, pq, cq, ln, tn, tr)).1 ∧ MR cA w' ρ q lim t (powerS (fl, us, sn, pw, pq, cq, ln, tn, tr)).2 ∧ FR w w' (P7 ρ))) ([.ref (q 0)] : List Value).toArray s 0 0 (mw_A n0)) (F0 m 7 ls []) := by
    intro t9
    induction t9 with
    | zero =>
      intro k hk v V1 hfr H locs ls h hl
      have hk : k = un := hk
      refine lv_iload_n hx hb d_M_power_7 rfl (lv_at hl 0 rfl) ?_
      refine lv_aload_n hx hb d_M_power_8 rfl (lv_at hl 2 rfl) ?_
      refine mx_get G h V1.1 rfl 7 (by decide) (tb_in in_M) (tb_c k_319) rfl rfl d_M_power_9 ?_
      refine lv_icmp_ge (tgt := 28) hx hb d_M_power_12 (by decide) (fun c_6 => ?_) (fun c_6 => ?_)
      · subst hk
        have Y1 : MR cA v ρ q lim t (fl, [], sn, pw, pq, cq, ln, tn, tr) := ⟨k, cp, bd, _, R, ⟨V1, hG.clr⟩, hut, hct, hpt, hbd, hQN.sf SF.rf.up6⟩
        refine lv_aload_n hx hb d_M_power_28 rfl (lv_at hl 2 rfl) ?_
        refine mx_ci (cV (As := []) (rest := []) G h (m_M_reset Y1 ht) k_470 k_463 k_464 k_7 k_465 hd_M_reset rfl rfl ⟨Nat.le_of_ble_eq_true rfl, Nat.le_of_ble_eq_true rfl⟩ V1.1 rfl rfl hl.1 rfl (Nat.le_of_ble_eq_true rfl) d_M_power_29 ⟨Nat.le_of_ble_eq_true rfl, Nat.le_of_ble_eq_true rfl⟩) h (fun r_8 w_7 H locs h hcp1 => ?_)
        obtain ⟨er, Y2, hf2⟩ := hcp1
        refine lv_istore_n (lv' := [(2, .int r_8), (1, .int (nI us.length)), (0, .ref (q 0))]) hx hb d_M_power_32 rfl hl (by decide) rfl (fun ls hl => ?_)
        refine lv_iload_n hx hb d_M_power_33 rfl (lv_at hl 1 rfl) ?_
        exact mx_reti G h hrt hlocks d_M_power_34 (⟨rfl, Y2, hfr.tr hf2⟩)
      · exact absurd (by rw [hk]; exact Int32.le_refl _) c_6
    | succ t9 ih =>
      intro k hk v V1 hfr H locs ls h hl
      refine lv_iload_n hx hb d_M_power_7 rfl (lv_at hl 0 rfl) ?_
      refine lv_aload_n hx hb d_M_power_8 rfl (lv_at hl 2 rfl) ?_
      refine mx_get G h V1.1 rfl 7 (by decide) (tb_in in_M) (tb_c k_319) rfl rfl d_M_power_9 ?_
      refine lv_icmp_ge (tgt := 28) hx hb d_M_power_12 (by decide) (fun c_9 => ?_) (fun c_9 => ?_)
      · exact absurd ((nI_leI (by omega) (by omega)).mp c_9) (by omega)
      · refine lv_aload_n hx hb d_M_power_15 rfl (lv_at hl 2 rfl) ?_
        refine mx_get G h V1.1 rfl 6 (by decide) (tb_in in_M) (tb_c k_318) rfl rfl d_M_power_16 ?_
        refine lv_iload_n hx hb d_M_power_19 rfl (lv_at hl 0 rfl) ?_
        refine lv_iconst (v := 0) hx hb d_M_power_20 (by decide) ?_
        refine ax_sz G h (V1.2.2.1 6 (by decide)) k rfl (by omega) (by decide) (by decide) d_M_power_21 (fun H locs h => ?_)
        have h : mw_H n0 D cl s (mw_up v (q 6) (.inl (cA 2, 520, .inl (upd (fil 0 (F 6) 0 k) k 0)))) H locs := h
        obtain ⟨w_10, ew_10⟩ : ∃ xx : mw, mw_up v (q 6) (.inl (cA 2, 520, .inl (upd (fil 0 (F 6) 0 k) k 0))) = xx := ⟨_, rfl⟩
        rw [ew_10] at h
        have f_11 : w_10 (q 6) = some (.inl (cA 2, 520, .inl (upd (fil 0 (F 6) 0 k) k 0))) := by rw [← ew_10]; exact mw_self
        have V2 : MX cA w_10 ρ q lim un sn pw bd ln cp tn tr (va_up F 6 (fil 0 (F 6) 0 (k + 1))) R := by
          have z := V1.putZ 6 (by decide) (upd (fil 0 (F 6) 0 k) k 0)
          rw [ew_10, va_uu, fil_s (Nat.zero_le _)] at z
          exact z
        have hfr2 : FR w w_10 (P7 ρ) := hfr.tr (by rw [← ew_10]; exact FQ (X.2.2.2.2.2.2.1 6 (by decide)))
        refine lv_iinc (v := (nI k) + 1) (lv' := [(2, .int ((nI k) + 1)), (1, .int (nI us.length)), (0, .ref (q 0))]) hx hb d_M_power_22 hl (k := 0) rfl rfl (by decide) rfl (fun ls hl => ?_)
        refine lv_goto (tgt := 7) hx hb d_M_power_25 (by decide) ?_
        rw [nI_1] at hl
        exact ih (k + 1) (by omega) _ V2 hfr2 H locs ls h (lv_sub hl [0, 1, 2] rfl)
  exact loop un 0 (by omega) w (by rw [fil_0, va_id rfl]; exact X) FR.rf H locs ls h (lv_sub hl [0, 1, 2] rfl)
set_option maxHeartbeats 4000000 in
set_option maxRecDepth 100000 in
theorem m_M_powerDuring {l : Launch} {D : va_G} {cA : Nat → ClassId} {n0 : Nat} {w : mw} {ρ q : Nat → Nat} {lim t : Nat} {fl : Nat → Int64} {us : List uU} {sn pw : Nat} {pq : Nat → List pC} {cq : Nat → List (Int32 × Int64)} {ln : Nat} {tn : Int32} {tr : Int64} (Y : MR cA w ρ q lim t (fl, us, sn, pw, pq, cq, ln, tn, tr)) (ht : t + 1 ≤ 512) (hlim : lim ≤ 6) {qu x y : Int32} :
    Mi l D cA n0 y_M_powerDuring c_M_powerDuring (rmd 5) [.ref (q 0), .int qu, .int x, .int y] w (fun r w' => r = (pdurS lim (fl, us, sn, pw, pq, cq, ln, tn, tr) qu x y).1 ∧ MR cA w' ρ q lim (t + 1) (pdurS lim (fl, us, sn, pw, pq, cq, ln, tn, tr) qu x y).2 ∧ FR w w' (P7 ρ)) := by
  refine mw_met (cc := b_M_powerDuring) (maxL := 8) (ret := (some .int)) (by decide) rfl (Nat.le_of_ble_eq_true rfl) ?_
  intro p e s m below meth c ls G hrt hlocks hname h hl
  have G : mw_G p m c b_M_powerDuring 8 s _ (c_M_powerDuring :: TB) R_M D cl (tys cA) n0 := G
  have hx := G.1.1
  have hb := G.1.2.1
  have hl : lv_has ls 8 [(0, .ref (q 0)), (1, .int qu), (2, .int x), (3, .int y)] := hl
  obtain ⟨un, cp, bd, F, R, V, hut, hct, hpt, hbd, hQN⟩ := id Y
  have V : MC cA w ρ q lim un ln cp tn tr F R (fl, us, sn, pw, bd) := V
  have hct : ln ≤ t := hct
  have hQN : QN F R ln cp pq cq := hQN
  obtain ⟨X, hG⟩ := id V
  have X : MX cA w ρ q lim un sn pw bd ln cp tn tr F R := X
  have hG : LG F un sn fl us := hG
  obtain ⟨hQp, hQc, hQl, hQv⟩ := id hQN
  have hun : un ≤ 512 := by omega
  have hcm : ln ≤ 512 := by omega
  have hcp : cp ≤ 512 := by omega
  refine lv_iload_n hx hb d_M_powerDuring_0 rfl (lv_at hl 1 rfl) ?_
  refine lv_iconst (v := 3) hx hb d_M_powerDuring_1 (by decide) ?_
  refine mx_ci (cS (As := [.int qu, .int 3]) (rest := []) G h (m_M_in (x := qu) (n := 3)) k_387 k_388 k_7 k_389 rfl hd_M_in rfl rfl ⟨Nat.le_of_ble_eq_true rfl, Nat.le_of_ble_eq_true rfl⟩ rfl hl.1 rfl (Nat.le_of_ble_eq_true rfl) d_M_powerDuring_2 ⟨Nat.le_of_ble_eq_true rfl, Nat.le_of_ble_eq_true rfl⟩) h (fun r_2 w_1 H locs h hcp1 => ?_)
  obtain ⟨er_3, ew_4⟩ := hcp1
  subst er_3
  rw [ew_4] at h
  refine lv_if_eq (tgt := 34) hx hb d_M_powerDuring_5 (by decide) (fun c_5 => ?_) (fun c_5 => ?_)
  · refine lv_iconst (v := (-1)) hx hb d_M_powerDuring_34 (by decide) ?_
    have e8 : refS pq cq qu x = -1 := by rw [refS, if_neg (fun z => bI_0 c_5 z.1)]
    have e9 : pdurS lim (fl, us, sn, pw, pq, cq, ln, tn, tr) qu x y = (-1, (fl, us, sn, pw, pq, cq, ln, tn, tr)) := pdur_1 e8
    exact mx_reti G h hrt hlocks d_M_powerDuring_35 (by rw [e9]; exact ⟨rfl, ⟨un, cp, bd, F, R, V, by omega, Nat.le_succ_of_le hct, by omega, hbd, hQN⟩, FR.rf⟩)
  · have hi3 := bI_n c_5
    obtain ⟨j, hj, hqj⟩ := ixQ 3 rfl (by decide) hi3.1 hi3.2
    have hqc : qu.toNatClampNeg = j := by rw [hqj]; exact nI_c (by omega)
    have hplen : (pendN F ln qu).length = (pq j).length := by rw [hqj, hQp j hj, List.length_map]
    have hclen : (doneN F cp qu).length = (cq j).length := by rw [hqj, hQc j hj, List.length_map]
    have hp4 := (hQl j hj).1
    have hc4 := (hQl j hj).2
    refine lv_iload_n hx hb d_M_powerDuring_8 rfl (lv_at hl 2 rfl) ?_
    refine lv_iconst (v := 4) hx hb d_M_powerDuring_9 (by decide) ?_
    refine mx_ci (cS (As := [.int x, .int 4]) (rest := []) G h (m_M_in (x := x) (n := 4)) k_387 k_388 k_7 k_389 rfl hd_M_in rfl rfl ⟨Nat.le_of_ble_eq_true rfl, Nat.le_of_ble_eq_true rfl⟩ rfl hl.1 rfl (Nat.le_of_ble_eq_true rfl) d_M_powerDuring_10 ⟨Nat.le_of_ble_eq_true rfl, Nat.le_of_ble_eq_true rfl⟩) h (fun r_7 w_6 H locs h hcp1 => ?_)
    obtain ⟨er_8, ew_9⟩ := hcp1
    subst er_8
    rw [ew_9] at h
    refine lv_if_eq (tgt := 34) hx hb d_M_powerDuring_13 (by decide) (fun c_10 => ?_) (fun c_10 => ?_)
    · refine lv_iconst (v := (-1)) hx hb d_M_powerDuring_34 (by decide) ?_
      have e8 : refS pq cq qu x = -1 := by rw [refS, if_neg (fun z => bI_0 c_10 ⟨z.2.1, Int32.lt_of_lt_of_le z.2.2 (by rw [hqc]; exact nI_le (b := 4) hp4 (by decide))⟩)]
      have e9 : pdurS lim (fl, us, sn, pw, pq, cq, ln, tn, tr) qu x y = (-1, (fl, us, sn, pw, pq, cq, ln, tn, tr)) := pdur_1 e8
      exact mx_reti G h hrt hlocks d_M_powerDuring_35 (by rw [e9]; exact ⟨rfl, ⟨un, cp, bd, F, R, V, by omega, Nat.le_succ_of_le hct, by omega, hbd, hQN⟩, FR.rf⟩)
    · obtain ⟨i, hi4, hxi⟩ := ixQ 4 rfl (by decide) (bI_n c_10).1 (bI_n c_10).2
      have hxc : x.toNatClampNeg = i := by rw [hxi]; exact nI_c (by omega)
      refine lv_iload_n hx hb d_M_powerDuring_16 rfl (lv_at hl 3 rfl) ?_
      refine lv_bipush (v := 31) hx hb d_M_powerDuring_17 (by decide) ?_
      refine mx_ci (cS (As := [.int y, .int 31]) (rest := []) G h (m_M_in (x := y) (n := 31)) k_387 k_388 k_7 k_389 rfl hd_M_in rfl rfl ⟨Nat.le_of_ble_eq_true rfl, Nat.le_of_ble_eq_true rfl⟩ rfl hl.1 rfl (Nat.le_of_ble_eq_true rfl) d_M_powerDuring_19 ⟨Nat.le_of_ble_eq_true rfl, Nat.le_of_ble_eq_true rfl⟩) h (fun r_12 w_11 H locs h hcp1 => ?_)
      obtain ⟨er_13, ew_14⟩ := hcp1
      subst er_13
      rw [ew_14] at h
      refine lv_if_eq (tgt := 34) hx hb d_M_powerDuring_22 (by decide) (fun c_15 => ?_) (fun c_15 => ?_)
      · refine lv_iconst (v := (-1)) hx hb d_M_powerDuring_34 (by decide) ?_
        have e9 : pdurS lim (fl, us, sn, pw, pq, cq, ln, tn, tr) qu x y = (-1, (fl, us, sn, pw, pq, cq, ln, tn, tr)) := by simp only [pdurS]; rw [if_neg (fun z => bI_0 c_15 ⟨z.1, lt31.mpr z.2⟩)]
        exact mx_reti G h hrt hlocks d_M_powerDuring_35 (by rw [e9]; exact ⟨rfl, ⟨un, cp, bd, F, R, V, by omega, Nat.le_succ_of_le hct, by omega, hbd, hQN⟩, FR.rf⟩)
      · have hy0 : 0 ≤ y ∧ y ≤ 30 := ⟨(bI_n c_15).1, lt31.mp (bI_n c_15).2⟩
        obtain ⟨pgs, hpgs, hyp⟩ := ixL 30 rfl (by decide) hy0.1 hy0.2
        have hyc : y.toNatClampNeg = pgs := by rw [hyp]; exact nI_c (by omega)
        refine lv_aload_n hx hb d_M_powerDuring_25 rfl (lv_at hl 0 rfl) ?_
        refine lv_iload_n hx hb d_M_powerDuring_26 rfl (lv_at hl 1 rfl) ?_
        refine lv_iload_n hx hb d_M_powerDuring_27 rfl (lv_at hl 2 rfl) ?_
        refine mx_ci (cV (As := [.int qu, .int x]) (rest := []) G h (m_M_picked X hun hcm hcp (x := qu) (y := x) hxi (by omega)) k_398 k_400 ks_14 k_7 k_401 hd_M_picked rfl rfl ⟨Nat.le_of_ble_eq_true rfl, Nat.le_of_ble_eq_true rfl⟩ X.1 rfl rfl hl.1 rfl (Nat.le_of_ble_eq_true rfl) d_M_powerDuring_28 ⟨Nat.le_of_ble_eq_true rfl, Nat.le_of_ble_eq_true rfl⟩) h (fun r_17 w_16 H locs h hcp1 => ?_)
        obtain ⟨er_18, ew_19⟩ := hcp1
        subst er_18
        rw [ew_19] at h
        cases hpk : (pendN F ln qu)[i]? with
        | none =>
          have hil : (pq j).length ≤ i := by rw [← hplen]; exact List.getElem?_eq_none_iff.mp hpk
          refine lv_if_ne (tgt := 36) hx hb d_M_powerDuring_31 (by decide) (fun c_20 => ?_) (fun c_20 => ?_)
          · exact absurd rfl c_20
          · refine lv_iconst (v := (-1)) hx hb d_M_powerDuring_34 (by decide) ?_
            have e8 : refS pq cq qu x = -1 := by rw [refS, if_neg (fun z => absurd z.2.2 (by rw [hqc, hxi, nI_ltI (by omega) (by omega)]; omega))]
            have e9 : pdurS lim (fl, us, sn, pw, pq, cq, ln, tn, tr) qu x y = (-1, (fl, us, sn, pw, pq, cq, ln, tn, tr)) := pdur_1 e8
            exact mx_reti G h hrt hlocks d_M_powerDuring_35 (by rw [e9]; exact ⟨rfl, ⟨un, cp, bd, F, R, V, by omega, Nat.le_succ_of_le hct, by omega, hbd, hQN⟩, FR.rf⟩)
        | some ci =>
          have hcm2 := pendN_mem.mp (List.mem_of_getElem? hpk)
          have hil : i < (pq j).length := by rw [← hplen]; exact lt_of_get hpk
          have hcond : (0 ≤ qu ∧ qu < 3) ∧ 0 ≤ x ∧ x < nI (pq qu.toNatClampNeg).length := ⟨hi3, (bI_n c_10).1, by rw [hqc, hxi]; exact nI_lt hil (by omega)⟩
          refine lv_if_ne (tgt := 36) hx hb d_M_powerDuring_31 (by decide) (fun c_21 => ?_) (fun c_21 => ?_)
          · refine lv_aload_n hx hb d_M_powerDuring_36 rfl (lv_at hl 0 rfl) ?_
            refine lv_iload_n hx hb d_M_powerDuring_37 rfl (lv_at hl 1 rfl) ?_
            refine mx_ci (cV (As := [.int qu]) (rest := []) G h (m_M_done X hun hcm hcp (x := qu)) k_402 k_404 ks_15 k_7 k_405 hd_M_done rfl rfl ⟨Nat.le_of_ble_eq_true rfl, Nat.le_of_ble_eq_true rfl⟩ X.1 rfl rfl hl.1 rfl (Nat.le_of_ble_eq_true rfl) d_M_powerDuring_38 ⟨Nat.le_of_ble_eq_true rfl, Nat.le_of_ble_eq_true rfl⟩) h (fun r_23 w_22 H locs h hcp1 => ?_)
            obtain ⟨er_24, ew_25⟩ := hcp1
            subst er_24
            rw [ew_25] at h
            have et_26 : nI (doneN F cp qu).length = nI (cq j).length := by rw [hclen]
            rw [et_26]
            refine lv_iconst (v := 4) hx hb d_M_powerDuring_41 (by decide) ?_
            refine lv_icmp_ne (tgt := 48) hx hb d_M_powerDuring_42 (by decide) (fun c_27 => ?_) (fun c_27 => ?_)
            · have hlt : (cq j).length < 4 := by
                rcases Nat.lt_or_ge (cq j).length 4 with z | z
                · exact z
                · exact absurd (by rw [show (cq j).length = 4 by omega]; rfl) c_27
              have e8 : refS pq cq qu x = 0 := by rw [refS, if_pos hcond, hqc, if_neg (by omega)]
              refine lv_aload_n hx hb d_M_powerDuring_48 rfl (lv_at hl 0 rfl) ?_
              refine mx_get G h X.1 rfl 9 (by decide) (tb_in in_M) (tb_c k_321) rfl rfl d_M_powerDuring_49 ?_
              refine lv_istore (lv' := [(4, .int (nI pw)), (0, .ref (q 0)), (1, .int qu), (2, .int x), (3, .int y)]) hx hb d_M_powerDuring_52 hl (by decide) rfl (fun ls hl => ?_)
              refine lv_aload_n hx hb d_M_powerDuring_54 rfl (lv_at hl 1 rfl) ?_
              refine lv_iload_n hx hb d_M_powerDuring_55 rfl (lv_at hl 4 rfl) ?_
              refine mx_put G h X.1 rfl 10 (by decide) (tb_in in_M) t_M t_M_ok n_M (tb_c k_322) rfl rfl rfl rfl rfl (Nat.le_of_ble_eq_true rfl) d_M_powerDuring_56 (fun H locs h => ?_)
              have h : mw_H n0 D cl s (mw_up w (q 0) (.inr (5, [.int (nI lim), .ref (q 1), .ref (q 2), .ref (q 3), .ref (q 4), .ref (q 5), .ref (q 6), .int (nI un), .int (nI sn), .int (nI pw), .int y, .ref (q 11), .ref (q 12), .ref (q 13), .ref (q 14), .ref (q 15), .int (nI ln), .ref (q 17), .ref (q 18), .ref (q 19), .int (nI cp), .int tn, .long tr]))) H locs := h
              obtain ⟨w_28, ew_28⟩ : ∃ xx : mw, mw_up w (q 0) (.inr (5, [.int (nI lim), .ref (q 1), .ref (q 2), .ref (q 3), .ref (q 4), .ref (q 5), .ref (q 6), .int (nI un), .int (nI sn), .int (nI pw), .int y, .ref (q 11), .ref (q 12), .ref (q 13), .ref (q 14), .ref (q 15), .int (nI ln), .ref (q 17), .ref (q 18), .ref (q 19), .int (nI cp), .int tn, .long tr])) = xx := ⟨_, rfl⟩
              rw [ew_28] at h
              have f_29 : w_28 (q 0) = some (.inr (5, [.int (nI lim), .ref (q 1), .ref (q 2), .ref (q 3), .ref (q 4), .ref (q 5), .ref (q 6), .int (nI un), .int (nI sn), .int (nI pw), .int y, .ref (q 11), .ref (q 12), .ref (q 13), .ref (q 14), .ref (q 15), .int (nI ln), .ref (q 17), .ref (q 18), .ref (q 19), .int (nI cp), .int tn, .long tr])) := by rw [← ew_28]; exact mw_self
              have X0 : MX cA w_28 ρ q lim un sn pw pgs ln cp tn tr F R := by subst hyp; rw [← ew_28]; exact X.put0 un sn pw pgs ln cp tn tr
              have hfr0 : FR w w_28 (P7 ρ) := by rw [← ew_28]; exact FQ X.2.2.2.2.2.1
              have V0 : MC cA w_28 ρ q lim un ln cp tn tr F R (fl, us, sn, pw, pgs) := ⟨X0, hG⟩
              obtain ⟨⟨kd, hkd, hkk⟩, hVd⟩ := hQv ci hcm2.1.1 hcm2.1.2
              have hkk : F 12 ci = nI kd := hkk
              have hVd : kd ≠ 3 → vU (uof (cmdN F ci)) := fun z => hVd.resolve_left (fun y => z (by have y2 := hkk.symm.trans y; exact (nI_eq (b := 3) (by omega) (by decide)).mp y2))
              refine lv_aload_n hx hb d_M_powerDuring_59 rfl (lv_at hl 1 rfl) ?_
              refine lv_aload_n hx hb d_M_powerDuring_60 rfl (lv_at hl 1 rfl) ?_
              refine lv_iload_n hx hb d_M_powerDuring_61 rfl (lv_at hl 2 rfl) ?_
              refine lv_iload_n hx hb d_M_powerDuring_62 rfl (lv_at hl 3 rfl) ?_
              refine mx_ci (cV (As := [.int qu, .int x]) (rest := [.ref (q 0)]) G h (m_M_picked X0 hun hcm hcp (x := qu) (y := x) hxi (by omega)) k_398 k_400 ks_14 k_7 k_401 hd_M_picked rfl rfl ⟨Nat.le_of_ble_eq_true rfl, Nat.le_of_ble_eq_true rfl⟩ X0.1 rfl rfl hl.1 rfl (Nat.le_of_ble_eq_true rfl) d_M_powerDuring_63 ⟨Nat.le_of_ble_eq_true rfl, Nat.le_of_ble_eq_true rfl⟩) h (fun r_31 w_30 H locs h hcp1 => ?_)
              obtain ⟨er_32, ew_33⟩ := hcp1
              subst er_32
              rw [ew_33] at h
              rw [hpk]
              refine mx_cl (cV (As := [.int (nI ci)]) (rest := []) G h (m_M_work V0 hcm hcp (by omega) (by omega) hlim (ci := ci) (by omega) hkk hkd hVd rfl) k_406 k_408 ks_16 k_7 k_409 hd_M_work rfl rfl ⟨Nat.le_of_ble_eq_true rfl, Nat.le_of_ble_eq_true rfl⟩ X0.1 rfl rfl hl.1 rfl (Nat.le_of_ble_eq_true rfl) d_M_powerDuring_66 ⟨Nat.le_of_ble_eq_true rfl, Nat.le_of_ble_eq_true rfl⟩) h (fun r_35 w_34 H locs h hcp1 => ?_)
              obtain ⟨er, F1, un1, hu1, V1, hsf, hf1⟩ := hcp1
              have hcns : (carA lim kd (uof (cmdN F ci)) (fl, us, sn, pw, pgs)).2.2.2.2.1 + (carA lim kd (uof (cmdN F ci)) (fl, us, sn, pw, pgs)).2.2.2.2.2 = pw + pgs := carA_cons
              have hpl9 : (carA lim kd (uof (cmdN F ci)) (fl, us, sn, pw, pgs)).2.2.2.2.2 ≤ pgs := carA_pl
              have Y1 : MR cA w_34 ρ q lim (t + 1) ((carA lim kd (uof (cmdN F ci)) (fl, us, sn, pw, pgs)).2.1, (carA lim kd (uof (cmdN F ci)) (fl, us, sn, pw, pgs)).2.2.1, (carA lim kd (uof (cmdN F ci)) (fl, us, sn, pw, pgs)).2.2.2.1, (carA lim kd (uof (cmdN F ci)) (fl, us, sn, pw, pgs)).2.2.2.2.1, pq, cq, ln, tn, tr) := ⟨un1, cp, _, F1, R, V1, by omega, Nat.le_succ_of_le hct, by omega, (by show (carA lim kd (uof (cmdN F ci)) (fl, us, sn, pw, pgs)).2.2.2.2.2 < 1000; omega), hQN.sf hsf⟩
              refine lv_lstore (lv' := [(5, .long r_35), (4, .int (nI pw)), (0, .ref (q 0)), (1, .int qu), (2, .int x), (3, .int y)]) hx hb d_M_powerDuring_69 hl (by decide) rfl (fun ls hl => ?_)
              refine lv_aload_n hx hb d_M_powerDuring_71 rfl (lv_at hl 2 rfl) ?_
              refine mx_ci (cV (As := []) (rest := []) G h (m_M_power Y1 ht) k_475 k_467 k_468 k_7 k_469 hd_M_power rfl rfl ⟨Nat.le_of_ble_eq_true rfl, Nat.le_of_ble_eq_true rfl⟩ V1.1.1 rfl rfl hl.1 rfl (Nat.le_of_ble_eq_true rfl) d_M_powerDuring_72 ⟨Nat.le_of_ble_eq_true rfl, Nat.le_of_ble_eq_true rfl⟩) h (fun r_37 w_36 H locs h hcp1 => ?_)
              obtain ⟨-, Y2, hf2⟩ := hcp1
              obtain ⟨un2, cp2, bd2, F2, R2, V2, hrest⟩ := id Y2
              refine lv_istore (lv' := [(7, .int r_37), (5, .long r_35), (4, .int (nI pw)), (0, .ref (q 0)), (1, .int qu), (2, .int x), (3, .int y)]) hx hb d_M_powerDuring_75 hl (by decide) rfl (fun ls hl => ?_)
              refine lv_aload_n hx hb d_M_powerDuring_77 rfl (lv_at hl 3 rfl) ?_
              refine mx_get G h V2.1.1 rfl 9 (by decide) (tb_in in_M) (tb_c k_321) rfl rfl d_M_powerDuring_78 ?_
              refine lv_iload hx hb d_M_powerDuring_81 (lv_at hl 2 rfl) ?_
              refine lv_isub hx hb d_M_powerDuring_83 ?_
              have hd9 : (pq j)[i]? = some (cmdN F ci) := by rw [hQp j hj, List.getElem?_map, ← hqj, hpk]; rfl
              have hkc : (cmdN F ci).2.1.toNatClampNeg = kd := by show (F 12 ci).toNatClampNeg = kd; rw [hkk]; exact nI_c (by omega)
              have e9 : pdurS lim (fl, us, sn, pw, pq, cq, ln, tn, tr) qu x y = (y - nI (carA lim kd (uof (cmdN F ci)) (fl, us, sn, pw, pgs)).2.2.2.2.2, ((carA lim kd (uof (cmdN F ci)) (fl, us, sn, pw, pgs)).2.1, [], (carA lim kd (uof (cmdN F ci)) (fl, us, sn, pw, pgs)).2.2.2.1, (carA lim kd (uof (cmdN F ci)) (fl, us, sn, pw, pgs)).2.2.2.2.1, (fun _ => []), (fun _ => []), ln, tn, tr)) := by simp only [pdurS]; rw [if_pos hy0, if_pos e8, hqc, hxc, hyc, hd9]; simp only [hkc]
              exact mx_reti G h hrt hlocks d_M_powerDuring_84 (by rw [e9]; exact ⟨by show nI (carA lim kd (uof (cmdN F ci)) (fl, us, sn, pw, pgs)).2.2.2.2.1 - nI pw = y - nI (carA lim kd (uof (cmdN F ci)) (fl, us, sn, pw, pgs)).2.2.2.2.2; rw [hyp, pk_sub hpl9, pk_sub (by omega)]; congr 1; omega, ⟨un2, cp2, bd2, F2, R2, V2, hrest⟩, (hfr0.tr hf1).tr hf2⟩)
            · refine lv_bipush (v := -3) hx hb d_M_powerDuring_45 (by decide) ?_
              have hge : (cq j).length = 4 := (nI_eq (by omega) (by decide)).mp c_27
              have e8 : refS pq cq qu x = -3 := by rw [refS, if_pos hcond, hqc, if_pos (by omega)]
              have e9 : pdurS lim (fl, us, sn, pw, pq, cq, ln, tn, tr) qu x y = (-3, (fl, us, sn, pw, pq, cq, ln, tn, tr)) := by simp only [pdurS]; rw [if_pos hy0, e8, if_neg (by decide)]
              exact mx_reti G h hrt hlocks d_M_powerDuring_47 (by rw [e9]; exact ⟨rfl, ⟨un, cp, bd, F, R, V, by omega, Nat.le_succ_of_le hct, by omega, hbd, hQN⟩, FR.rf⟩)
          · exact absurd c_21 (nI_ne0 (by omega) (by omega))
set_option maxHeartbeats 4000000 in
set_option maxRecDepth 100000 in
theorem m_M_word {l : Launch} {D : va_G} {cA : Nat → ClassId} {n0 : Nat} {w : mw} {ρ q : Nat → Nat} {lim t : Nat} {fl : Nat → Int64} {us : List uU} {sn pw : Nat} {pq : Nat → List pC} {cq : Nat → List (Int32 × Int64)} {ln : Nat} {tn : Int32} {tr : Int64} (Y : MR cA w ρ q lim t (fl, us, sn, pw, pq, cq, ln, tn, tr)) (ht : t ≤ 512) {x : Int32} :
    Ml l D cA n0 y_M_word c_M_word (rmd 3) [.ref (q 0), .int x] w (fun r w' => r = wordS (fl, us, sn, pw, pq, cq, ln, tn, tr) x ∧ w' = w) := by
  refine mw_met (cc := b_M_word) (maxL := 2) (ret := (some .long)) (by decide) rfl (Nat.le_of_ble_eq_true rfl) ?_
  intro p e s m below meth c ls G hrt hlocks hname h hl
  have G : mw_G p m c b_M_word 2 s _ (c_M_word :: TB) R_M D cl (tys cA) n0 := G
  have hx := G.1.1
  have hb := G.1.2.1
  have hl : lv_has ls 2 [(0, .ref (q 0)), (1, .int x)] := hl
  obtain ⟨un, cp, bd, F, R, V, hut, hct, hpt, hbd, hQN⟩ := id Y
  have V : MC cA w ρ q lim un ln cp tn tr F R (fl, us, sn, pw, bd) := V
  have hct : ln ≤ t := hct
  have hQN : QN F R ln cp pq cq := hQN
  obtain ⟨X, hG⟩ := id V
  have X : MX cA w ρ q lim un sn pw bd ln cp tn tr F R := X
  have hG : LG F un sn fl us := hG
  obtain ⟨hQp, hQc, hQl, hQv⟩ := id hQN
  have hun : un ≤ 512 := by omega
  have hcm : ln ≤ 512 := by omega
  have hcp : cp ≤ 512 := by omega
  refine lv_iload_n hx hb d_M_word_0 rfl (lv_at hl 1 rfl) ?_
  refine lv_bipush (v := 24) hx hb d_M_word_1 (by decide) ?_
  refine mx_ci (cS (As := [.int x, .int 24]) (rest := []) G h (m_M_in (x := x) (n := 24)) k_387 k_388 k_7 k_389 rfl hd_M_in rfl rfl ⟨Nat.le_of_ble_eq_true rfl, Nat.le_of_ble_eq_true rfl⟩ rfl hl.1 rfl (Nat.le_of_ble_eq_true rfl) d_M_word_3 ⟨Nat.le_of_ble_eq_true rfl, Nat.le_of_ble_eq_true rfl⟩) h (fun r_2 w_1 H locs h hcp1 => ?_)
  obtain ⟨er_3, ew_4⟩ := hcp1
  subst er_3
  rw [ew_4] at h
  refine lv_if_eq (tgt := 17) hx hb d_M_word_6 (by decide) (fun c_5 => ?_) (fun c_5 => ?_)
  · refine lv_ldc2 (v := NN) hx hb G.1.2.2.2.1 (G.1.2.2.2.2 _ (tb_c k_311)) d_M_word_17 ?_
    exact mx_retl G h hrt hlocks d_M_word_20 (⟨by rw [wordS, if_neg (bI_0 c_5)], rfl⟩)
  · have hi3 := bI_n c_5
    obtain ⟨j, hj, hxj⟩ := ixQ 24 rfl (by decide) hi3.1 hi3.2
    have hxc : x.toNatClampNeg = j := by rw [hxj]; exact nI_c (by omega)
    refine lv_aload_n hx hb d_M_word_9 rfl (lv_at hl 0 rfl) ?_
    refine lv_iload_n hx hb d_M_word_10 rfl (lv_at hl 1 rfl) ?_
    refine mx_cl (cV (As := [.int x]) (rest := []) G h (m_M_holds X hun hcm hcp (x := x)) k_414 k_416 ks_18 k_7 k_417 hd_M_holds rfl rfl ⟨Nat.le_of_ble_eq_true rfl, Nat.le_of_ble_eq_true rfl⟩ X.1 rfl rfl hl.1 rfl (Nat.le_of_ble_eq_true rfl) d_M_word_11 ⟨Nat.le_of_ble_eq_true rfl, Nat.le_of_ble_eq_true rfl⟩) h (fun r_7 w_6 H locs h hcp1 => ?_)
    obtain ⟨er_8, ew_9⟩ := hcp1
    subst er_8
    rw [ew_9] at h
    refine lv_goto (tgt := 20) hx hb d_M_word_14 (by decide) ?_
    exact mx_retl G h hrt hlocks d_M_word_20 (⟨by rw [wordS, if_pos hi3, hxc, hxj]; exact hG.hldE hj, rfl⟩)
set_option maxHeartbeats 4000000 in
set_option maxRecDepth 100000 in
theorem m_M_flash {l : Launch} {D : va_G} {cA : Nat → ClassId} {n0 : Nat} {w : mw} {ρ q : Nat → Nat} {lim t : Nat} {fl : Nat → Int64} {us : List uU} {sn pw : Nat} {pq : Nat → List pC} {cq : Nat → List (Int32 × Int64)} {ln : Nat} {tn : Int32} {tr : Int64} (Y : MR cA w ρ q lim t (fl, us, sn, pw, pq, cq, ln, tn, tr)) (ht : t ≤ 512) {x : Int32} :
    Ml l D cA n0 y_M_flash c_M_flash (rmd 3) [.ref (q 0), .int x] w (fun r w' => r = flashS (fl, us, sn, pw, pq, cq, ln, tn, tr) x ∧ w' = w) := by
  refine mw_met (cc := b_M_flash) (maxL := 2) (ret := (some .long)) (by decide) rfl (Nat.le_of_ble_eq_true rfl) ?_
  intro p e s m below meth c ls G hrt hlocks hname h hl
  have G : mw_G p m c b_M_flash 2 s _ (c_M_flash :: TB) R_M D cl (tys cA) n0 := G
  have hx := G.1.1
  have hb := G.1.2.1
  have hl : lv_has ls 2 [(0, .ref (q 0)), (1, .int x)] := hl
  obtain ⟨un, cp, bd, F, R, V, hut, hct, hpt, hbd, hQN⟩ := id Y
  have V : MC cA w ρ q lim un ln cp tn tr F R (fl, us, sn, pw, bd) := V
  have hct : ln ≤ t := hct
  have hQN : QN F R ln cp pq cq := hQN
  obtain ⟨X, hG⟩ := id V
  have X : MX cA w ρ q lim un sn pw bd ln cp tn tr F R := X
  have hG : LG F un sn fl us := hG
  obtain ⟨hQp, hQc, hQl, hQv⟩ := id hQN
  have hun : un ≤ 512 := by omega
  have hcm : ln ≤ 512 := by omega
  have hcp : cp ≤ 512 := by omega
  refine lv_iload_n hx hb d_M_flash_0 rfl (lv_at hl 1 rfl) ?_
  refine lv_bipush (v := 24) hx hb d_M_flash_1 (by decide) ?_
  refine mx_ci (cS (As := [.int x, .int 24]) (rest := []) G h (m_M_in (x := x) (n := 24)) k_387 k_388 k_7 k_389 rfl hd_M_in rfl rfl ⟨Nat.le_of_ble_eq_true rfl, Nat.le_of_ble_eq_true rfl⟩ rfl hl.1 rfl (Nat.le_of_ble_eq_true rfl) d_M_flash_3 ⟨Nat.le_of_ble_eq_true rfl, Nat.le_of_ble_eq_true rfl⟩) h (fun r_2 w_1 H locs h hcp1 => ?_)
  obtain ⟨er_3, ew_4⟩ := hcp1
  subst er_3
  rw [ew_4] at h
  refine lv_if_eq (tgt := 17) hx hb d_M_flash_6 (by decide) (fun c_5 => ?_) (fun c_5 => ?_)
  · refine lv_ldc2 (v := NN) hx hb G.1.2.2.2.1 (G.1.2.2.2.2 _ (tb_c k_311)) d_M_flash_17 ?_
    exact mx_retl G h hrt hlocks d_M_flash_20 (⟨by rw [flashS, if_neg (bI_0 c_5)], rfl⟩)
  · have hi3 := bI_n c_5
    obtain ⟨j, hj, hxj⟩ := ixQ 24 rfl (by decide) hi3.1 hi3.2
    have hxc : x.toNatClampNeg = j := by rw [hxj]; exact nI_c (by omega)
    refine lv_aload_n hx hb d_M_flash_9 rfl (lv_at hl 0 rfl) ?_
    refine lv_iload_n hx hb d_M_flash_10 rfl (lv_at hl 1 rfl) ?_
    refine mx_cl (cV (As := [.int x]) (rest := []) G h (m_M_inFlash X hun hcm hcp (x := x)) k_426 k_428 ks_21 k_7 k_429 hd_M_inFlash rfl rfl ⟨Nat.le_of_ble_eq_true rfl, Nat.le_of_ble_eq_true rfl⟩ X.1 rfl rfl hl.1 rfl (Nat.le_of_ble_eq_true rfl) d_M_flash_11 ⟨Nat.le_of_ble_eq_true rfl, Nat.le_of_ble_eq_true rfl⟩) h (fun r_7 w_6 H locs h hcp1 => ?_)
    obtain ⟨er_8, ew_9⟩ := hcp1
    subst er_8
    rw [ew_9] at h
    refine lv_goto (tgt := 20) hx hb d_M_flash_14 (by decide) ?_
    exact mx_retl G h hrt hlocks d_M_flash_20 (⟨by rw [flashS, if_pos hi3, hxc, hxj]; exact (hG.2.1 j hj).symm, rfl⟩)
set_option maxHeartbeats 4000000 in
set_option maxRecDepth 100000 in
theorem m_M_queue {l : Launch} {D : va_G} {cA : Nat → ClassId} {n0 : Nat} {w : mw} {ρ q : Nat → Nat} {lim t : Nat} {fl : Nat → Int64} {us : List uU} {sn pw : Nat} {pq : Nat → List pC} {cq : Nat → List (Int32 × Int64)} {ln : Nat} {tn : Int32} {tr : Int64} (Y : MR cA w ρ q lim t (fl, us, sn, pw, pq, cq, ln, tn, tr)) (ht : t ≤ 512) {qu x : Int32} :
    Mi l D cA n0 y_M_queue c_M_queue (rmd 1) [.ref (q 0), .int qu, .int x] w (fun r w' => r = queueS (fl, us, sn, pw, pq, cq, ln, tn, tr) qu x ∧ w' = w) := by
  refine mw_met (cc := b_M_queue) (maxL := 4) (ret := (some .int)) (by decide) rfl (Nat.le_of_ble_eq_true rfl) ?_
  intro p e s m below meth c ls G hrt hlocks hname h hl
  have G : mw_G p m c b_M_queue 4 s _ (c_M_queue :: TB) R_M D cl (tys cA) n0 := G
  have hx := G.1.1
  have hb := G.1.2.1
  have hl : lv_has ls 4 [(0, .ref (q 0)), (1, .int qu), (2, .int x)] := hl
  obtain ⟨un, cp, bd, F, R, V, hut, hct, hpt, hbd, hQN⟩ := id Y
  have V : MC cA w ρ q lim un ln cp tn tr F R (fl, us, sn, pw, bd) := V
  have hct : ln ≤ t := hct
  have hQN : QN F R ln cp pq cq := hQN
  obtain ⟨X, hG⟩ := id V
  have X : MX cA w ρ q lim un sn pw bd ln cp tn tr F R := X
  have hG : LG F un sn fl us := hG
  obtain ⟨hQp, hQc, hQl, hQv⟩ := id hQN
  have hun : un ≤ 512 := by omega
  have hcm : ln ≤ 512 := by omega
  have hcp : cp ≤ 512 := by omega
  refine lv_iload_n hx hb d_M_queue_0 rfl (lv_at hl 1 rfl) ?_
  refine lv_iconst (v := 3) hx hb d_M_queue_1 (by decide) ?_
  refine mx_ci (cS (As := [.int qu, .int 3]) (rest := []) G h (m_M_in (x := qu) (n := 3)) k_387 k_388 k_7 k_389 rfl hd_M_in rfl rfl ⟨Nat.le_of_ble_eq_true rfl, Nat.le_of_ble_eq_true rfl⟩ rfl hl.1 rfl (Nat.le_of_ble_eq_true rfl) d_M_queue_2 ⟨Nat.le_of_ble_eq_true rfl, Nat.le_of_ble_eq_true rfl⟩) h (fun r_2 w_1 H locs h hcp1 => ?_)
  obtain ⟨er_3, ew_4⟩ := hcp1
  subst er_3
  rw [ew_4] at h
  refine lv_if_eq (tgt := 17) hx hb d_M_queue_5 (by decide) (fun c_5 => ?_) (fun c_5 => ?_)
  · refine lv_iconst (v := (-1)) hx hb d_M_queue_17 (by decide) ?_
    exact mx_reti G h hrt hlocks d_M_queue_18 (⟨by rw [queueS, if_neg (bI_0 c_5)], rfl⟩)
  · have hi3 := bI_n c_5
    obtain ⟨j, hj, hqj⟩ := ixQ 3 rfl (by decide) hi3.1 hi3.2
    have hqc : qu.toNatClampNeg = j := by rw [hqj]; exact nI_c (by omega)
    have hplen : (pendN F ln qu).length = (pq j).length := by rw [hqj, hQp j hj, List.length_map]
    have hclen : (doneN F cp qu).length = (cq j).length := by rw [hqj, hQc j hj, List.length_map]
    have hp4 := (hQl j hj).1
    have hc4 := (hQl j hj).2
    refine lv_iload_n hx hb d_M_queue_8 rfl (lv_at hl 2 rfl) ?_
    refine lv_bipush (v := 6) hx hb d_M_queue_9 (by decide) ?_
    refine mx_ci (cS (As := [.int x, .int 6]) (rest := []) G h (m_M_in (x := x) (n := 6)) k_387 k_388 k_7 k_389 rfl hd_M_in rfl rfl ⟨Nat.le_of_ble_eq_true rfl, Nat.le_of_ble_eq_true rfl⟩ rfl hl.1 rfl (Nat.le_of_ble_eq_true rfl) d_M_queue_11 ⟨Nat.le_of_ble_eq_true rfl, Nat.le_of_ble_eq_true rfl⟩) h (fun r_7 w_6 H locs h hcp1 => ?_)
    obtain ⟨er_8, ew_9⟩ := hcp1
    subst er_8
    rw [ew_9] at h
    refine lv_if_ne (tgt := 19) hx hb d_M_queue_14 (by decide) (fun c_10 => ?_) (fun c_10 => ?_)
    · refine lv_iload_n hx hb d_M_queue_19 rfl (lv_at hl 2 rfl) ?_
      refine lv_if_ne (tgt := 29) hx hb d_M_queue_20 (by decide) (fun c_11 => ?_) (fun c_11 => ?_)
      · refine lv_iload_n hx hb d_M_queue_29 rfl (lv_at hl 2 rfl) ?_
        refine lv_iconst (v := 1) hx hb d_M_queue_30 (by decide) ?_
        refine lv_icmp_ne (tgt := 40) hx hb d_M_queue_31 (by decide) (fun c_12 => ?_) (fun c_12 => ?_)
        · obtain ⟨i, hi6, hxi⟩ := ixQ 6 rfl (by decide) (bI_n c_10).1 (bI_n c_10).2
          have hi2 : 2 ≤ i := by
            rcases (show i = 0 ∨ i = 1 ∨ 2 ≤ i by omega) with z | z | z
            · exact absurd (by rw [hxi, z]; rfl) c_11
            · exact absurd (by rw [hxi, z]; rfl) c_12
            · exact z
          have hx2 : x - 2 = nI (i - 2) := by rw [hxi]; exact pk_sub (b := 2) hi2
          have h25 : 2 ≤ x ∧ x ≤ 5 := ⟨by rw [hxi]; exact nI_le (a := 2) hi2 (by omega), by rw [hxi]; exact nI_le (b := 5) (by omega) (by decide)⟩
          refine lv_aload_n hx hb d_M_queue_40 rfl (lv_at hl 0 rfl) ?_
          refine lv_iload_n hx hb d_M_queue_41 rfl (lv_at hl 1 rfl) ?_
          refine lv_iload_n hx hb d_M_queue_42 rfl (lv_at hl 2 rfl) ?_
          refine lv_iconst (v := 2) hx hb d_M_queue_43 (by decide) ?_
          refine lv_isub hx hb d_M_queue_44 ?_
          refine mx_ci (cV (As := [.int qu, .int (x - 2)]) (rest := []) G h (m_M_picked X hun hcm hcp (x := qu) (y := x - 2) hx2 (by omega)) k_398 k_400 ks_14 k_7 k_401 hd_M_picked rfl rfl ⟨Nat.le_of_ble_eq_true rfl, Nat.le_of_ble_eq_true rfl⟩ X.1 rfl rfl hl.1 rfl (Nat.le_of_ble_eq_true rfl) d_M_queue_45 ⟨Nat.le_of_ble_eq_true rfl, Nat.le_of_ble_eq_true rfl⟩) h (fun r_14 w_13 H locs h hcp1 => ?_)
          obtain ⟨er_15, ew_16⟩ := hcp1
          subst er_15
          rw [ew_16] at h
          have hmp : (pq j)[i - 2]? = ((pendN F ln qu)[i - 2]?).map (cmdN F) := by rw [hQp j hj, List.getElem?_map, hqj]
          cases hpk : (pendN F ln qu)[i - 2]? with
          | none =>
            refine W.eq (g2 := F0 m 48 ls [.int 0]) rfl ?_
            refine lv_istore_n (lv' := [(3, .int 0), (0, .ref (q 0)), (1, .int qu), (2, .int x)]) hx hb d_M_queue_48 rfl hl (by decide) rfl (fun ls hl => ?_)
            refine lv_iload_n hx hb d_M_queue_49 rfl (lv_at hl 0 rfl) ?_
            refine lv_if_ne (tgt := 57) hx hb d_M_queue_50 (by decide) (fun c_17 => ?_) (fun c_17 => ?_)
            · exact absurd rfl c_17
            · refine lv_iconst (v := (-1)) hx hb d_M_queue_53 (by decide) ?_
              refine lv_goto (tgt := 58) hx hb d_M_queue_54 (by decide) ?_
              exact mx_reti G h hrt hlocks d_M_queue_58 (⟨by rw [queueS, if_pos hi3, if_neg c_11, if_neg c_12, if_pos h25, hqc, hx2, nI_c (by omega)]; show _ = match (pq j)[i - 2]? with | some c => c.1 | none => -1; rw [hmp, hpk]; rfl, rfl⟩)
          | some ci =>
            refine W.eq (g2 := F0 m 48 ls [.int (nI ci)]) rfl ?_
            have hcm2 := pendN_mem.mp (List.mem_of_getElem? hpk)
            refine lv_istore_n (lv' := [(3, .int (nI ci)), (0, .ref (q 0)), (1, .int qu), (2, .int x)]) hx hb d_M_queue_48 rfl hl (by decide) rfl (fun ls hl => ?_)
            refine lv_iload_n hx hb d_M_queue_49 rfl (lv_at hl 0 rfl) ?_
            refine lv_if_ne (tgt := 57) hx hb d_M_queue_50 (by decide) (fun c_18 => ?_) (fun c_18 => ?_)
            · refine lv_iload_n hx hb d_M_queue_57 rfl (lv_at hl 0 rfl) ?_
              exact mx_reti G h hrt hlocks d_M_queue_58 (⟨by rw [queueS, if_pos hi3, if_neg c_11, if_neg c_12, if_pos h25, hqc, hx2, nI_c (by omega)]; show _ = match (pq j)[i - 2]? with | some c => c.1 | none => -1; rw [hmp, hpk]; rfl, rfl⟩)
            · exact absurd c_18 (nI_ne0 (by omega) (by omega))
        · refine lv_aload_n hx hb d_M_queue_34 rfl (lv_at hl 0 rfl) ?_
          refine lv_iload_n hx hb d_M_queue_35 rfl (lv_at hl 1 rfl) ?_
          refine mx_ci (cV (As := [.int qu]) (rest := []) G h (m_M_done X hun hcm hcp (x := qu)) k_402 k_404 ks_15 k_7 k_405 hd_M_done rfl rfl ⟨Nat.le_of_ble_eq_true rfl, Nat.le_of_ble_eq_true rfl⟩ X.1 rfl rfl hl.1 rfl (Nat.le_of_ble_eq_true rfl) d_M_queue_36 ⟨Nat.le_of_ble_eq_true rfl, Nat.le_of_ble_eq_true rfl⟩) h (fun r_20 w_19 H locs h hcp1 => ?_)
          obtain ⟨er_21, ew_22⟩ := hcp1
          subst er_21
          rw [ew_22] at h
          exact mx_reti G h hrt hlocks d_M_queue_39 (⟨by rw [queueS, if_pos hi3, if_neg c_11, if_pos c_12, hqc, hclen], rfl⟩)
      · refine lv_aload_n hx hb d_M_queue_23 rfl (lv_at hl 0 rfl) ?_
        refine lv_iload_n hx hb d_M_queue_24 rfl (lv_at hl 1 rfl) ?_
        refine mx_ci (cV (As := [.int qu]) (rest := []) G h (m_M_pending X hun hcm hcp (x := qu)) k_390 k_392 ks_13 k_7 k_393 hd_M_pending rfl rfl ⟨Nat.le_of_ble_eq_true rfl, Nat.le_of_ble_eq_true rfl⟩ X.1 rfl rfl hl.1 rfl (Nat.le_of_ble_eq_true rfl) d_M_queue_25 ⟨Nat.le_of_ble_eq_true rfl, Nat.le_of_ble_eq_true rfl⟩) h (fun r_24 w_23 H locs h hcp1 => ?_)
        obtain ⟨er_25, ew_26⟩ := hcp1
        subst er_25
        rw [ew_26] at h
        exact mx_reti G h hrt hlocks d_M_queue_28 (⟨by rw [queueS, if_pos hi3, if_pos c_11, hqc, hplen], rfl⟩)
    · refine lv_iconst (v := (-1)) hx hb d_M_queue_17 (by decide) ?_
      exact mx_reti G h hrt hlocks d_M_queue_18 (⟨by rw [queueS, if_pos hi3, if_neg (fun z => bI_0 c_10 (by rw [z]; decide)), if_neg (fun z => bI_0 c_10 (by rw [z]; decide)), if_neg (fun z => bI_0 c_10 ⟨Int32.le_trans (by decide) z.1, lt6.mpr z.2⟩)], rfl⟩)
set_option maxHeartbeats 4000000 in
set_option maxRecDepth 100000 in
theorem m_M_count {l : Launch} {D : va_G} {cA : Nat → ClassId} {n0 : Nat} {w : mw} {ρ q : Nat → Nat} {lim t : Nat} {fl : Nat → Int64} {us : List uU} {sn pw : Nat} {pq : Nat → List pC} {cq : Nat → List (Int32 × Int64)} {ln : Nat} {tn : Int32} {tr : Int64} (Y : MR cA w ρ q lim t (fl, us, sn, pw, pq, cq, ln, tn, tr)) (ht : t ≤ 512) {x : Int32} :
    Mi l D cA n0 y_M_count c_M_count (rmd 1) [.ref (q 0), .int x] w (fun r w' => r = countS (fl, us, sn, pw, pq, cq, ln, tn, tr) x ∧ w' = w) := by
  refine mw_met (cc := b_M_count) (maxL := 2) (ret := (some .int)) (by decide) rfl (Nat.le_of_ble_eq_true rfl) ?_
  intro p e s m below meth c ls G hrt hlocks hname h hl
  have G : mw_G p m c b_M_count 2 s _ (c_M_count :: TB) R_M D cl (tys cA) n0 := G
  have hx := G.1.1
  have hb := G.1.2.1
  have hl : lv_has ls 2 [(0, .ref (q 0)), (1, .int x)] := hl
  obtain ⟨un, cp, bd, F, R, V, hut, hct, hpt, hbd, hQN⟩ := id Y
  have V : MC cA w ρ q lim un ln cp tn tr F R (fl, us, sn, pw, bd) := V
  have hct : ln ≤ t := hct
  have hQN : QN F R ln cp pq cq := hQN
  obtain ⟨X, hG⟩ := id V
  have X : MX cA w ρ q lim un sn pw bd ln cp tn tr F R := X
  have hG : LG F un sn fl us := hG
  obtain ⟨hQp, hQc, hQl, hQv⟩ := id hQN
  have hun : un ≤ 512 := by omega
  have hcm : ln ≤ 512 := by omega
  have hcp : cp ≤ 512 := by omega
  have hlen : (liveN F un).length = us.length := by rw [hG.1, List.length_map]
  refine lv_iload_n hx hb d_M_count_0 rfl (lv_at hl 1 rfl) ?_
  refine lv_if_ne (tgt := 9) hx hb d_M_count_1 (by decide) (fun c_1 => ?_) (fun c_1 => ?_)
  · refine lv_iload_n hx hb d_M_count_9 rfl (lv_at hl 1 rfl) ?_
    refine lv_iconst (v := 1) hx hb d_M_count_10 (by decide) ?_
    refine lv_icmp_ne (tgt := 19) hx hb d_M_count_11 (by decide) (fun c_2 => ?_) (fun c_2 => ?_)
    · refine lv_iload_n hx hb d_M_count_19 rfl (lv_at hl 1 rfl) ?_
      refine lv_iconst (v := 2) hx hb d_M_count_20 (by decide) ?_
      refine lv_icmp_ne (tgt := 29) hx hb d_M_count_21 (by decide) (fun c_3 => ?_) (fun c_3 => ?_)
      · refine lv_iload_n hx hb d_M_count_29 rfl (lv_at hl 1 rfl) ?_
        refine lv_iconst (v := 3) hx hb d_M_count_30 (by decide) ?_
        refine lv_icmp_ne (tgt := 39) hx hb d_M_count_31 (by decide) (fun c_4 => ?_) (fun c_4 => ?_)
        · refine lv_iload_n hx hb d_M_count_39 rfl (lv_at hl 1 rfl) ?_
          refine lv_iconst (v := 4) hx hb d_M_count_40 (by decide) ?_
          refine lv_icmp_ne (tgt := 51) hx hb d_M_count_41 (by decide) (fun c_5 => ?_) (fun c_5 => ?_)
          · refine lv_iconst (v := (-1)) hx hb d_M_count_51 (by decide) ?_
            exact mx_reti G h hrt hlocks d_M_count_52 (⟨by rw [countS, if_neg c_1, if_neg c_2, if_neg c_3, if_neg c_4, if_neg c_5], rfl⟩)
          · refine lv_aload_n hx hb d_M_count_44 rfl (lv_at hl 0 rfl) ?_
            refine mx_get G h X.1 rfl 21 (by decide) (tb_in in_M) (tb_c k_333) rfl rfl d_M_count_45 ?_
            refine lv_goto (tgt := 52) hx hb d_M_count_48 (by decide) ?_
            exact mx_reti G h hrt hlocks d_M_count_52 (⟨by rw [countS, if_neg c_1, if_neg c_2, if_neg c_3, if_neg c_4, if_pos c_5], rfl⟩)
        · refine lv_aload_n hx hb d_M_count_34 rfl (lv_at hl 0 rfl) ?_
          refine mx_get G h X.1 rfl 9 (by decide) (tb_in in_M) (tb_c k_321) rfl rfl d_M_count_35 ?_
          exact mx_reti G h hrt hlocks d_M_count_38 (⟨by rw [countS, if_neg c_1, if_neg c_2, if_neg c_3, if_pos c_4], rfl⟩)
      · refine lv_aload_n hx hb d_M_count_24 rfl (lv_at hl 0 rfl) ?_
        refine mx_get G h X.1 rfl 8 (by decide) (tb_in in_M) (tb_c k_320) rfl rfl d_M_count_25 ?_
        exact mx_reti G h hrt hlocks d_M_count_28 (⟨by rw [countS, if_neg c_1, if_neg c_2, if_pos c_3], rfl⟩)
    · refine lv_aload_n hx hb d_M_count_14 rfl (lv_at hl 0 rfl) ?_
      refine mx_get G h X.1 rfl 16 (by decide) (tb_in in_M) (tb_c k_328) rfl rfl d_M_count_15 ?_
      exact mx_reti G h hrt hlocks d_M_count_18 (⟨by rw [countS, if_neg c_1, if_pos c_2], rfl⟩)
  · refine lv_aload_n hx hb d_M_count_4 rfl (lv_at hl 0 rfl) ?_
    refine mx_ci (cV (As := []) (rest := []) G h (m_M_inCache X hun hcm hcp) k_434 k_436 ks_23 k_7 k_437 hd_M_inCache rfl rfl ⟨Nat.le_of_ble_eq_true rfl, Nat.le_of_ble_eq_true rfl⟩ X.1 rfl rfl hl.1 rfl (Nat.le_of_ble_eq_true rfl) d_M_count_5 ⟨Nat.le_of_ble_eq_true rfl, Nat.le_of_ble_eq_true rfl⟩) h (fun r_7 w_6 H locs h hcp1 => ?_)
    obtain ⟨er_8, ew_9⟩ := hcp1
    subst er_8
    rw [ew_9] at h
    exact mx_reti G h hrt hlocks d_M_count_8 (⟨by rw [countS, if_pos c_1, hlen], rfl⟩)
set_option maxHeartbeats 4000000 in
set_option maxRecDepth 100000 in
theorem m_M_unit {l : Launch} {D : va_G} {cA : Nat → ClassId} {n0 : Nat} {w : mw} {ρ q : Nat → Nat} {lim t : Nat} {fl : Nat → Int64} {us : List uU} {sn pw : Nat} {pq : Nat → List pC} {cq : Nat → List (Int32 × Int64)} {ln : Nat} {tn : Int32} {tr : Int64} (Y : MR cA w ρ q lim t (fl, us, sn, pw, pq, cq, ln, tn, tr)) (ht : t ≤ 512) (h6 : us.length ≤ 6) {y x : Int32} :
    Mi l D cA n0 y_M_unit c_M_unit (rmd 1) [.ref (q 0), .int y, .int x] w (fun r w' => r = unitS (fl, us, sn, pw, pq, cq, ln, tn, tr) y x ∧ w' = w) := by
  refine mw_met (cc := b_M_unit) (maxL := 5) (ret := (some .int)) (by decide) rfl (Nat.le_of_ble_eq_true rfl) ?_
  intro p e s m below meth c ls G hrt hlocks hname h hl
  have G : mw_G p m c b_M_unit 5 s _ (c_M_unit :: TB) R_M D cl (tys cA) n0 := G
  have hx := G.1.1
  have hb := G.1.2.1
  have hl : lv_has ls 5 [(0, .ref (q 0)), (1, .int y), (2, .int x)] := hl
  obtain ⟨un, cp, bd, F, R, V, hut, hct, hpt, hbd, hQN⟩ := id Y
  have V : MC cA w ρ q lim un ln cp tn tr F R (fl, us, sn, pw, bd) := V
  have hct : ln ≤ t := hct
  have hQN : QN F R ln cp pq cq := hQN
  obtain ⟨X, hG⟩ := id V
  have X : MX cA w ρ q lim un sn pw bd ln cp tn tr F R := X
  have hG : LG F un sn fl us := hG
  obtain ⟨hQp, hQc, hQl, hQv⟩ := id hQN
  have hun : un ≤ 512 := by omega
  have hcm : ln ≤ 512 := by omega
  have hcp : cp ≤ 512 := by omega
  have hlen : (liveN F un).length = us.length := by rw [hG.1, List.length_map]
  refine lv_iload_n hx hb d_M_unit_0 rfl (lv_at hl 1 rfl) ?_
  refine lv_bipush (v := 6) hx hb d_M_unit_1 (by decide) ?_
  refine mx_ci (cS (As := [.int y, .int 6]) (rest := []) G h (m_M_in (x := y) (n := 6)) k_387 k_388 k_7 k_389 rfl hd_M_in rfl rfl ⟨Nat.le_of_ble_eq_true rfl, Nat.le_of_ble_eq_true rfl⟩ rfl hl.1 rfl (Nat.le_of_ble_eq_true rfl) d_M_unit_3 ⟨Nat.le_of_ble_eq_true rfl, Nat.le_of_ble_eq_true rfl⟩) h (fun r_2 w_1 H locs h hcp1 => ?_)
  obtain ⟨er_3, ew_4⟩ := hcp1
  subst er_3
  rw [ew_4] at h
  refine lv_if_eq (tgt := 25) hx hb d_M_unit_6 (by decide) (fun c_5 => ?_) (fun c_5 => ?_)
  · refine lv_iconst (v := (-1)) hx hb d_M_unit_25 (by decide) ?_
    exact mx_reti G h hrt hlocks d_M_unit_26 (⟨by rw [unitS, if_neg (fun z => bI_0 c_5 ⟨z.1, Int32.lt_of_lt_of_le z.2 (nI_le (b := 6) h6 (by decide))⟩)], rfl⟩)
  · obtain ⟨i, hi6, hyi⟩ := ixQ 6 rfl (by decide) (bI_n c_5).1 (bI_n c_5).2
    have hyc : y.toNatClampNeg = i := by rw [hyi]; exact nI_c (by omega)
    refine lv_iload_n hx hb d_M_unit_9 rfl (lv_at hl 2 rfl) ?_
    refine lv_iconst (v := 3) hx hb d_M_unit_10 (by decide) ?_
    refine mx_ci (cS (As := [.int x, .int 3]) (rest := []) G h (m_M_in (x := x) (n := 3)) k_387 k_388 k_7 k_389 rfl hd_M_in rfl rfl ⟨Nat.le_of_ble_eq_true rfl, Nat.le_of_ble_eq_true rfl⟩ rfl hl.1 rfl (Nat.le_of_ble_eq_true rfl) d_M_unit_11 ⟨Nat.le_of_ble_eq_true rfl, Nat.le_of_ble_eq_true rfl⟩) h (fun r_7 w_6 H locs h hcp1 => ?_)
    obtain ⟨er_8, ew_9⟩ := hcp1
    subst er_8
    rw [ew_9] at h
    refine lv_if_eq (tgt := 25) hx hb d_M_unit_14 (by decide) (fun c_10 => ?_) (fun c_10 => ?_)
    · refine lv_iconst (v := (-1)) hx hb d_M_unit_25 (by decide) ?_
      have hx0 : ¬ x = 0 := fun z => bI_0 c_10 (by rw [z]; decide)
      have hx1 : ¬ x = 1 := fun z => bI_0 c_10 (by rw [z]; decide)
      have hx2 : ¬ x = 2 := fun z => bI_0 c_10 (by rw [z]; decide)
      exact mx_reti G h hrt hlocks d_M_unit_26 (⟨(unit_x hx0 hx1 hx2).symm, rfl⟩)
    · refine lv_iload_n hx hb d_M_unit_17 rfl (lv_at hl 1 rfl) ?_
      refine lv_aload_n hx hb d_M_unit_18 rfl (lv_at hl 0 rfl) ?_
      refine mx_ci (cV (As := []) (rest := [.int y]) G h (m_M_inCache X hun hcm hcp) k_434 k_436 ks_23 k_7 k_437 hd_M_inCache rfl rfl ⟨Nat.le_of_ble_eq_true rfl, Nat.le_of_ble_eq_true rfl⟩ X.1 rfl rfl hl.1 rfl (Nat.le_of_ble_eq_true rfl) d_M_unit_19 ⟨Nat.le_of_ble_eq_true rfl, Nat.le_of_ble_eq_true rfl⟩) h (fun r_12 w_11 H locs h hcp1 => ?_)
      obtain ⟨er_13, ew_14⟩ := hcp1
      subst er_13
      rw [ew_14] at h
      have et_15 : nI (liveN F un).length = nI us.length := by rw [hlen]
      rw [et_15]
      refine lv_icmp_lt (tgt := 27) hx hb d_M_unit_22 (by decide) (fun c_16 => ?_) (fun c_16 => ?_)
      · have hi3 : 0 ≤ y ∧ y < nI us.length := ⟨(bI_n c_5).1, c_16⟩
        have hil : i < us.length := (nI_ltI (by omega) (by omega)).mp (by rw [← hyi]; exact c_16)
        refine lv_iconst (v := 0) hx hb d_M_unit_27 (by decide) ?_
        refine lv_istore_n (lv' := [(3, .int 0), (0, .ref (q 0)), (1, .int y), (2, .int x)]) hx hb d_M_unit_28 rfl hl (by decide) rfl (fun ls hl => ?_)
        refine lv_iconst (v := 0) hx hb d_M_unit_29 (by decide) ?_
        refine lv_istore (lv' := [(4, .int 0), (3, .int 0), (0, .ref (q 0)), (1, .int y), (2, .int x)]) hx hb d_M_unit_30 hl (by decide) rfl (fun ls hl => ?_)
        have loop : ∀ (t9 k : Nat), k + t9 = un → (liveN F k).length ≤ i → ∀ (H : Heap) (locs : List Loc) (ls : Array Slot), mw_H n0 D cl s w H locs → lv_has ls 5 [(4, .int (nI k)), (3, .int (nI (liveN F k).length)), (0, .ref (q 0)), (1, .int y), (2, .int x)] → W p l e (rmd 1) s m ([.ref (q 0), .int y, .int x] : List Value).toArray below meth c H locs 0 0 (MQ below (mw_Qi n0 D cl (fun r w' => r = unitS (fl, us, sn, pw, pq, cq, ln, tn, tr) y x ∧ w' = w)) ([.ref (q 0), .int y, .int x] : List Value).toArray s 0 0 (mw_A n0)) (F0 m 32 ls []) := by
          intro t9
          induction t9 with
          | zero =>
            intro k hk hle H locs ls h hl
            have hk : k = un := hk
            exact absurd hle (by rw [hk, hlen]; omega)
          | succ t9 ih =>
            intro k hk hle H locs ls h hl
            have hkl := liveN_le F k
            refine lv_iload hx hb d_M_unit_32 (lv_at hl 0 rfl) ?_
            refine lv_aload_n hx hb d_M_unit_34 rfl (lv_at hl 2 rfl) ?_
            refine mx_get G h X.1 rfl 7 (by decide) (tb_in in_M) (tb_c k_319) rfl rfl d_M_unit_35 ?_
            refine lv_icmp_ge (tgt := 110) hx hb d_M_unit_38 (by decide) (fun c_17 => ?_) (fun c_17 => ?_)
            · exact absurd ((nI_leI (by omega) (by omega)).mp c_17) (by omega)
            · refine lv_aload_n hx hb d_M_unit_41 rfl (lv_at hl 2 rfl) ?_
              refine mx_get G h X.1 rfl 6 (by decide) (tb_in in_M) (tb_c k_318) rfl rfl d_M_unit_42 ?_
              refine lv_iload hx hb d_M_unit_45 (lv_at hl 0 rfl) ?_
              refine ax_z G h (X.2.2.1 6 (by decide)) k rfl (by omega) (by decide) d_M_unit_47 ?_
              refine lv_if_eq (tgt := 104) hx hb d_M_unit_48 (by decide) (fun c_18 => ?_) (fun c_18 => ?_)
              · refine lv_iinc (v := (nI k) + 1) (lv' := [(4, .int ((nI k) + 1)), (3, .int (nI (liveN F k).length)), (0, .ref (q 0)), (1, .int y), (2, .int x)]) hx hb d_M_unit_104 hl (k := 0) rfl rfl (by decide) rfl (fun ls hl => ?_)
                refine lv_goto (tgt := 32) hx hb d_M_unit_107 (by decide) ?_
                simp only [nI_1] at hl
                refine ih (k + 1) (by omega) (by rw [liveN_s, if_pos c_18]; exact hle) H locs ls h ?_
                rw [liveN_s, if_pos c_18]
                exact lv_sub hl [0, 1, 2, 3, 4] rfl
              · have q1 : (liveN F (k + 1)).length = (liveN F k).length + 1 := by rw [liveN_s, if_neg c_18]; simp
                refine lv_iload_n hx hb d_M_unit_51 rfl (lv_at hl 1 rfl) ?_
                refine lv_iload_n hx hb d_M_unit_52 rfl (lv_at hl 3 rfl) ?_
                refine lv_icmp_ne (tgt := 101) hx hb d_M_unit_53 (by decide) (fun c_19 => ?_) (fun c_19 => ?_)
                · refine lv_iinc (v := (nI (liveN F k).length) + 1) (lv' := [(3, .int ((nI (liveN F k).length) + 1)), (4, .int (nI k)), (0, .ref (q 0)), (1, .int y), (2, .int x)]) hx hb d_M_unit_101 hl (k := 1) rfl rfl (by decide) rfl (fun ls hl => ?_)
                  refine lv_iinc (v := (nI k) + 1) (lv' := [(4, .int ((nI k) + 1)), (3, .int ((nI (liveN F k).length) + 1)), (0, .ref (q 0)), (1, .int y), (2, .int x)]) hx hb d_M_unit_104 hl (k := 1) rfl rfl (by decide) rfl (fun ls hl => ?_)
                  refine lv_goto (tgt := 32) hx hb d_M_unit_107 (by decide) ?_
                  simp only [nI_1] at hl
                  have hne : (liveN F k).length ≠ i := fun z => c_19 (by rw [hyi, z])
                  refine ih (k + 1) (by omega) (by omega) H locs ls h ?_
                  rw [q1]
                  exact lv_sub hl [0, 1, 2, 3, 4] rfl
                · have hli : (liveN F k).length = i := (nI_eq (by omega) (by omega)).mp (by rw [c_19, hyi])
                  obtain ⟨rr, hrr⟩ := liveN_pre F (k + 1) t9
                  have hg : us[i]? = some (uN F k) := by
                    rw [hG.1, List.getElem?_map, show un = k + 1 + t9 by omega, hrr, liveN_s, if_neg c_18, ← hli]
                    simp
                  have hVk := hG.2.2.1 k (by omega)
                  refine lv_iload_n hx hb d_M_unit_56 rfl (lv_at hl 4 rfl) ?_
                  refine lv_if_ne (tgt := 70) hx hb d_M_unit_57 (by decide) (fun c_20 => ?_) (fun c_20 => ?_)
                  · refine lv_iload_n hx hb d_M_unit_70 rfl (lv_at hl 4 rfl) ?_
                    refine lv_iconst (v := 1) hx hb d_M_unit_71 (by decide) ?_
                    refine lv_icmp_ne (tgt := 85) hx hb d_M_unit_72 (by decide) (fun c_21 => ?_) (fun c_21 => ?_)
                    · have hx2 : x = 2 := by
                        obtain ⟨ix, hix, hxx⟩ := ixQ 3 rfl (by decide) (bI_n c_10).1 (bI_n c_10).2
                        rcases (show ix = 0 ∨ ix = 1 ∨ ix = 2 by omega) with z | z | z
                        · exact absurd (by rw [hxx, z]; rfl) c_20
                        · exact absurd (by rw [hxx, z]; rfl) c_21
                        · rw [hxx, z]; rfl
                      refine lv_aload_n hx hb d_M_unit_85 rfl (lv_at hl 2 rfl) ?_
                      refine mx_get G h X.1 rfl 4 (by decide) (tb_in in_M) (tb_c k_316) rfl rfl d_M_unit_86 ?_
                      refine lv_iload hx hb d_M_unit_89 (lv_at hl 0 rfl) ?_
                      refine ax_z G h (X.2.2.1 4 (by decide)) k rfl (by omega) (by decide) d_M_unit_91 ?_
                      refine lv_if_eq (tgt := 99) hx hb d_M_unit_92 (by decide) (fun c_22 => ?_) (fun c_22 => ?_)
                      · refine lv_iconst (v := 0) hx hb d_M_unit_99 (by decide) ?_
                        exact mx_reti G h hrt hlocks d_M_unit_100 (⟨by rw [unitS, if_pos hi3, hyc]; show _ = match us[i]? with | some v => if x = 0 then v.1 else if x = 1 then v.2.1 else if x = 2 then v.2.2.2 else -1 | none => -1; rw [hg]; show _ = if x = 0 then F 1 k else if x = 1 then F 2 k else if x = 2 then F 4 k else -1; rw [if_neg c_20, if_neg c_21, if_pos hx2, c_22], rfl⟩)
                      · refine lv_iconst (v := 1) hx hb d_M_unit_95 (by decide) ?_
                        refine lv_goto (tgt := 100) hx hb d_M_unit_96 (by decide) ?_
                        exact mx_reti G h hrt hlocks d_M_unit_100 (⟨by rw [unitS, if_pos hi3, hyc]; show _ = match us[i]? with | some v => if x = 0 then v.1 else if x = 1 then v.2.1 else if x = 2 then v.2.2.2 else -1 | none => -1; rw [hg]; show _ = if x = 0 then F 1 k else if x = 1 then F 2 k else if x = 2 then F 4 k else -1; rw [if_neg c_20, if_neg c_21, if_pos hx2, show F 4 k = 1 from hVk.2.2.2.2.2.resolve_left c_22], rfl⟩)
                    · refine lv_aload_n hx hb d_M_unit_75 rfl (lv_at hl 2 rfl) ?_
                      refine mx_get G h X.1 rfl 2 (by decide) (tb_in in_M) (tb_c k_314) rfl rfl d_M_unit_76 ?_
                      refine lv_iload hx hb d_M_unit_79 (lv_at hl 0 rfl) ?_
                      refine ax_i G h (X.2.1 2 (by decide)) k rfl (by omega) (by decide) d_M_unit_81 ?_
                      refine lv_goto (tgt := 100) hx hb d_M_unit_82 (by decide) ?_
                      exact mx_reti G h hrt hlocks d_M_unit_100 (⟨by rw [unitS, if_pos hi3, hyc]; show _ = match us[i]? with | some v => if x = 0 then v.1 else if x = 1 then v.2.1 else if x = 2 then v.2.2.2 else -1 | none => -1; rw [hg]; show _ = if x = 0 then F 1 k else if x = 1 then F 2 k else if x = 2 then F 4 k else -1; rw [if_neg c_20, if_pos c_21], rfl⟩)
                  · refine lv_aload_n hx hb d_M_unit_60 rfl (lv_at hl 2 rfl) ?_
                    refine mx_get G h X.1 rfl 1 (by decide) (tb_in in_M) (tb_c k_313) rfl rfl d_M_unit_61 ?_
                    refine lv_iload hx hb d_M_unit_64 (lv_at hl 0 rfl) ?_
                    refine ax_i G h (X.2.1 1 (by decide)) k rfl (by omega) (by decide) d_M_unit_66 ?_
                    refine lv_goto (tgt := 100) hx hb d_M_unit_67 (by decide) ?_
                    exact mx_reti G h hrt hlocks d_M_unit_100 (⟨by rw [unitS, if_pos hi3, hyc]; show _ = match us[i]? with | some v => if x = 0 then v.1 else if x = 1 then v.2.1 else if x = 2 then v.2.2.2 else -1 | none => -1; rw [hg]; show _ = if x = 0 then F 1 k else if x = 1 then F 2 k else if x = 2 then F 4 k else -1; rw [if_pos c_20], rfl⟩)
        exact loop un 0 (by omega) (Nat.zero_le _) H locs ls h (lv_sub hl [0, 1, 2, 3, 4] rfl)
      · refine lv_iconst (v := (-1)) hx hb d_M_unit_25 (by decide) ?_
        exact mx_reti G h hrt hlocks d_M_unit_26 (⟨by rw [unitS, if_neg (fun z => c_16 z.2)], rfl⟩)
