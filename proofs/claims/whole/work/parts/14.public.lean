/-! The drive's state as the document has it: flash, cache, units stored, pages written, pending, completions, latest number, taken number and result; and what each call does -/
abbrev gS : Type := (Nat → Int64) × List uU × Nat × Nat × (Nat → List pC) × (Nat → List (Int32 × Int64)) × Nat × Int32 × Int64
def DR (cA : Nat → ClassId) (w : mw) (ρ k : Nat → Nat) (L : Nat) (g : gS) : Prop := ∃ pl, DRp cA w ρ k L g.1 g.2.1 g.2.2.1 g.2.2.2.1 g.2.2.2.2.1 g.2.2.2.2.2.1 g.2.2.2.2.2.2.1 g.2.2.2.2.2.2.2.1 g.2.2.2.2.2.2.2.2 pl
def submitS (g : gS) (q kd a n v : Int32) : Int32 × gS := match g with
  | (fl, us, sn, pw, pq, cq, ln, tn, tr) => if (0 ≤ q ∧ q < 3) ∧ 0 ≤ kd ∧ kd ≤ 5 then (if kd = 3 ∨ (1 ≤ n ∧ n ≤ 4 ∧ 0 ≤ a ∧ a ≤ 24 - n) then (if 4 ≤ (pq q.toNatClampNeg).length then (-2, (fl, us, sn, pw, pq, cq, ln, tn, tr)) else (nI (ln + 1), (fl, us, sn, pw, va_up pq q.toNatClampNeg (pq q.toNatClampNeg ++ [(nI (ln + 1), kd, a, n, v)]), cq, ln + 1, tn, tr))) else (-1, (fl, us, sn, pw, pq, cq, ln, tn, tr))) else (-1, (fl, us, sn, pw, pq, cq, ln, tn, tr))
def stepS (L : Nat) (g : gS) (q x : Int32) : Int32 × gS := match g with
  | (fl, us, sn, pw, pq, cq, ln, tn, tr) => if refS pq cq q x = 0 then (match (pq q.toNatClampNeg)[x.toNatClampNeg]? with
    | some c => (c.1, ((carA L c.2.1.toNatClampNeg (uof c) (fl, us, sn, pw, 28)).2.1, (carA L c.2.1.toNatClampNeg (uof c) (fl, us, sn, pw, 28)).2.2.1, (carA L c.2.1.toNatClampNeg (uof c) (fl, us, sn, pw, 28)).2.2.2.1, (carA L c.2.1.toNatClampNeg (uof c) (fl, us, sn, pw, 28)).2.2.2.2.1, va_up pq q.toNatClampNeg ((pq q.toNatClampNeg).eraseIdx x.toNatClampNeg), va_up cq q.toNatClampNeg (cq q.toNatClampNeg ++ [(c.1, (carA L c.2.1.toNatClampNeg (uof c) (fl, us, sn, pw, 28)).1)]), ln, tn, tr))
    | none => (-1, (fl, us, sn, pw, pq, cq, ln, tn, tr))) else (refS pq cq q x, (fl, us, sn, pw, pq, cq, ln, tn, tr))
def takeS (g : gS) (q : Int32) : Int32 × gS := match g with
  | (fl, us, sn, pw, pq, cq, ln, tn, tr) => if 0 ≤ q ∧ q < 3 then (match cq q.toNatClampNeg with
    | c :: cs => (c.1, (fl, us, sn, pw, pq, va_up cq q.toNatClampNeg cs, ln, c.1, c.2))
    | [] => (-1, (fl, us, sn, pw, pq, cq, ln, tn, tr))) else (-1, (fl, us, sn, pw, pq, cq, ln, tn, tr))
def resetS (g : gS) : Int32 × gS := match g with
  | (fl, us, sn, pw, pq, _, ln, tn, tr) => (nI ((pq 0).length + (pq 1).length + (pq 2).length), (fl, us, sn, pw, (fun _ => []), (fun _ => []), ln, tn, tr))
def powerS (g : gS) : Int32 × gS := match g with
  | (fl, us, sn, pw, _, _, ln, tn, tr) => (nI us.length, (fl, [], sn, pw, (fun _ => []), (fun _ => []), ln, tn, tr))
def pdurS (L : Nat) (g : gS) (q x y : Int32) : Int32 × gS := match g with
  | (fl, us, sn, pw, pq, cq, ln, tn, tr) => if 0 ≤ y ∧ y ≤ 30 then (if refS pq cq q x = 0 then (match (pq q.toNatClampNeg)[x.toNatClampNeg]? with
    | some c => (y - nI (carA L c.2.1.toNatClampNeg (uof c) (fl, us, sn, pw, y.toNatClampNeg)).2.2.2.2.2, ((carA L c.2.1.toNatClampNeg (uof c) (fl, us, sn, pw, y.toNatClampNeg)).2.1, [], (carA L c.2.1.toNatClampNeg (uof c) (fl, us, sn, pw, y.toNatClampNeg)).2.2.2.1, (carA L c.2.1.toNatClampNeg (uof c) (fl, us, sn, pw, y.toNatClampNeg)).2.2.2.2.1, (fun _ => []), (fun _ => []), ln, tn, tr))
    | none => (-1, (fl, us, sn, pw, pq, cq, ln, tn, tr))) else (refS pq cq q x, (fl, us, sn, pw, pq, cq, ln, tn, tr))) else (-1, (fl, us, sn, pw, pq, cq, ln, tn, tr))
def wordS (g : gS) (a : Int32) : Int64 := if 0 ≤ a ∧ a < 24 then hld g.1 g.2.1 a.toNatClampNeg else NN
def flashS (g : gS) (a : Int32) : Int64 := if 0 ≤ a ∧ a < 24 then g.1 a.toNatClampNeg else NN
def queueS (g : gS) (q x : Int32) : Int32 := if 0 ≤ q ∧ q < 3 then (if x = 0 then nI (g.2.2.2.2.1 q.toNatClampNeg).length else if x = 1 then nI (g.2.2.2.2.2.1 q.toNatClampNeg).length else if 2 ≤ x ∧ x ≤ 5 then (match (g.2.2.2.2.1 q.toNatClampNeg)[(x - 2).toNatClampNeg]? with
    | some c => c.1
    | none => -1) else -1) else -1
def unitS (g : gS) (u x : Int32) : Int32 := if 0 ≤ u ∧ u < nI g.2.1.length then (match g.2.1[u.toNatClampNeg]? with
    | some v => if x = 0 then v.1 else if x = 1 then v.2.1 else if x = 2 then v.2.2.2 else -1
    | none => -1) else -1
def countS (g : gS) (x : Int32) : Int32 := if x = 0 then nI g.2.1.length else if x = 1 then nI g.2.2.2.2.2.2.1 else if x = 2 then nI g.2.2.1 else if x = 3 then nI g.2.2.2.1 else if x = 4 then g.2.2.2.2.2.2.2.1 else -1
theorem FQ {w : mw} {ρ : Nat → Nat} {n a : Nat} {e : va_E} (h : ρ a = n) : FR w (mw_up w a e) (fun y => ρ y = n) := FR.up (P := fun y => ρ y = n) h
theorem ixL {q : Int32} (n : Nat) {y : Int32} (hy : y = nI n) (hn : n < 2 ^ 30) (h0 : 0 ≤ q) (h1 : q ≤ y) : ∃ j, j ≤ n ∧ q = nI j := by
  rcases pk_ix q (n := n + 1) (by omega) with z | z | ⟨j, hj, e⟩
  · exact absurd h0 (Int32.not_le.mpr z)
  · rw [hy] at h1
    have z2 := Int32.le_trans z h1
    rw [nI_leI (by omega) (by omega)] at z2
    omega
  · exact ⟨j, by omega, e⟩
theorem vC_of {x kd a n v : Int32} (h0 : 0 ≤ kd) (h5 : kd ≤ 5) (h : kd = 3 ∨ (1 ≤ n ∧ n ≤ 4 ∧ 0 ≤ a ∧ a ≤ 24 - n)) : vC (x, kd, a, n, v) := by
  obtain ⟨j, hj, rfl⟩ := ixL 5 rfl (by decide) h0 h5
  refine ⟨⟨j, hj, rfl⟩, ?_⟩
  rcases h with h | ⟨h1, h4, ha, h24⟩
  · exact Or.inl h
  · refine Or.inr ?_
    obtain ⟨nn, hn, rfl⟩ := ixL 4 rfl (by decide) (Int32.le_trans (by decide) h1) h4
    have hn1 : 1 ≤ nn := by
      rcases Nat.eq_zero_or_pos nn with z | z
      · subst z; exact absurd h1 (by decide)
      · exact z
    have e24 : (24 : Int32) - nI nn = nI (24 - nn) := pk_sub (a := 24) (b := nn) (by omega)
    rw [e24] at h24
    obtain ⟨aa, haa, rfl⟩ := ixL (24 - nn) rfl (by omega) ha h24
    have e1 : fsU (uof (x, nI j, nI aa, nI nn, v)) = aa := nI_c (by omega)
    have e2 : lnU (uof (x, nI j, nI aa, nI nn, v)) = nn := nI_c (by omega)
    refine ⟨?_, ?_, by rw [e2]; exact hn1, by rw [e2]; exact hn, by rw [e1, e2]; omega, bI_01 _⟩
    · rw [e1]; rfl
    · rw [e2]; rfl
theorem d_D_submit_0 : decode b_D_submit 0 = .ok (.iload_n 1, 1) := by decide +kernel
theorem d_D_submit_1 : decode b_D_submit 1 = .ok (.invokestatic 44, 3) := by decide +kernel
theorem d_D_submit_4 : decode b_D_submit 4 = .ok (.ifCond .eq 12, 3) := by decide +kernel
theorem d_D_submit_7 : decode b_D_submit 7 = .ok (.iload_n 2, 1) := by decide +kernel
theorem d_D_submit_8 : decode b_D_submit 8 = .ok (.ifCond .lt 8, 3) := by decide +kernel
theorem d_D_submit_11 : decode b_D_submit 11 = .ok (.iload_n 2, 1) := by decide +kernel
theorem d_D_submit_12 : decode b_D_submit 12 = .ok (.iconst 5, 1) := by decide +kernel
theorem d_D_submit_13 : decode b_D_submit 13 = .ok (.if_icmp .le 5, 3) := by decide +kernel
theorem d_D_submit_16 : decode b_D_submit 16 = .ok (.iconst (-1), 1) := by decide +kernel
theorem d_D_submit_17 : decode b_D_submit 17 = .ok (.ireturn, 1) := by decide +kernel
theorem d_D_submit_18 : decode b_D_submit 18 = .ok (.iload_n 2, 1) := by decide +kernel
theorem d_D_submit_19 : decode b_D_submit 19 = .ok (.iconst 3, 1) := by decide +kernel
theorem d_D_submit_20 : decode b_D_submit 20 = .ok (.if_icmp .eq 14, 3) := by decide +kernel
theorem d_D_submit_23 : decode b_D_submit 23 = .ok (.iload_n 3, 1) := by decide +kernel
theorem d_D_submit_24 : decode b_D_submit 24 = .ok (.iload 4, 2) := by decide +kernel
theorem d_D_submit_26 : decode b_D_submit 26 = .ok (.invokestatic 48, 3) := by decide +kernel
theorem d_D_submit_29 : decode b_D_submit 29 = .ok (.ifCond .ne 5, 3) := by decide +kernel
theorem d_D_submit_32 : decode b_D_submit 32 = .ok (.iconst (-1), 1) := by decide +kernel
theorem d_D_submit_33 : decode b_D_submit 33 = .ok (.ireturn, 1) := by decide +kernel
theorem d_D_submit_34 : decode b_D_submit 34 = .ok (.aload_n 0, 1) := by decide +kernel
theorem d_D_submit_35 : decode b_D_submit 35 = .ok (.getfield 35, 3) := by decide +kernel
theorem d_D_submit_38 : decode b_D_submit 38 = .ok (.iload_n 1, 1) := by decide +kernel
theorem d_D_submit_39 : decode b_D_submit 39 = .ok (.aaload, 1) := by decide +kernel
theorem d_D_submit_40 : decode b_D_submit 40 = .ok (.astore 6, 2) := by decide +kernel
theorem d_D_submit_42 : decode b_D_submit 42 = .ok (.aload 6, 2) := by decide +kernel
theorem d_D_submit_44 : decode b_D_submit 44 = .ok (.getfield 52, 3) := by decide +kernel
theorem d_D_submit_47 : decode b_D_submit 47 = .ok (.iconst 4, 1) := by decide +kernel
theorem d_D_submit_48 : decode b_D_submit 48 = .ok (.if_icmp .lt 6, 3) := by decide +kernel
theorem d_D_submit_51 : decode b_D_submit 51 = .ok (.bipush (-2), 2) := by decide +kernel
theorem d_D_submit_53 : decode b_D_submit 53 = .ok (.ireturn, 1) := by decide +kernel
theorem d_D_submit_54 : decode b_D_submit 54 = .ok (.aload_n 0, 1) := by decide +kernel
theorem d_D_submit_55 : decode b_D_submit 55 = .ok (.dup, 1) := by decide +kernel
theorem d_D_submit_56 : decode b_D_submit 56 = .ok (.getfield 56, 3) := by decide +kernel
theorem d_D_submit_59 : decode b_D_submit 59 = .ok (.iconst 1, 1) := by decide +kernel
theorem d_D_submit_60 : decode b_D_submit 60 = .ok (.iadd, 1) := by decide +kernel
theorem d_D_submit_61 : decode b_D_submit 61 = .ok (.putfield 56, 3) := by decide +kernel
theorem d_D_submit_64 : decode b_D_submit 64 = .ok (.aload 6, 2) := by decide +kernel
theorem d_D_submit_66 : decode b_D_submit 66 = .ok (.aload_n 0, 1) := by decide +kernel
theorem d_D_submit_67 : decode b_D_submit 67 = .ok (.getfield 56, 3) := by decide +kernel
theorem d_D_submit_70 : decode b_D_submit 70 = .ok (.iload_n 2, 1) := by decide +kernel
theorem d_D_submit_71 : decode b_D_submit 71 = .ok (.invokevirtual 59, 3) := by decide +kernel
theorem d_D_submit_74 : decode b_D_submit 74 = .ok (.astore 7, 2) := by decide +kernel
theorem d_D_submit_76 : decode b_D_submit 76 = .ok (.aload 7, 2) := by decide +kernel
theorem d_D_submit_78 : decode b_D_submit 78 = .ok (.getfield 63, 3) := by decide +kernel
theorem d_D_submit_81 : decode b_D_submit 81 = .ok (.iload_n 3, 1) := by decide +kernel
theorem d_D_submit_82 : decode b_D_submit 82 = .ok (.iload 4, 2) := by decide +kernel
theorem d_D_submit_84 : decode b_D_submit 84 = .ok (.iload 5, 2) := by decide +kernel
theorem d_D_submit_86 : decode b_D_submit 86 = .ok (.iload_n 2, 1) := by decide +kernel
theorem d_D_submit_87 : decode b_D_submit 87 = .ok (.iconst 4, 1) := by decide +kernel
theorem d_D_submit_88 : decode b_D_submit 88 = .ok (.if_icmp .ne 7, 3) := by decide +kernel
theorem d_D_submit_91 : decode b_D_submit 91 = .ok (.iconst 1, 1) := by decide +kernel
theorem d_D_submit_92 : decode b_D_submit 92 = .ok (.goto 4, 3) := by decide +kernel
theorem d_D_submit_95 : decode b_D_submit 95 = .ok (.iconst 0, 1) := by decide +kernel
theorem d_D_submit_96 : decode b_D_submit 96 = .ok (.invokevirtual 69, 3) := by decide +kernel
theorem d_D_submit_99 : decode b_D_submit 99 = .ok (.aload_n 0, 1) := by decide +kernel
theorem d_D_submit_100 : decode b_D_submit 100 = .ok (.getfield 56, 3) := by decide +kernel
theorem d_D_submit_103 : decode b_D_submit 103 = .ok (.ireturn, 1) := by decide +kernel
theorem d_D_step_0 : decode b_D_step 0 = .ok (.aload_n 0, 1) := by decide +kernel
theorem d_D_step_1 : decode b_D_step 1 = .ok (.iload_n 1, 1) := by decide +kernel
theorem d_D_step_2 : decode b_D_step 2 = .ok (.iload_n 2, 1) := by decide +kernel
theorem d_D_step_3 : decode b_D_step 3 = .ok (.invokevirtual 75, 3) := by decide +kernel
theorem d_D_step_6 : decode b_D_step 6 = .ok (.istore_n 3, 1) := by decide +kernel
theorem d_D_step_7 : decode b_D_step 7 = .ok (.iload_n 3, 1) := by decide +kernel
theorem d_D_step_8 : decode b_D_step 8 = .ok (.ifCond .eq 5, 3) := by decide +kernel
theorem d_D_step_11 : decode b_D_step 11 = .ok (.iload_n 3, 1) := by decide +kernel
theorem d_D_step_12 : decode b_D_step 12 = .ok (.ireturn, 1) := by decide +kernel
theorem d_D_step_13 : decode b_D_step 13 = .ok (.aload_n 0, 1) := by decide +kernel
theorem d_D_step_14 : decode b_D_step 14 = .ok (.getfield 35, 3) := by decide +kernel
theorem d_D_step_17 : decode b_D_step 17 = .ok (.iload_n 1, 1) := by decide +kernel
theorem d_D_step_18 : decode b_D_step 18 = .ok (.aaload, 1) := by decide +kernel
theorem d_D_step_19 : decode b_D_step 19 = .ok (.astore 4, 2) := by decide +kernel
theorem d_D_step_21 : decode b_D_step 21 = .ok (.aload 4, 2) := by decide +kernel
theorem d_D_step_23 : decode b_D_step 23 = .ok (.getfield 78, 3) := by decide +kernel
theorem d_D_step_26 : decode b_D_step 26 = .ok (.iload_n 2, 1) := by decide +kernel
theorem d_D_step_27 : decode b_D_step 27 = .ok (.aaload, 1) := by decide +kernel
theorem d_D_step_28 : decode b_D_step 28 = .ok (.astore 5, 2) := by decide +kernel
theorem d_D_step_30 : decode b_D_step 30 = .ok (.aload_n 0, 1) := by decide +kernel
theorem d_D_step_31 : decode b_D_step 31 = .ok (.aload 5, 2) := by decide +kernel
theorem d_D_step_33 : decode b_D_step 33 = .ok (.bipush 28, 2) := by decide +kernel
theorem d_D_step_35 : decode b_D_step 35 = .ok (.invokevirtual 82, 3) := by decide +kernel
theorem d_D_step_38 : decode b_D_step 38 = .ok (.lstore 6, 2) := by decide +kernel
theorem d_D_step_40 : decode b_D_step 40 = .ok (.aload 4, 2) := by decide +kernel
theorem d_D_step_42 : decode b_D_step 42 = .ok (.iload_n 2, 1) := by decide +kernel
theorem d_D_step_43 : decode b_D_step 43 = .ok (.invokevirtual 86, 3) := by decide +kernel
theorem d_D_step_46 : decode b_D_step 46 = .ok (.aload 4, 2) := by decide +kernel
theorem d_D_step_48 : decode b_D_step 48 = .ok (.aload 5, 2) := by decide +kernel
theorem d_D_step_50 : decode b_D_step 50 = .ok (.getfield 89, 3) := by decide +kernel
theorem d_D_step_53 : decode b_D_step 53 = .ok (.lload 6, 2) := by decide +kernel
theorem d_D_step_55 : decode b_D_step 55 = .ok (.invokevirtual 92, 3) := by decide +kernel
theorem d_D_step_58 : decode b_D_step 58 = .ok (.aload 5, 2) := by decide +kernel
theorem d_D_step_60 : decode b_D_step 60 = .ok (.getfield 89, 3) := by decide +kernel
theorem d_D_step_63 : decode b_D_step 63 = .ok (.ireturn, 1) := by decide +kernel
theorem d_D_take_0 : decode b_D_take 0 = .ok (.iload_n 1, 1) := by decide +kernel
theorem d_D_take_1 : decode b_D_take 1 = .ok (.invokestatic 44, 3) := by decide +kernel
theorem d_D_take_4 : decode b_D_take 4 = .ok (.ifCond .eq 15, 3) := by decide +kernel
theorem d_D_take_7 : decode b_D_take 7 = .ok (.aload_n 0, 1) := by decide +kernel
theorem d_D_take_8 : decode b_D_take 8 = .ok (.getfield 35, 3) := by decide +kernel
theorem d_D_take_11 : decode b_D_take 11 = .ok (.iload_n 1, 1) := by decide +kernel
theorem d_D_take_12 : decode b_D_take 12 = .ok (.aaload, 1) := by decide +kernel
theorem d_D_take_13 : decode b_D_take 13 = .ok (.getfield 96, 3) := by decide +kernel
theorem d_D_take_16 : decode b_D_take 16 = .ok (.ifCond .ne 5, 3) := by decide +kernel
theorem d_D_take_19 : decode b_D_take 19 = .ok (.iconst (-1), 1) := by decide +kernel
theorem d_D_take_20 : decode b_D_take 20 = .ok (.ireturn, 1) := by decide +kernel
theorem d_D_take_21 : decode b_D_take 21 = .ok (.aload_n 0, 1) := by decide +kernel
theorem d_D_take_22 : decode b_D_take 22 = .ok (.getfield 35, 3) := by decide +kernel
theorem d_D_take_25 : decode b_D_take 25 = .ok (.iload_n 1, 1) := by decide +kernel
theorem d_D_take_26 : decode b_D_take 26 = .ok (.aaload, 1) := by decide +kernel
theorem d_D_take_27 : decode b_D_take 27 = .ok (.astore_n 2, 1) := by decide +kernel
theorem d_D_take_28 : decode b_D_take 28 = .ok (.aload_n 0, 1) := by decide +kernel
theorem d_D_take_29 : decode b_D_take 29 = .ok (.aload_n 2, 1) := by decide +kernel
theorem d_D_take_30 : decode b_D_take 30 = .ok (.getfield 99, 3) := by decide +kernel
theorem d_D_take_33 : decode b_D_take 33 = .ok (.iconst 0, 1) := by decide +kernel
theorem d_D_take_34 : decode b_D_take 34 = .ok (.iaload, 1) := by decide +kernel
theorem d_D_take_35 : decode b_D_take 35 = .ok (.putfield 103, 3) := by decide +kernel
theorem d_D_take_38 : decode b_D_take 38 = .ok (.aload_n 0, 1) := by decide +kernel
theorem d_D_take_39 : decode b_D_take 39 = .ok (.aload_n 2, 1) := by decide +kernel
theorem d_D_take_40 : decode b_D_take 40 = .ok (.getfield 106, 3) := by decide +kernel
theorem d_D_take_43 : decode b_D_take 43 = .ok (.iconst 0, 1) := by decide +kernel
theorem d_D_take_44 : decode b_D_take 44 = .ok (.laload, 1) := by decide +kernel
theorem d_D_take_45 : decode b_D_take 45 = .ok (.putfield 40, 3) := by decide +kernel
theorem d_D_take_48 : decode b_D_take 48 = .ok (.aload_n 2, 1) := by decide +kernel
theorem d_D_take_49 : decode b_D_take 49 = .ok (.invokevirtual 109, 3) := by decide +kernel
theorem d_D_take_52 : decode b_D_take 52 = .ok (.aload_n 0, 1) := by decide +kernel
theorem d_D_take_53 : decode b_D_take 53 = .ok (.getfield 103, 3) := by decide +kernel
theorem d_D_take_56 : decode b_D_take 56 = .ok (.ireturn, 1) := by decide +kernel
theorem d_D_result_0 : decode b_D_result 0 = .ok (.aload_n 0, 1) := by decide +kernel
theorem d_D_result_1 : decode b_D_result 1 = .ok (.getfield 40, 3) := by decide +kernel
theorem d_D_result_4 : decode b_D_result 4 = .ok (.lreturn, 1) := by decide +kernel
theorem d_D_reset_0 : decode b_D_reset 0 = .ok (.aload_n 0, 1) := by decide +kernel
theorem d_D_reset_1 : decode b_D_reset 1 = .ok (.invokevirtual 112, 3) := by decide +kernel
theorem d_D_reset_4 : decode b_D_reset 4 = .ok (.ireturn, 1) := by decide +kernel
theorem d_D_power_0 : decode b_D_power 0 = .ok (.aload_n 0, 1) := by decide +kernel
theorem d_D_power_1 : decode b_D_power 1 = .ok (.invokevirtual 116, 3) := by decide +kernel
theorem d_D_power_4 : decode b_D_power 4 = .ok (.ireturn, 1) := by decide +kernel
theorem d_D_powerDuring_0 : decode b_D_powerDuring 0 = .ok (.iload_n 3, 1) := by decide +kernel
theorem d_D_powerDuring_1 : decode b_D_powerDuring 1 = .ok (.ifCond .lt 9, 3) := by decide +kernel
theorem d_D_powerDuring_4 : decode b_D_powerDuring 4 = .ok (.iload_n 3, 1) := by decide +kernel
theorem d_D_powerDuring_5 : decode b_D_powerDuring 5 = .ok (.bipush 30, 2) := by decide +kernel
theorem d_D_powerDuring_7 : decode b_D_powerDuring 7 = .ok (.if_icmp .le 5, 3) := by decide +kernel
theorem d_D_powerDuring_10 : decode b_D_powerDuring 10 = .ok (.iconst (-1), 1) := by decide +kernel
theorem d_D_powerDuring_11 : decode b_D_powerDuring 11 = .ok (.ireturn, 1) := by decide +kernel
theorem d_D_powerDuring_12 : decode b_D_powerDuring 12 = .ok (.aload_n 0, 1) := by decide +kernel
theorem d_D_powerDuring_13 : decode b_D_powerDuring 13 = .ok (.iload_n 1, 1) := by decide +kernel
theorem d_D_powerDuring_14 : decode b_D_powerDuring 14 = .ok (.iload_n 2, 1) := by decide +kernel
theorem d_D_powerDuring_15 : decode b_D_powerDuring 15 = .ok (.invokevirtual 75, 3) := by decide +kernel
theorem d_D_powerDuring_18 : decode b_D_powerDuring 18 = .ok (.istore 4, 2) := by decide +kernel
theorem d_D_powerDuring_20 : decode b_D_powerDuring 20 = .ok (.iload 4, 2) := by decide +kernel
theorem d_D_powerDuring_22 : decode b_D_powerDuring 22 = .ok (.ifCond .eq 6, 3) := by decide +kernel
theorem d_D_powerDuring_25 : decode b_D_powerDuring 25 = .ok (.iload 4, 2) := by decide +kernel
theorem d_D_powerDuring_27 : decode b_D_powerDuring 27 = .ok (.ireturn, 1) := by decide +kernel
theorem d_D_powerDuring_28 : decode b_D_powerDuring 28 = .ok (.aload_n 0, 1) := by decide +kernel
theorem d_D_powerDuring_29 : decode b_D_powerDuring 29 = .ok (.aload_n 0, 1) := by decide +kernel
theorem d_D_powerDuring_30 : decode b_D_powerDuring 30 = .ok (.getfield 35, 3) := by decide +kernel
theorem d_D_powerDuring_33 : decode b_D_powerDuring 33 = .ok (.iload_n 1, 1) := by decide +kernel
theorem d_D_powerDuring_34 : decode b_D_powerDuring 34 = .ok (.aaload, 1) := by decide +kernel
theorem d_D_powerDuring_35 : decode b_D_powerDuring 35 = .ok (.getfield 78, 3) := by decide +kernel
theorem d_D_powerDuring_38 : decode b_D_powerDuring 38 = .ok (.iload_n 2, 1) := by decide +kernel
theorem d_D_powerDuring_39 : decode b_D_powerDuring 39 = .ok (.aaload, 1) := by decide +kernel
theorem d_D_powerDuring_40 : decode b_D_powerDuring 40 = .ok (.iload_n 3, 1) := by decide +kernel
theorem d_D_powerDuring_41 : decode b_D_powerDuring 41 = .ok (.invokevirtual 82, 3) := by decide +kernel
theorem d_D_powerDuring_44 : decode b_D_powerDuring 44 = .ok (.pop2, 1) := by decide +kernel
theorem d_D_powerDuring_45 : decode b_D_powerDuring 45 = .ok (.aload_n 0, 1) := by decide +kernel
theorem d_D_powerDuring_46 : decode b_D_powerDuring 46 = .ok (.invokevirtual 116, 3) := by decide +kernel
theorem d_D_powerDuring_49 : decode b_D_powerDuring 49 = .ok (.pop, 1) := by decide +kernel
theorem d_D_powerDuring_50 : decode b_D_powerDuring 50 = .ok (.iload_n 3, 1) := by decide +kernel
theorem d_D_powerDuring_51 : decode b_D_powerDuring 51 = .ok (.aload_n 0, 1) := by decide +kernel
theorem d_D_powerDuring_52 : decode b_D_powerDuring 52 = .ok (.getfield 119, 3) := by decide +kernel
theorem d_D_powerDuring_55 : decode b_D_powerDuring 55 = .ok (.isub, 1) := by decide +kernel
theorem d_D_powerDuring_56 : decode b_D_powerDuring 56 = .ok (.ireturn, 1) := by decide +kernel
theorem va_up_id {α : Type} {f : Nat → α} {j : Nat} : va_up f j (f j) = f := by
  funext i
  by_cases h : i = j
  · subst h; simp [va_up]
  · simp [va_up, h]
set_option maxHeartbeats 4000000 in
set_option maxRecDepth 100000 in
theorem m_D_submit {l : Launch} {D : va_G} {cA : Nat → ClassId} {n0 : Nat} {w : mw} {ρ k : Nat → Nat} {L : Nat} {fl : Nat → Int64} {us : List uU} {sn pw : Nat} {pq : Nat → List pC} {cq : Nat → List (Int32 × Int64)} {ln : Nat} {tn : Int32} {tr : Int64} (Y : DR cA w ρ k L (fl, us, sn, pw, pq, cq, ln, tn, tr)) {q kd a n v : Int32} :
    Mi l D cA n0 y_D_submit c_D_submit (rmd 1) [.ref (k 0), .int q, .int kd, .int a, .int n, .int v] w (fun r w' => r = (submitS (fl, us, sn, pw, pq, cq, ln, tn, tr) q kd a n v).1 ∧ DR cA w' ρ k L (submitS (fl, us, sn, pw, pq, cq, ln, tn, tr) q kd a n v).2 ∧ FR w w' (RG ρ)) := by
  refine mw_met (cc := b_D_submit) (maxL := 8) (ret := (some .int)) (by decide) rfl (Nat.le_of_ble_eq_true rfl) ?_
  intro p e s m below meth c ls G hrt hlocks hname h hl
  have G : mw_G p m c b_D_submit 8 s _ (c_D_submit :: TB) R_D D cl (tys cA) n0 := G
  have hx := G.1.1
  have hb := G.1.2.1
  have hl : lv_has ls 8 [(0, .ref (k 0)), (1, .int q), (2, .int kd), (3, .int a), (4, .int n), (5, .int v)] := hl
  obtain ⟨pl, Z⟩ := id Y
  have Z : DRp cA w ρ k L fl us sn pw pq cq ln tn tr pl := Z
  obtain ⟨K0, ⟨qf, hq1, hq2⟩, hQ, r0, r1, r4, hL1, hvC⟩ := id Z
  have hD : w (k 0) = some (dcell (k 1) (k 2) (k 4) ln tn tr sn pw pl) := K0.1
  refine lv_iload_n hx hb d_D_submit_0 rfl (lv_at hl 1 rfl) ?_
  refine mx_ci (cS (As := [.int q]) (rest := []) G h (m_D_isQueue (x := q)) k_149 k_150 k_1 k_151 rfl hd_D_isQueue rfl rfl ⟨Nat.le_of_ble_eq_true rfl, Nat.le_of_ble_eq_true rfl⟩ rfl hl.1 rfl (Nat.le_of_ble_eq_true rfl) d_D_submit_1 ⟨Nat.le_of_ble_eq_true rfl, Nat.le_of_ble_eq_true rfl⟩) h (fun r_2 w_1 H locs h hcp => ?_)
  obtain ⟨er_3, ew_4⟩ := hcp
  subst er_3
  rw [ew_4] at h
  refine lv_if_eq (tgt := 16) hx hb d_D_submit_4 (by decide) (fun c_5 => ?_) (fun c_5 => ?_)
  · refine lv_iconst (v := (-1)) hx hb d_D_submit_16 (by decide) ?_
    have e9 : submitS (fl, us, sn, pw, pq, cq, ln, tn, tr) q kd a n v = (-1, (fl, us, sn, pw, pq, cq, ln, tn, tr)) := by simp only [submitS]; rw [if_neg (fun z => bI_0 c_5 z.1)]
    exact mx_reti G h hrt hlocks d_D_submit_17 (by rw [e9]; exact ⟨rfl, Y, FR.rf⟩)
  · refine lv_iload_n hx hb d_D_submit_7 rfl (lv_at hl 2 rfl) ?_
    refine lv_if_lt (tgt := 16) hx hb d_D_submit_8 (by decide) (fun c_6 => ?_) (fun c_6 => ?_)
    · refine lv_iconst (v := (-1)) hx hb d_D_submit_16 (by decide) ?_
      have e9 : submitS (fl, us, sn, pw, pq, cq, ln, tn, tr) q kd a n v = (-1, (fl, us, sn, pw, pq, cq, ln, tn, tr)) := by simp only [submitS]; rw [if_neg (fun z => absurd z.2.1 (Int32.not_le.mpr c_6))]
      exact mx_reti G h hrt hlocks d_D_submit_17 (by rw [e9]; exact ⟨rfl, Y, FR.rf⟩)
    · refine lv_iload_n hx hb d_D_submit_11 rfl (lv_at hl 2 rfl) ?_
      refine lv_iconst (v := 5) hx hb d_D_submit_12 (by decide) ?_
      refine lv_icmp_le (tgt := 18) hx hb d_D_submit_13 (by decide) (fun c_7 => ?_) (fun c_7 => ?_)
      · have hk0 : 0 ≤ kd := Int32.not_lt.mp c_6
        have hk5 : kd ≤ 5 := c_7
        have hi3 := bI_n c_5
        obtain ⟨j, hj, hqj⟩ := ixQ 3 rfl (by decide) hi3.1 hi3.2
        have hqc : q.toNatClampNeg = j := by rw [hqj]; exact nI_c (by omega)
        obtain ⟨f, g, gu, fn, fr, hX⟩ := hQ j hj
        have hX1 := hX.1
        have main : (kd = 3 ∨ (1 ≤ n ∧ n ≤ 4 ∧ 0 ≤ a ∧ a ≤ 24 - n)) → ∀ (H : Heap) (locs : List Loc), mw_H n0 D cl s w H locs → W p l e (rmd 1) s m ([.ref (k 0), .int q, .int kd, .int a, .int n, .int v] : List Value).toArray below meth c H locs 0 0 (MQ below (mw_Qi n0 D cl (fun r w' => r = (submitS (fl, us, sn, pw, pq, cq, ln, tn, tr) q kd a n v).1 ∧ DR cA w' ρ k L (submitS (fl, us, sn, pw, pq, cq, ln, tn, tr) q kd a n v).2 ∧ FR w w' (RG ρ))) ([.ref (k 0), .int q, .int kd, .int a, .int n, .int v] : List Value).toArray s 0 0 (mw_A n0)) (F0 m 34 ls []) := by
          intro hok H locs h
          refine lv_aload_n hx hb d_D_submit_34 rfl (lv_at hl 0 rfl) ?_
          refine mx_get G h hD rfl 2 (by decide) (tb_in in_D) (tb_c k_119) rfl rfl d_D_submit_35 ?_
          refine lv_iload_n hx hb d_D_submit_38 rfl (lv_at hl 1 rfl) ?_
          refine ax_a G h 5 hq1 rfl j hqj hj (by decide) (hq2 j hj) d_D_submit_39 ?_
          refine lv_astore (lv' := [(6, .ref (k (5 + j))), (0, .ref (k 0)), (1, .int q), (2, .int kd), (3, .int a), (4, .int n), (5, .int v)]) hx hb d_D_submit_40 hl (by decide) rfl (fun ls hl => ?_)
          refine lv_aload hx hb d_D_submit_42 (lv_at hl 0 rfl) ?_
          refine mx_get G h hX1 rfl 3 (by decide) (tb_in in_Q) (tb_c k_102) rfl rfl d_D_submit_44 ?_
          refine lv_iconst (v := 4) hx hb d_D_submit_47 (by decide) ?_
          have hps4 := hX.2.2.2.2.1
          refine lv_icmp_lt (tgt := 54) hx hb d_D_submit_48 (by decide) (fun c_8 => ?_) (fun c_8 => ?_)
          · have hlt : (pq j).length < 4 := (nI_ltI (by omega) (by decide)).mp c_8
            refine lv_aload_n hx hb d_D_submit_54 rfl (lv_at hl 1 rfl) ?_
            refine lv_dup hx hb d_D_submit_55 rfl ?_
            refine mx_get G h hD rfl 3 (by decide) (tb_in in_D) (tb_c k_120) rfl rfl d_D_submit_56 ?_
            refine lv_iconst (v := 1) hx hb d_D_submit_59 (by decide) ?_
            refine lv_iadd hx hb d_D_submit_60 ?_
            have et_9 : (nI ln) + 1 = nI (ln + 1) := nI_1 ln
            rw [et_9]
            refine mx_put G h hD rfl 3 (by decide) (tb_in in_D) t_D t_D_ok n_D (tb_c k_120) rfl rfl rfl rfl rfl (Nat.le_of_ble_eq_true rfl) d_D_submit_61 (fun H locs h => ?_)
            have h : mw_H n0 D cl s (mw_up w (k 0) (.inr (0, [.ref (k 1), .ref (k 2), .ref (k 4), .int (nI (ln + 1)), .int tn, .long tr, .int (nI sn), .int (nI pw), .int (nI pl)]))) H locs := h
            obtain ⟨w_10, ew_10⟩ : ∃ xx : mw, mw_up w (k 0) (.inr (0, [.ref (k 1), .ref (k 2), .ref (k 4), .int (nI (ln + 1)), .int tn, .long tr, .int (nI sn), .int (nI pw), .int (nI pl)])) = xx := ⟨_, rfl⟩
            rw [ew_10] at h
            have f_11 : w_10 (k 0) = some (.inr (0, [.ref (k 1), .ref (k 2), .ref (k 4), .int (nI (ln + 1)), .int tn, .long tr, .int (nI sn), .int (nI pw), .int (nI pl)])) := by rw [← ew_10]; exact mw_self
            have Z1 : DRp cA w_10 ρ k L fl us sn pw pq cq (ln + 1) tn tr pl := by rw [← ew_10]; exact Z.core (K0.put (ln + 1) tn tr pl) (FR.up (Or.inl rfl))
            have hfr1 : FR w w_10 (RG ρ) := by rw [← ew_10]; exact FR.up (RG_P Z (Or.inl rfl))
            obtain ⟨f, g, gu, fn, fr, hX⟩ := Z1.2.2.1 j hj
            obtain ⟨hfl, hSg, hSu, y1, z1, u1, hgl, hul⟩ := hX.2.2.2.2.2.2.1 _ hlt
            refine lv_aload hx hb d_D_submit_64 (lv_at hl 0 rfl) ?_
            refine lv_aload_n hx hb d_D_submit_66 rfl (lv_at hl 1 rfl) ?_
            refine mx_get G h f_11 rfl 3 (by decide) (tb_in in_D) (tb_c k_120) rfl rfl d_D_submit_67 ?_
            refine lv_iload_n hx hb d_D_submit_70 rfl (lv_at hl 3 rfl) ?_
            refine mx_cr (cV (As := [.int (nI (ln + 1)), .int kd]) (rest := []) G h (m_Q_addPending hX.1 hX.2.1 hlt hfl hgl (x := nI (ln + 1)) (k := kd)) k_155 k_156 k_157 k_5 k_158 hd_Q_addPending rfl rfl ⟨Nat.le_of_ble_eq_true rfl, Nat.le_of_ble_eq_true rfl⟩ hX.1 rfl rfl hl.1 rfl (Nat.le_of_ble_eq_true rfl) d_D_submit_71 ⟨Nat.le_of_ble_eq_true rfl, Nat.le_of_ble_eq_true rfl⟩) h (fun r_13 w_12 H locs h hcp => ?_)
            obtain ⟨er, ew⟩ := hcp
            subst er
            subst ew
            have hg2 : (mw_up (mw_up w_10 (g (pq j).length) (kcell (gu (pq j).length) (nI (ln + 1)) kd)) (k (5 + j)) (qcell (k (8 + j)) (k (11 + j)) (k (14 + j)) ((pq j).length + 1) (cq j).length)) (g (pq j).length) = some (kcell (gu (pq j).length) (nI (ln + 1)) kd) := by rw [mw_ne (mw_apart hgl hX.1 (by simp))]; exact mw_self
            have hu2 : (mw_up (mw_up w_10 (g (pq j).length) (kcell (gu (pq j).length) (nI (ln + 1)) kd)) (k (5 + j)) (qcell (k (8 + j)) (k (11 + j)) (k (14 + j)) ((pq j).length + 1) (cq j).length)) (gu (pq j).length) = some (ucell u1) := by rw [mw_ne (mw_apart hul hX.1 (by simp)), mw_ne (mw_apart hul hgl (by simp))]; exact hul
            refine lv_astore (lv' := [(7, .ref (g (pq j).length)), (6, .ref (k (5 + j))), (0, .ref (k 0)), (1, .int q), (2, .int kd), (3, .int a), (4, .int n), (5, .int v)]) hx hb d_D_submit_74 hl (by decide) rfl (fun ls hl => ?_)
            refine lv_aload hx hb d_D_submit_76 (lv_at hl 0 rfl) ?_
            refine mx_get G h hg2 rfl 0 (by decide) (tb_in in_K) (tb_c k_83) rfl rfl d_D_submit_78 ?_
            refine lv_iload_n hx hb d_D_submit_81 rfl (lv_at hl 5 rfl) ?_
            refine lv_iload hx hb d_D_submit_82 (lv_at hl 6 rfl) ?_
            refine lv_iload hx hb d_D_submit_84 (lv_at hl 7 rfl) ?_
            refine lv_iload_n hx hb d_D_submit_86 rfl (lv_at hl 4 rfl) ?_
            refine lv_iconst (v := 4) hx hb d_D_submit_87 (by decide) ?_
            refine lv_icmp_ne (tgt := 95) hx hb d_D_submit_88 (by decide) (fun c_14 => ?_) (fun c_14 => ?_)
            · refine lv_iconst (v := 0) hx hb d_D_submit_95 (by decide) ?_
              refine mx_cv (cV (As := [.int a, .int n, .int v, .int 0]) (rest := []) G h (m_U_set hu2 (x1 := a) (x2 := n) (x3 := v) (x4 := 0) (by decide)) k_159 k_160 k_161 k_4 k_162 hd_U_set rfl rfl ⟨Nat.le_of_ble_eq_true rfl, Nat.le_of_ble_eq_true rfl⟩ hu2 rfl rfl hl.1 rfl (Nat.le_of_ble_eq_true rfl) d_D_submit_96 ⟨Nat.le_of_ble_eq_true rfl, Nat.le_of_ble_eq_true rfl⟩) h (fun w_15 H locs h hcp => ?_)
              have hz : 0 = bI (kd = 4) := (bI_f c_14).symm
              have ew : w_15 = mw_up (mw_up (mw_up w_10 (g (pq j).length) (kcell (gu (pq j).length) (nI (ln + 1)) kd)) (k (5 + j)) (qcell (k (8 + j)) (k (11 + j)) (k (14 + j)) ((pq j).length + 1) (cq j).length)) (gu (pq j).length) (ucell (uof (nI (ln + 1), kd, a, n, v))) := by rw [hcp, hz]; rfl
              have Z3 : DRp cA w_15 ρ k L fl us sn pw (va_up pq j (pq j ++ [(nI (ln + 1), kd, a, n, v)])) (va_up cq j (cq j)) (ln + 1) tn tr pl := by rw [ew]; exact Z1.queue hj ⟨_, _, _, _, _, hX.push hlt (nI (ln + 1), kd, a, n, v)⟩ (fun c hc => (List.mem_append.mp hc).elim (hvC j hj c) (fun z => by rw [List.mem_singleton.mp z]; exact vC_of hk0 hk5 hok)) (((FQ hSg).tr (FQ hX.2.2.2.2.2.2.2.2.2.2.2.1)).tr (FQ hSu))
              have hfr3 : FR w w_15 (RG ρ) := hfr1.tr (by rw [ew]; exact ((FR.up (RG_Q hj hSg)).tr (FR.up (RG_Q hj hX.2.2.2.2.2.2.2.2.2.2.2.1))).tr (FR.up (RG_Q hj hSu)))
              have hD3 := Z3.1.1
              refine lv_aload_n hx hb d_D_submit_99 rfl (lv_at hl 2 rfl) ?_
              refine mx_get G h hD3 rfl 3 (by decide) (tb_in in_D) (tb_c k_120) rfl rfl d_D_submit_100 ?_
              have e9 : submitS (fl, us, sn, pw, pq, cq, ln, tn, tr) q kd a n v = (nI (ln + 1), (fl, us, sn, pw, va_up pq j (pq j ++ [(nI (ln + 1), kd, a, n, v)]), cq, ln + 1, tn, tr)) := by simp only [submitS]; rw [if_pos ⟨hi3, hk0, hk5⟩, if_pos hok, hqc, if_neg (by omega)]
              exact mx_reti G h hrt hlocks d_D_submit_103 (by rw [e9]; exact ⟨rfl, ⟨pl, by rw [va_up_id] at Z3; exact Z3⟩, hfr3⟩)
            · refine lv_iconst (v := 1) hx hb d_D_submit_91 (by decide) ?_
              refine lv_goto (tgt := 96) hx hb d_D_submit_92 (by decide) ?_
              refine mx_cv (cV (As := [.int a, .int n, .int v, .int 1]) (rest := []) G h (m_U_set hu2 (x1 := a) (x2 := n) (x3 := v) (x4 := 1) (by decide)) k_159 k_160 k_161 k_4 k_162 hd_U_set rfl rfl ⟨Nat.le_of_ble_eq_true rfl, Nat.le_of_ble_eq_true rfl⟩ hu2 rfl rfl hl.1 rfl (Nat.le_of_ble_eq_true rfl) d_D_submit_96 ⟨Nat.le_of_ble_eq_true rfl, Nat.le_of_ble_eq_true rfl⟩) h (fun w_16 H locs h hcp => ?_)
              have hz : 1 = bI (kd = 4) := (bI_t c_14).symm
              have ew : w_16 = mw_up (mw_up (mw_up w_10 (g (pq j).length) (kcell (gu (pq j).length) (nI (ln + 1)) kd)) (k (5 + j)) (qcell (k (8 + j)) (k (11 + j)) (k (14 + j)) ((pq j).length + 1) (cq j).length)) (gu (pq j).length) (ucell (uof (nI (ln + 1), kd, a, n, v))) := by rw [hcp, hz]; rfl
              have Z3 : DRp cA w_16 ρ k L fl us sn pw (va_up pq j (pq j ++ [(nI (ln + 1), kd, a, n, v)])) (va_up cq j (cq j)) (ln + 1) tn tr pl := by rw [ew]; exact Z1.queue hj ⟨_, _, _, _, _, hX.push hlt (nI (ln + 1), kd, a, n, v)⟩ (fun c hc => (List.mem_append.mp hc).elim (hvC j hj c) (fun z => by rw [List.mem_singleton.mp z]; exact vC_of hk0 hk5 hok)) (((FQ hSg).tr (FQ hX.2.2.2.2.2.2.2.2.2.2.2.1)).tr (FQ hSu))
              have hfr3 : FR w w_16 (RG ρ) := hfr1.tr (by rw [ew]; exact ((FR.up (RG_Q hj hSg)).tr (FR.up (RG_Q hj hX.2.2.2.2.2.2.2.2.2.2.2.1))).tr (FR.up (RG_Q hj hSu)))
              have hD3 := Z3.1.1
              refine lv_aload_n hx hb d_D_submit_99 rfl (lv_at hl 2 rfl) ?_
              refine mx_get G h hD3 rfl 3 (by decide) (tb_in in_D) (tb_c k_120) rfl rfl d_D_submit_100 ?_
              have e9 : submitS (fl, us, sn, pw, pq, cq, ln, tn, tr) q kd a n v = (nI (ln + 1), (fl, us, sn, pw, va_up pq j (pq j ++ [(nI (ln + 1), kd, a, n, v)]), cq, ln + 1, tn, tr)) := by simp only [submitS]; rw [if_pos ⟨hi3, hk0, hk5⟩, if_pos hok, hqc, if_neg (by omega)]
              exact mx_reti G h hrt hlocks d_D_submit_103 (by rw [e9]; exact ⟨rfl, ⟨pl, by rw [va_up_id] at Z3; exact Z3⟩, hfr3⟩)
          · refine lv_bipush (v := -2) hx hb d_D_submit_51 (by decide) ?_
            have hge : 4 ≤ (pq j).length := Nat.not_lt.mp (fun z => c_8 ((nI_ltI (by omega) (by decide)).mpr z))
            have e9 : submitS (fl, us, sn, pw, pq, cq, ln, tn, tr) q kd a n v = (-2, (fl, us, sn, pw, pq, cq, ln, tn, tr)) := by simp only [submitS]; rw [if_pos ⟨hi3, hk0, hk5⟩, if_pos hok, hqc, if_pos hge]
            exact mx_reti G h hrt hlocks d_D_submit_53 (by rw [e9]; exact ⟨rfl, Y, FR.rf⟩)
        refine lv_iload_n hx hb d_D_submit_18 rfl (lv_at hl 2 rfl) ?_
        refine lv_iconst (v := 3) hx hb d_D_submit_19 (by decide) ?_
        refine lv_icmp_eq (tgt := 34) hx hb d_D_submit_20 (by decide) (fun c_17 => ?_) (fun c_17 => ?_)
        · exact main (Or.inl c_17) H locs h
        · refine lv_iload_n hx hb d_D_submit_23 rfl (lv_at hl 3 rfl) ?_
          refine lv_iload hx hb d_D_submit_24 (lv_at hl 4 rfl) ?_
          refine mx_ci (cS (As := [.int a, .int n]) (rest := []) G h (m_D_areAddresses (x := a) (n := n)) k_152 k_153 k_1 k_154 rfl hd_D_areAddresses rfl rfl ⟨Nat.le_of_ble_eq_true rfl, Nat.le_of_ble_eq_true rfl⟩ rfl hl.1 rfl (Nat.le_of_ble_eq_true rfl) d_D_submit_26 ⟨Nat.le_of_ble_eq_true rfl, Nat.le_of_ble_eq_true rfl⟩) h (fun r_19 w_18 H locs h hcp => ?_)
          obtain ⟨er_20, ew_21⟩ := hcp
          subst er_20
          rw [ew_21] at h
          refine lv_if_ne (tgt := 34) hx hb d_D_submit_29 (by decide) (fun c_22 => ?_) (fun c_22 => ?_)
          · exact main (Or.inr (bI_n c_22)) H locs h
          · refine lv_iconst (v := (-1)) hx hb d_D_submit_32 (by decide) ?_
            have e9 : submitS (fl, us, sn, pw, pq, cq, ln, tn, tr) q kd a n v = (-1, (fl, us, sn, pw, pq, cq, ln, tn, tr)) := by simp only [submitS]; rw [if_pos ⟨hi3, hk0, hk5⟩, if_neg (fun z => z.elim c_17 (bI_0 c_22))]
            exact mx_reti G h hrt hlocks d_D_submit_33 (by rw [e9]; exact ⟨rfl, Y, FR.rf⟩)
      · refine lv_iconst (v := (-1)) hx hb d_D_submit_16 (by decide) ?_
        have e9 : submitS (fl, us, sn, pw, pq, cq, ln, tn, tr) q kd a n v = (-1, (fl, us, sn, pw, pq, cq, ln, tn, tr)) := by simp only [submitS]; rw [if_neg (fun z => absurd z.2.2 c_7)]
        exact mx_reti G h hrt hlocks d_D_submit_17 (by rw [e9]; exact ⟨rfl, Y, FR.rf⟩)
set_option maxHeartbeats 4000000 in
set_option maxRecDepth 100000 in
theorem m_D_step {l : Launch} {D : va_G} {cA : Nat → ClassId} {n0 : Nat} {w : mw} {ρ k : Nat → Nat} {L : Nat} {fl : Nat → Int64} {us : List uU} {sn pw : Nat} {pq : Nat → List pC} {cq : Nat → List (Int32 × Int64)} {ln : Nat} {tn : Int32} {tr : Int64} (Y : DR cA w ρ k L (fl, us, sn, pw, pq, cq, ln, tn, tr)) {q x : Int32} :
    Mi l D cA n0 y_D_step c_D_step (rmd 6) [.ref (k 0), .int q, .int x] w (fun r w' => r = (stepS L (fl, us, sn, pw, pq, cq, ln, tn, tr) q x).1 ∧ DR cA w' ρ k L (stepS L (fl, us, sn, pw, pq, cq, ln, tn, tr) q x).2 ∧ FR w w' (RG ρ)) := by
  refine mw_met (cc := b_D_step) (maxL := 8) (ret := (some .int)) (by decide) rfl (Nat.le_of_ble_eq_true rfl) ?_
  intro p e s m below meth c ls G hrt hlocks hname h hl
  have G : mw_G p m c b_D_step 8 s _ (c_D_step :: TB) R_D D cl (tys cA) n0 := G
  have hx := G.1.1
  have hb := G.1.2.1
  have hl : lv_has ls 8 [(0, .ref (k 0)), (1, .int q), (2, .int x)] := hl
  obtain ⟨pl, Z⟩ := id Y
  have Z : DRp cA w ρ k L fl us sn pw pq cq ln tn tr pl := Z
  obtain ⟨K0, ⟨qf, hq1, hq2⟩, hQ, r0, r1, r4, hL1, hvC⟩ := id Z
  have hD : w (k 0) = some (dcell (k 1) (k 2) (k 4) ln tn tr sn pw pl) := K0.1
  refine lv_aload_n hx hb d_D_step_0 rfl (lv_at hl 0 rfl) ?_
  refine lv_iload_n hx hb d_D_step_1 rfl (lv_at hl 1 rfl) ?_
  refine lv_iload_n hx hb d_D_step_2 rfl (lv_at hl 2 rfl) ?_
  refine mx_ci (cV (As := [.int q, .int x]) (rest := []) G h (m_D_refusalOfStep Z (q := q) (x := x)) k_167 k_169 ks_0 k_1 k_170 hd_D_refusalOfStep rfl rfl ⟨Nat.le_of_ble_eq_true rfl, Nat.le_of_ble_eq_true rfl⟩ hD rfl rfl hl.1 rfl (Nat.le_of_ble_eq_true rfl) d_D_step_3 ⟨Nat.le_of_ble_eq_true rfl, Nat.le_of_ble_eq_true rfl⟩) h (fun r_2 w_1 H locs h hcp => ?_)
  obtain ⟨er_3, ew_4⟩ := hcp
  subst er_3
  rw [ew_4] at h
  refine lv_istore_n (lv' := [(3, .int (refS pq cq q x)), (0, .ref (k 0)), (1, .int q), (2, .int x)]) hx hb d_D_step_6 rfl hl (by decide) rfl (fun ls hl => ?_)
  refine lv_iload_n hx hb d_D_step_7 rfl (lv_at hl 0 rfl) ?_
  refine lv_if_eq (tgt := 13) hx hb d_D_step_8 (by decide) (fun c_5 => ?_) (fun c_5 => ?_)
  · have hp4 : ∀ i, i < 3 → (pq i).length ≤ 4 := fun i hi => by obtain ⟨_, _, _, _, _, hX⟩ := hQ i hi; exact hX.2.2.2.2.1
    obtain ⟨j, i, hj, hqj, hi, hxi, hcl⟩ := refS_0 hp4 c_5
    have hqc : q.toNatClampNeg = j := by rw [hqj]; exact nI_c (by omega)
    have hxc : x.toNatClampNeg = i := by rw [hxi]; exact nI_c (by have := hp4 j hj; omega)
    obtain ⟨d, hd⟩ := getQ (l := pq j) hi
    obtain ⟨f, g, gu, fn, fr, hX⟩ := hQ j hj
    have hX1 := hX.1
    have hi4 : i < 4 := Nat.lt_of_lt_of_le hi (hp4 j hj)
    obtain ⟨hfi, hSg, hSu, -⟩ := hX.2.2.2.2.2.2.1 i hi4
    obtain ⟨hgi, hui⟩ := hX.2.2.2.2.2.2.2.1 i d hd
    obtain ⟨⟨kd, hkd, hkk⟩, hVd⟩ := hvC j hj d (List.mem_of_getElem? hd)
    have hkc : d.2.1.toNatClampNeg = kd := by rw [hkk]; exact nI_c (by omega)
    have hVd : kd ≠ 3 → vU (uof d) := fun z => hVd.resolve_left (fun y => z (by have y2 := hkk.symm.trans y; exact (nI_eq (b := 3) (by omega) (by decide)).mp y2))
    have hgi : w (g i) = some (kcell (gu i) d.1 (nI kd)) := by rw [← hkk]; exact hgi
    have hnu : ¬ PP (fun x => ρ x = 1) (k 0) (k 1) (gu i) := Z.notP (by have z : ρ (gu i) = 2 + j := hSu; omega) (by have z : ρ (gu i) = 2 + j := hSu; omega)
    refine lv_aload_n hx hb d_D_step_13 rfl (lv_at hl 1 rfl) ?_
    refine mx_get G h hD rfl 2 (by decide) (tb_in in_D) (tb_c k_119) rfl rfl d_D_step_14 ?_
    refine lv_iload_n hx hb d_D_step_17 rfl (lv_at hl 2 rfl) ?_
    refine ax_a G h 5 hq1 rfl j hqj hj (by decide) (hq2 j hj) d_D_step_18 ?_
    refine lv_astore (lv' := [(4, .ref (k (5 + j))), (3, .int (refS pq cq q x)), (0, .ref (k 0)), (1, .int q), (2, .int x)]) hx hb d_D_step_19 hl (by decide) rfl (fun ls hl => ?_)
    refine lv_aload hx hb d_D_step_21 (lv_at hl 0 rfl) ?_
    refine mx_get G h hX1 rfl 0 (by decide) (tb_in in_Q) (tb_c k_96) rfl rfl d_D_step_23 ?_
    refine lv_iload_n hx hb d_D_step_26 rfl (lv_at hl 4 rfl) ?_
    refine ax_a G h 4 hX.2.1 rfl i hxi hi4 (by decide) hfi d_D_step_27 ?_
    refine lv_astore (lv' := [(5, .ref (g i)), (4, .ref (k (5 + j))), (3, .int (refS pq cq q x)), (0, .ref (k 0)), (1, .int q), (2, .int x)]) hx hb d_D_step_28 hl (by decide) rfl (fun ls hl => ?_)
    refine lv_aload_n hx hb d_D_step_30 rfl (lv_at hl 3 rfl) ?_
    refine lv_aload hx hb d_D_step_31 (lv_at hl 0 rfl) ?_
    refine lv_bipush (v := 28) hx hb d_D_step_33 (by decide) ?_
    refine mx_cl (cV (As := [.ref (g i), .int 28]) (rest := []) G h (m_D_carryOut K0 hL1 hgi hui hkd hVd hnu (pg := 28) (by decide) rfl) k_175 k_177 ks_1 k_1 k_178 hd_D_carryOut rfl rfl ⟨Nat.le_of_ble_eq_true rfl, Nat.le_of_ble_eq_true rfl⟩ hD rfl rfl hl.1 rfl (Nat.le_of_ble_eq_true rfl) d_D_step_35 ⟨Nat.le_of_ble_eq_true rfl, Nat.le_of_ble_eq_true rfl⟩) h (fun r_7 w_6 H locs h hcp => ?_)
    obtain ⟨er, K1, hf1⟩ := hcp
    have Z1 := Z.core K1 hf1
    have hX2 := hX.frame (w' := w_6) (fun y hy => hf1 y (Z.notP (by have z : ρ y = 2 + j := hy; omega) (by have z : ρ y = 2 + j := hy; omega)))
    have hg2 := (hX2.2.2.2.2.2.2.2.1 i d hd).1
    refine lv_lstore (lv' := [(6, .long r_7), (5, .ref (g i)), (4, .ref (k (5 + j))), (3, .int (refS pq cq q x)), (0, .ref (k 0)), (1, .int q), (2, .int x)]) hx hb d_D_step_38 hl (by decide) rfl (fun ls hl => ?_)
    refine lv_aload hx hb d_D_step_40 (lv_at hl 2 rfl) ?_
    refine lv_iload_n hx hb d_D_step_42 rfl (lv_at hl 6 rfl) ?_
    refine mx_cv (cV (As := [.int x]) (rest := []) G h (m_Q_removePending hX2.1 hX2.2.1 hi hX2.2.2.2.2.1 (fun y hy => by obtain ⟨q1, -, -, y1, z1, u1, q2, -⟩ := hX2.2.2.2.2.2.2.1 y hy; exact ⟨g y, gu y, y1, z1, q1, q2⟩) hxi) k_238 k_239 k_240 k_5 k_241 hd_Q_removePending rfl rfl ⟨Nat.le_of_ble_eq_true rfl, Nat.le_of_ble_eq_true rfl⟩ hX2.1 rfl rfl hl.1 rfl (Nat.le_of_ble_eq_true rfl) d_D_step_43 ⟨Nat.le_of_ble_eq_true rfl, Nat.le_of_ble_eq_true rfl⟩) h (fun w_8 H locs h hcp => ?_)
    have hX3 := hX2.rem hi
    rw [← hcp] at hX3
    have hg3 : w_8 (g i) = some (kcell (gu i) d.1 d.2.1) := by rw [hcp, mw_ne (mw_apart hg2 hX2.2.1 (by simp)), mw_ne (mw_apart hg2 hX2.1 (by simp))]; exact hg2
    have hf2 : FR w_6 w_8 (fun y => ρ y = 2 + j) := by rw [hcp]; exact (FQ hX2.2.2.2.2.2.2.2.2.2.2.2.1).tr (FQ hX2.2.2.2.2.2.2.2.2.2.2.2.2.1)
    have hX31 : w_8 (k (5 + j)) = some (qcell (k (8 + j)) (k (11 + j)) (k (14 + j)) ((pq j).eraseIdx i).length (cq j).length) := hX3.1
    refine lv_aload hx hb d_D_step_46 (lv_at hl 2 rfl) ?_
    refine lv_aload hx hb d_D_step_48 (lv_at hl 1 rfl) ?_
    refine mx_get G h hg3 rfl 1 (by decide) (tb_in in_K) (tb_c k_85) rfl rfl d_D_step_50 ?_
    refine lv_lload hx hb d_D_step_53 (lv_at hl 0 rfl) ?_
    refine mx_cv (cV (As := [.int d.1, .long r_7]) (rest := []) G h (m_Q_addCompletion hX31 hX3.2.2.1 hX3.2.2.2.1 hcl (x := d.1) (y := r_7)) k_243 k_244 k_245 k_5 k_246 hd_Q_addCompletion rfl rfl ⟨Nat.le_of_ble_eq_true rfl, Nat.le_of_ble_eq_true rfl⟩ hX31 rfl rfl hl.1 rfl (Nat.le_of_ble_eq_true rfl) d_D_step_55 ⟨Nat.le_of_ble_eq_true rfl, Nat.le_of_ble_eq_true rfl⟩) h (fun w_9 H locs h hcp => ?_)
    have hX4 := hX3.addC hcl d.1 r_7
    rw [← hcp] at hX4
    have hg4 : w_9 (g i) = some (kcell (gu i) d.1 d.2.1) := by rw [hcp, mw_ne (mw_apart hg3 hX31 (by simp)), mw_ne (mw_apart hg3 hX3.2.2.2.1 (by simp)), mw_ne (mw_apart hg3 hX3.2.2.1 (by simp))]; exact hg3
    have hf3 : FR w_8 w_9 (fun y => ρ y = 2 + j) := by rw [hcp]; exact ((FQ hX3.2.2.2.2.2.2.2.2.2.2.2.2.2.1).tr (FQ hX3.2.2.2.2.2.2.2.2.2.2.2.2.2.2)).tr (FQ hX3.2.2.2.2.2.2.2.2.2.2.2.1)
    have Z3 := Z1.queue hj ⟨_, _, _, _, _, hX4⟩ (fun c hc => hvC j hj c (List.mem_of_mem_eraseIdx hc)) (hf2.tr hf3)
    have hfr : FR w w_9 (RG ρ) := (hf1.mono (fun y hy => RG_P Z hy)).tr ((hf2.tr hf3).mono (fun y hy => RG_Q hj hy))
    refine lv_aload hx hb d_D_step_58 (lv_at hl 1 rfl) ?_
    refine mx_get G h hg4 rfl 1 (by decide) (tb_in in_K) (tb_c k_85) rfl rfl d_D_step_60 ?_
    rw [er] at Z3
    have e9 : stepS L (fl, us, sn, pw, pq, cq, ln, tn, tr) q x = (d.1, ((carA L kd (uof d) (fl, us, sn, pw, 28)).2.1, (carA L kd (uof d) (fl, us, sn, pw, 28)).2.2.1, (carA L kd (uof d) (fl, us, sn, pw, 28)).2.2.2.1, (carA L kd (uof d) (fl, us, sn, pw, 28)).2.2.2.2.1, va_up pq j ((pq j).eraseIdx i), va_up cq j (cq j ++ [(d.1, (carA L kd (uof d) (fl, us, sn, pw, 28)).1)]), ln, tn, tr)) := by simp only [stepS]; rw [if_pos c_5, hqc, hxc, hd]; simp only [hkc]
    exact mx_reti G h hrt hlocks d_D_step_63 (by rw [e9]; exact ⟨rfl, ⟨_, Z3⟩, hfr⟩)
  · refine lv_iload_n hx hb d_D_step_11 rfl (lv_at hl 0 rfl) ?_
    have e9 : stepS L (fl, us, sn, pw, pq, cq, ln, tn, tr) q x = (refS pq cq q x, (fl, us, sn, pw, pq, cq, ln, tn, tr)) := by simp only [stepS]; rw [if_neg c_5]
    exact mx_reti G h hrt hlocks d_D_step_12 (by rw [e9]; exact ⟨rfl, Y, FR.rf⟩)
set_option maxHeartbeats 4000000 in
set_option maxRecDepth 100000 in
theorem m_D_powerDuring {l : Launch} {D : va_G} {cA : Nat → ClassId} {n0 : Nat} {w : mw} {ρ k : Nat → Nat} {L : Nat} {fl : Nat → Int64} {us : List uU} {sn pw : Nat} {pq : Nat → List pC} {cq : Nat → List (Int32 × Int64)} {ln : Nat} {tn : Int32} {tr : Int64} (Y : DR cA w ρ k L (fl, us, sn, pw, pq, cq, ln, tn, tr)) {q x y : Int32} :
    Mi l D cA n0 y_D_powerDuring c_D_powerDuring (rmd 6) [.ref (k 0), .int q, .int x, .int y] w (fun r w' => r = (pdurS L (fl, us, sn, pw, pq, cq, ln, tn, tr) q x y).1 ∧ DR cA w' ρ k L (pdurS L (fl, us, sn, pw, pq, cq, ln, tn, tr) q x y).2 ∧ FR w w' (RG ρ)) := by
  refine mw_met (cc := b_D_powerDuring) (maxL := 5) (ret := (some .int)) (by decide) rfl (Nat.le_of_ble_eq_true rfl) ?_
  intro p e s m below meth c ls G hrt hlocks hname h hl
  have G : mw_G p m c b_D_powerDuring 5 s _ (c_D_powerDuring :: TB) R_D D cl (tys cA) n0 := G
  have hx := G.1.1
  have hb := G.1.2.1
  have hl : lv_has ls 5 [(0, .ref (k 0)), (1, .int q), (2, .int x), (3, .int y)] := hl
  obtain ⟨pl, Z⟩ := id Y
  have Z : DRp cA w ρ k L fl us sn pw pq cq ln tn tr pl := Z
  obtain ⟨K0, ⟨qf, hq1, hq2⟩, hQ, r0, r1, r4, hL1, hvC⟩ := id Z
  have hD : w (k 0) = some (dcell (k 1) (k 2) (k 4) ln tn tr sn pw pl) := K0.1
  refine lv_iload_n hx hb d_D_powerDuring_0 rfl (lv_at hl 3 rfl) ?_
  refine lv_if_lt (tgt := 10) hx hb d_D_powerDuring_1 (by decide) (fun c_1 => ?_) (fun c_1 => ?_)
  · refine lv_iconst (v := (-1)) hx hb d_D_powerDuring_10 (by decide) ?_
    have e9 : pdurS L (fl, us, sn, pw, pq, cq, ln, tn, tr) q x y = (-1, (fl, us, sn, pw, pq, cq, ln, tn, tr)) := by simp only [pdurS]; rw [if_neg (fun z => absurd z.1 (Int32.not_le.mpr c_1))]
    exact mx_reti G h hrt hlocks d_D_powerDuring_11 (by rw [e9]; exact ⟨rfl, Y, FR.rf⟩)
  · refine lv_iload_n hx hb d_D_powerDuring_4 rfl (lv_at hl 3 rfl) ?_
    refine lv_bipush (v := 30) hx hb d_D_powerDuring_5 (by decide) ?_
    refine lv_icmp_le (tgt := 12) hx hb d_D_powerDuring_7 (by decide) (fun c_2 => ?_) (fun c_2 => ?_)
    · have hy0 : 0 ≤ y ∧ y ≤ 30 := ⟨Int32.not_lt.mp c_1, c_2⟩
      obtain ⟨pg, hpg, hyp⟩ := ixL 30 rfl (by decide) hy0.1 hy0.2
      have hyc : y.toNatClampNeg = pg := by rw [hyp]; exact nI_c (by omega)
      refine lv_aload_n hx hb d_D_powerDuring_12 rfl (lv_at hl 0 rfl) ?_
      refine lv_iload_n hx hb d_D_powerDuring_13 rfl (lv_at hl 1 rfl) ?_
      refine lv_iload_n hx hb d_D_powerDuring_14 rfl (lv_at hl 2 rfl) ?_
      refine mx_ci (cV (As := [.int q, .int x]) (rest := []) G h (m_D_refusalOfStep Z (q := q) (x := x)) k_167 k_169 ks_0 k_1 k_170 hd_D_refusalOfStep rfl rfl ⟨Nat.le_of_ble_eq_true rfl, Nat.le_of_ble_eq_true rfl⟩ hD rfl rfl hl.1 rfl (Nat.le_of_ble_eq_true rfl) d_D_powerDuring_15 ⟨Nat.le_of_ble_eq_true rfl, Nat.le_of_ble_eq_true rfl⟩) h (fun r_4 w_3 H locs h hcp => ?_)
      obtain ⟨er_5, ew_6⟩ := hcp
      subst er_5
      rw [ew_6] at h
      refine lv_istore (lv' := [(4, .int (refS pq cq q x)), (0, .ref (k 0)), (1, .int q), (2, .int x), (3, .int y)]) hx hb d_D_powerDuring_18 hl (by decide) rfl (fun ls hl => ?_)
      refine lv_iload hx hb d_D_powerDuring_20 (lv_at hl 0 rfl) ?_
      refine lv_if_eq (tgt := 28) hx hb d_D_powerDuring_22 (by decide) (fun c_7 => ?_) (fun c_7 => ?_)
      · have hp4 : ∀ i, i < 3 → (pq i).length ≤ 4 := fun i hi => by obtain ⟨_, _, _, _, _, hX⟩ := hQ i hi; exact hX.2.2.2.2.1
        obtain ⟨j, i, hj, hqj, hi, hxi, hcl⟩ := refS_0 hp4 c_7
        have hqc : q.toNatClampNeg = j := by rw [hqj]; exact nI_c (by omega)
        have hxc : x.toNatClampNeg = i := by rw [hxi]; exact nI_c (by have := hp4 j hj; omega)
        obtain ⟨d, hd⟩ := getQ (l := pq j) hi
        obtain ⟨f, g, gu, fn, fr, hX⟩ := hQ j hj
        have hX1 := hX.1
        have hi4 : i < 4 := Nat.lt_of_lt_of_le hi (hp4 j hj)
        obtain ⟨hfi, hSg, hSu, -⟩ := hX.2.2.2.2.2.2.1 i hi4
        obtain ⟨hgi, hui⟩ := hX.2.2.2.2.2.2.2.1 i d hd
        obtain ⟨⟨kd, hkd, hkk⟩, hVd⟩ := hvC j hj d (List.mem_of_getElem? hd)
        have hkc : d.2.1.toNatClampNeg = kd := by rw [hkk]; exact nI_c (by omega)
        have hVd : kd ≠ 3 → vU (uof d) := fun z => hVd.resolve_left (fun y => z (by have y2 := hkk.symm.trans y; exact (nI_eq (b := 3) (by omega) (by decide)).mp y2))
        have hgi : w (g i) = some (kcell (gu i) d.1 (nI kd)) := by rw [← hkk]; exact hgi
        have hnu : ¬ PP (fun x => ρ x = 1) (k 0) (k 1) (gu i) := Z.notP (by have z : ρ (gu i) = 2 + j := hSu; omega) (by have z : ρ (gu i) = 2 + j := hSu; omega)
        refine lv_aload_n hx hb d_D_powerDuring_28 rfl (lv_at hl 1 rfl) ?_
        refine lv_aload_n hx hb d_D_powerDuring_29 rfl (lv_at hl 1 rfl) ?_
        refine mx_get G h hD rfl 2 (by decide) (tb_in in_D) (tb_c k_119) rfl rfl d_D_powerDuring_30 ?_
        refine lv_iload_n hx hb d_D_powerDuring_33 rfl (lv_at hl 2 rfl) ?_
        refine ax_a G h 5 hq1 rfl j hqj hj (by decide) (hq2 j hj) d_D_powerDuring_34 ?_
        refine mx_get G h hX1 rfl 0 (by decide) (tb_in in_Q) (tb_c k_96) rfl rfl d_D_powerDuring_35 ?_
        refine lv_iload_n hx hb d_D_powerDuring_38 rfl (lv_at hl 3 rfl) ?_
        refine ax_a G h 4 hX.2.1 rfl i hxi hi4 (by decide) hfi d_D_powerDuring_39 ?_
        refine lv_iload_n hx hb d_D_powerDuring_40 rfl (lv_at hl 4 rfl) ?_
        refine mx_cl (cV (As := [.ref (g i), .int y]) (rest := []) G h (m_D_carryOut K0 hL1 hgi hui hkd hVd hnu (pg := pg) (by omega) hyp) k_175 k_177 ks_1 k_1 k_178 hd_D_carryOut rfl rfl ⟨Nat.le_of_ble_eq_true rfl, Nat.le_of_ble_eq_true rfl⟩ hD rfl rfl hl.1 rfl (Nat.le_of_ble_eq_true rfl) d_D_powerDuring_41 ⟨Nat.le_of_ble_eq_true rfl, Nat.le_of_ble_eq_true rfl⟩) h (fun r_9 w_8 H locs h hcp => ?_)
        obtain ⟨er, K1, hf1⟩ := hcp
        have Z1 := Z.core K1 hf1
        refine lv_pop2_2 hx hb d_D_powerDuring_44 rfl ?_
        refine lv_aload_n hx hb d_D_powerDuring_45 rfl (lv_at hl 1 rfl) ?_
        refine mx_ci (cV (As := []) (rest := []) G h (m_D_losePower Z1) k_271 k_273 ks_12 k_1 k_274 hd_D_losePower rfl rfl ⟨Nat.le_of_ble_eq_true rfl, Nat.le_of_ble_eq_true rfl⟩ Z1.1.1 rfl rfl hl.1 rfl (Nat.le_of_ble_eq_true rfl) d_D_powerDuring_46 ⟨Nat.le_of_ble_eq_true rfl, Nat.le_of_ble_eq_true rfl⟩) h (fun r_11 w_10 H locs h hcp => ?_)
        obtain ⟨-, Z2, hf2⟩ := hcp
        refine lv_pop hx hb d_D_powerDuring_49 rfl ?_
        refine lv_iload_n hx hb d_D_powerDuring_50 rfl (lv_at hl 4 rfl) ?_
        refine lv_aload_n hx hb d_D_powerDuring_51 rfl (lv_at hl 1 rfl) ?_
        refine mx_get G h Z2.1.1 rfl 8 (by decide) (tb_in in_D) (tb_c k_125) rfl rfl d_D_powerDuring_52 ?_
        refine lv_isub hx hb d_D_powerDuring_55 ?_
        have e9 : pdurS L (fl, us, sn, pw, pq, cq, ln, tn, tr) q x y = (y - nI (carA L kd (uof d) (fl, us, sn, pw, pg)).2.2.2.2.2, ((carA L kd (uof d) (fl, us, sn, pw, pg)).2.1, [], (carA L kd (uof d) (fl, us, sn, pw, pg)).2.2.2.1, (carA L kd (uof d) (fl, us, sn, pw, pg)).2.2.2.2.1, (fun _ => []), (fun _ => []), ln, tn, tr)) := by simp only [pdurS]; rw [if_pos hy0, if_pos c_7, hqc, hxc, hd]; simp only [hkc, hyc]
        exact mx_reti G h hrt hlocks d_D_powerDuring_56 (by rw [e9]; exact ⟨rfl, ⟨_, Z2⟩, (hf1.mono (fun y hy => RG_P Z hy)).tr hf2⟩)
      · refine lv_iload hx hb d_D_powerDuring_25 (lv_at hl 0 rfl) ?_
        have e9 : pdurS L (fl, us, sn, pw, pq, cq, ln, tn, tr) q x y = (refS pq cq q x, (fl, us, sn, pw, pq, cq, ln, tn, tr)) := by simp only [pdurS]; rw [if_pos hy0, if_neg c_7]
        exact mx_reti G h hrt hlocks d_D_powerDuring_27 (by rw [e9]; exact ⟨rfl, Y, FR.rf⟩)
    · refine lv_iconst (v := (-1)) hx hb d_D_powerDuring_10 (by decide) ?_
      have e9 : pdurS L (fl, us, sn, pw, pq, cq, ln, tn, tr) q x y = (-1, (fl, us, sn, pw, pq, cq, ln, tn, tr)) := by simp only [pdurS]; rw [if_neg (fun z => absurd z.2 c_2)]
      exact mx_reti G h hrt hlocks d_D_powerDuring_11 (by rw [e9]; exact ⟨rfl, Y, FR.rf⟩)
set_option maxHeartbeats 4000000 in
set_option maxRecDepth 100000 in
theorem m_D_take {l : Launch} {D : va_G} {cA : Nat → ClassId} {n0 : Nat} {w : mw} {ρ k : Nat → Nat} {L : Nat} {fl : Nat → Int64} {us : List uU} {sn pw : Nat} {pq : Nat → List pC} {cq : Nat → List (Int32 × Int64)} {ln : Nat} {tn : Int32} {tr : Int64} (Y : DR cA w ρ k L (fl, us, sn, pw, pq, cq, ln, tn, tr)) {q : Int32} :
    Mi l D cA n0 y_D_take c_D_take (rmd 1) [.ref (k 0), .int q] w (fun r w' => r = (takeS (fl, us, sn, pw, pq, cq, ln, tn, tr) q).1 ∧ DR cA w' ρ k L (takeS (fl, us, sn, pw, pq, cq, ln, tn, tr) q).2 ∧ FR w w' (RG ρ)) := by
  refine mw_met (cc := b_D_take) (maxL := 3) (ret := (some .int)) (by decide) rfl (Nat.le_of_ble_eq_true rfl) ?_
  intro p e s m below meth c ls G hrt hlocks hname h hl
  have G : mw_G p m c b_D_take 3 s _ (c_D_take :: TB) R_D D cl (tys cA) n0 := G
  have hx := G.1.1
  have hb := G.1.2.1
  have hl : lv_has ls 3 [(0, .ref (k 0)), (1, .int q)] := hl
  obtain ⟨pl, Z⟩ := id Y
  have Z : DRp cA w ρ k L fl us sn pw pq cq ln tn tr pl := Z
  obtain ⟨K0, ⟨qf, hq1, hq2⟩, hQ, r0, r1, r4, hL1, hvC⟩ := id Z
  have hD : w (k 0) = some (dcell (k 1) (k 2) (k 4) ln tn tr sn pw pl) := K0.1
  refine lv_iload_n hx hb d_D_take_0 rfl (lv_at hl 1 rfl) ?_
  refine mx_ci (cS (As := [.int q]) (rest := []) G h (m_D_isQueue (x := q)) k_149 k_150 k_1 k_151 rfl hd_D_isQueue rfl rfl ⟨Nat.le_of_ble_eq_true rfl, Nat.le_of_ble_eq_true rfl⟩ rfl hl.1 rfl (Nat.le_of_ble_eq_true rfl) d_D_take_1 ⟨Nat.le_of_ble_eq_true rfl, Nat.le_of_ble_eq_true rfl⟩) h (fun r_2 w_1 H locs h hcp => ?_)
  obtain ⟨er_3, ew_4⟩ := hcp
  subst er_3
  rw [ew_4] at h
  refine lv_if_eq (tgt := 19) hx hb d_D_take_4 (by decide) (fun c_5 => ?_) (fun c_5 => ?_)
  · refine lv_iconst (v := (-1)) hx hb d_D_take_19 (by decide) ?_
    have e9 : takeS (fl, us, sn, pw, pq, cq, ln, tn, tr) q = (-1, (fl, us, sn, pw, pq, cq, ln, tn, tr)) := by simp only [takeS]; rw [if_neg (bI_0 c_5)]
    exact mx_reti G h hrt hlocks d_D_take_20 (by rw [e9]; exact ⟨rfl, Y, FR.rf⟩)
  · have hi3 := bI_n c_5
    obtain ⟨j, hj, hqj⟩ := ixQ 3 rfl (by decide) hi3.1 hi3.2
    have hqc : q.toNatClampNeg = j := by rw [hqj]; exact nI_c (by omega)
    obtain ⟨f, g, gu, fn, fr, hX⟩ := hQ j hj
    have hX1 := hX.1
    refine lv_aload_n hx hb d_D_take_7 rfl (lv_at hl 0 rfl) ?_
    refine mx_get G h hD rfl 2 (by decide) (tb_in in_D) (tb_c k_119) rfl rfl d_D_take_8 ?_
    refine lv_iload_n hx hb d_D_take_11 rfl (lv_at hl 1 rfl) ?_
    refine ax_a G h 5 hq1 rfl j hqj hj (by decide) (hq2 j hj) d_D_take_12 ?_
    refine mx_get G h hX1 rfl 4 (by decide) (tb_in in_Q) (tb_c k_103) rfl rfl d_D_take_13 ?_
    refine lv_if_ne (tgt := 21) hx hb d_D_take_16 (by decide) (fun c_6 => ?_) (fun c_6 => ?_)
    · obtain ⟨d, cs, hcs⟩ : ∃ d cs, cq j = d :: cs := by
        cases hc9 : cq j with
        | nil => exact absurd (by rw [hc9]; rfl) c_6
        | cons d cs => exact ⟨d, cs, rfl⟩
      rw [hcs] at hX
      have hd0 := hX.2.2.2.2.2.2.2.2.1 0 d rfl
      refine lv_aload_n hx hb d_D_take_21 rfl (lv_at hl 0 rfl) ?_
      refine mx_get G h hD rfl 2 (by decide) (tb_in in_D) (tb_c k_119) rfl rfl d_D_take_22 ?_
      refine lv_iload_n hx hb d_D_take_25 rfl (lv_at hl 1 rfl) ?_
      refine ax_a G h 5 hq1 rfl j hqj hj (by decide) (hq2 j hj) d_D_take_26 ?_
      refine lv_astore_n (lv' := [(2, .ref (k (5 + j))), (0, .ref (k 0)), (1, .int q)]) hx hb d_D_take_27 rfl hl (by decide) rfl (fun ls hl => ?_)
      refine lv_aload_n hx hb d_D_take_28 rfl (lv_at hl 1 rfl) ?_
      refine lv_aload_n hx hb d_D_take_29 rfl (lv_at hl 0 rfl) ?_
      refine mx_get G h hX1 rfl 1 (by decide) (tb_in in_Q) (tb_c k_98) rfl rfl d_D_take_30 ?_
      refine lv_iconst (v := 0) hx hb d_D_take_33 (by decide) ?_
      refine ax_i G h hX.2.2.1 0 nI_0.symm (by decide) (by decide) d_D_take_34 ?_
      have et_7 : fn 0 = d.1 := hd0.1
      rw [et_7]
      refine mx_put G h hD rfl 4 (by decide) (tb_in in_D) t_D t_D_ok n_D (tb_c k_121) rfl rfl rfl rfl rfl (Nat.le_of_ble_eq_true rfl) d_D_take_35 (fun H locs h => ?_)
      have h : mw_H n0 D cl s (mw_up w (k 0) (.inr (0, [.ref (k 1), .ref (k 2), .ref (k 4), .int (nI ln), .int d.1, .long tr, .int (nI sn), .int (nI pw), .int (nI pl)]))) H locs := h
      obtain ⟨w_8, ew_8⟩ : ∃ xx : mw, mw_up w (k 0) (.inr (0, [.ref (k 1), .ref (k 2), .ref (k 4), .int (nI ln), .int d.1, .long tr, .int (nI sn), .int (nI pw), .int (nI pl)])) = xx := ⟨_, rfl⟩
      rw [ew_8] at h
      have f_9 : w_8 (k 0) = some (.inr (0, [.ref (k 1), .ref (k 2), .ref (k 4), .int (nI ln), .int d.1, .long tr, .int (nI sn), .int (nI pw), .int (nI pl)])) := by rw [← ew_8]; exact mw_self
      refine lv_aload_n hx hb d_D_take_38 rfl (lv_at hl 1 rfl) ?_
      have hXa := hX.frame (w' := w_8) (fun y hy => by rw [← ew_8]; exact mw_ne (fun z => by have hy : ρ y = 2 + j := hy; rw [z] at hy; omega))
      have hXa1 : w_8 (k (5 + j)) = some (qcell (k (8 + j)) (k (11 + j)) (k (14 + j)) (pq j).length (cs.length + 1)) := hXa.1
      refine lv_aload_n hx hb d_D_take_39 rfl (lv_at hl 0 rfl) ?_
      refine mx_get G h hXa1 rfl 2 (by decide) (tb_in in_Q) (tb_c k_100) rfl rfl d_D_take_40 ?_
      refine lv_iconst (v := 0) hx hb d_D_take_43 (by decide) ?_
      refine ax_l G h hXa.2.2.2.1 0 nI_0.symm (by decide) (by decide) d_D_take_44 ?_
      have et_10 : fr 0 = d.2 := hd0.2
      rw [et_10]
      refine mx_put G h f_9 rfl 5 (by decide) (tb_in in_D) t_D t_D_ok n_D (tb_c k_122) rfl rfl rfl rfl rfl (Nat.le_of_ble_eq_true rfl) d_D_take_45 (fun H locs h => ?_)
      have h : mw_H n0 D cl s (mw_up w_8 (k 0) (.inr (0, [.ref (k 1), .ref (k 2), .ref (k 4), .int (nI ln), .int d.1, .long d.2, .int (nI sn), .int (nI pw), .int (nI pl)]))) H locs := h
      obtain ⟨w_11, ew_11⟩ : ∃ xx : mw, mw_up w_8 (k 0) (.inr (0, [.ref (k 1), .ref (k 2), .ref (k 4), .int (nI ln), .int d.1, .long d.2, .int (nI sn), .int (nI pw), .int (nI pl)])) = xx := ⟨_, rfl⟩
      rw [ew_11] at h
      have f_12 : w_11 (k 0) = some (.inr (0, [.ref (k 1), .ref (k 2), .ref (k 4), .int (nI ln), .int d.1, .long d.2, .int (nI sn), .int (nI pw), .int (nI pl)])) := by rw [← ew_11]; exact mw_self
      have Z1 : DRp cA w_11 ρ k L fl us sn pw pq cq ln d.1 d.2 pl := by rw [← ew_11, ← ew_8, mw_uu]; exact Z.core (K0.put ln d.1 d.2 pl) (FR.up (Or.inl rfl))
      have hfr1 : FR w w_11 (RG ρ) := by rw [← ew_11, ← ew_8, mw_uu]; exact FR.up (RG_P Z (Or.inl rfl))
      have hXb := hXa.frame (w' := w_11) (fun y hy => by rw [← ew_11]; exact mw_ne (fun z => by have hy : ρ y = 2 + j := hy; rw [z] at hy; omega))
      have hXb1 : w_11 (k (5 + j)) = some (qcell (k (8 + j)) (k (11 + j)) (k (14 + j)) (pq j).length (cs.length + 1)) := hXb.1
      refine lv_aload_n hx hb d_D_take_48 rfl (lv_at hl 0 rfl) ?_
      refine mx_cv (cV (As := []) (rest := []) G h (m_Q_removeOldestCompletion hXb1 hXb.2.2.1 hXb.2.2.2.1 (Nat.succ_pos _) hXb.2.2.2.2.2.1) k_251 k_252 k_253 k_5 k_254 hd_Q_removeOldestCompletion rfl rfl ⟨Nat.le_of_ble_eq_true rfl, Nat.le_of_ble_eq_true rfl⟩ hXb1 rfl rfl hl.1 rfl (Nat.le_of_ble_eq_true rfl) d_D_take_49 ⟨Nat.le_of_ble_eq_true rfl, Nat.le_of_ble_eq_true rfl⟩) h (fun w_13 H locs h hcp => ?_)
      have hXc := hXb.popC
      have ew : w_13 = mw_up (mw_up (mw_up w_11 (k (5 + j)) (qcell (k (8 + j)) (k (11 + j)) (k (14 + j)) (pq j).length cs.length)) (k (11 + j)) (ints cA 4 (shf fn 0 cs.length))) (k (14 + j)) (longs cA 4 (shf fr 0 cs.length)) := hcp
      rw [← ew] at hXc
      have hf3 : FR w_11 w_13 (fun y => ρ y = 2 + j) := by rw [ew]; exact ((FQ hXb.2.2.2.2.2.2.2.2.2.2.2.1).tr (FQ hXb.2.2.2.2.2.2.2.2.2.2.2.2.2.1)).tr (FQ hXb.2.2.2.2.2.2.2.2.2.2.2.2.2.2)
      have Z3 := Z1.queue hj ⟨_, _, _, _, _, hXc⟩ (hvC j hj) hf3
      rw [va_up_id] at Z3
      refine lv_aload_n hx hb d_D_take_52 rfl (lv_at hl 1 rfl) ?_
      refine mx_get G h Z3.1.1 rfl 4 (by decide) (tb_in in_D) (tb_c k_121) rfl rfl d_D_take_53 ?_
      have e9 : takeS (fl, us, sn, pw, pq, cq, ln, tn, tr) q = (d.1, (fl, us, sn, pw, pq, va_up cq j cs, ln, d.1, d.2)) := by simp only [takeS]; rw [if_pos hi3, hqc, hcs]
      exact mx_reti G h hrt hlocks d_D_take_56 (by rw [e9]; exact ⟨rfl, ⟨_, Z3⟩, hfr1.tr (hf3.mono (fun y hy => RG_Q hj hy))⟩)
    · refine lv_iconst (v := (-1)) hx hb d_D_take_19 (by decide) ?_
      have hcs : cq j = [] := by
        cases hc9 : cq j with
        | nil => rfl
        | cons d cs => exact absurd c_6 (by rw [hc9]; exact nI_ne0 (Nat.succ_pos _) (by have := hX.2.2.2.2.2.1; rw [hc9] at this; omega))
      have e9 : takeS (fl, us, sn, pw, pq, cq, ln, tn, tr) q = (-1, (fl, us, sn, pw, pq, cq, ln, tn, tr)) := by simp only [takeS]; rw [if_pos hi3, hqc, hcs]
      exact mx_reti G h hrt hlocks d_D_take_20 (by rw [e9]; exact ⟨rfl, Y, FR.rf⟩)
set_option maxHeartbeats 4000000 in
set_option maxRecDepth 100000 in
theorem m_D_result {l : Launch} {D : va_G} {cA : Nat → ClassId} {n0 : Nat} {w : mw} {ρ k : Nat → Nat} {L : Nat} {fl : Nat → Int64} {us : List uU} {sn pw : Nat} {pq : Nat → List pC} {cq : Nat → List (Int32 × Int64)} {ln : Nat} {tn : Int32} {tr : Int64} (Y : DR cA w ρ k L (fl, us, sn, pw, pq, cq, ln, tn, tr)) :
    Ml l D cA n0 y_D_result c_D_result (rmd 0) [.ref (k 0)] w (fun r w' => r = tr ∧ w' = w) := by
  refine mw_met (cc := b_D_result) (maxL := 1) (ret := (some .long)) (by decide) rfl (Nat.le_of_ble_eq_true rfl) ?_
  intro p e s m below meth c ls G hrt hlocks hname h hl
  have G : mw_G p m c b_D_result 1 s _ (c_D_result :: TB) R_D D cl (tys cA) n0 := G
  have hx := G.1.1
  have hb := G.1.2.1
  have hl : lv_has ls 1 [(0, .ref (k 0))] := hl
  obtain ⟨pl, Z⟩ := id Y
  have Z : DRp cA w ρ k L fl us sn pw pq cq ln tn tr pl := Z
  obtain ⟨K0, ⟨qf, hq1, hq2⟩, hQ, r0, r1, r4, hL1, hvC⟩ := id Z
  have hD : w (k 0) = some (dcell (k 1) (k 2) (k 4) ln tn tr sn pw pl) := K0.1
  refine lv_aload_n hx hb d_D_result_0 rfl (lv_at hl 0 rfl) ?_
  refine mx_get G h hD rfl 5 (by decide) (tb_in in_D) (tb_c k_122) rfl rfl d_D_result_1 ?_
  exact mx_retl G h hrt hlocks d_D_result_4 (⟨rfl, rfl⟩)
set_option maxHeartbeats 4000000 in
set_option maxRecDepth 100000 in
theorem m_D_reset {l : Launch} {D : va_G} {cA : Nat → ClassId} {n0 : Nat} {w : mw} {ρ k : Nat → Nat} {L : Nat} {fl : Nat → Int64} {us : List uU} {sn pw : Nat} {pq : Nat → List pC} {cq : Nat → List (Int32 × Int64)} {ln : Nat} {tn : Int32} {tr : Int64} (Y : DR cA w ρ k L (fl, us, sn, pw, pq, cq, ln, tn, tr)) :
    Mi l D cA n0 y_D_reset c_D_reset (rmd 1) [.ref (k 0)] w (fun r w' => r = (resetS (fl, us, sn, pw, pq, cq, ln, tn, tr)).1 ∧ DR cA w' ρ k L (resetS (fl, us, sn, pw, pq, cq, ln, tn, tr)).2 ∧ FR w w' (RG ρ)) := by
  refine mw_met (cc := b_D_reset) (maxL := 1) (ret := (some .int)) (by decide) rfl (Nat.le_of_ble_eq_true rfl) ?_
  intro p e s m below meth c ls G hrt hlocks hname h hl
  have G : mw_G p m c b_D_reset 1 s _ (c_D_reset :: TB) R_D D cl (tys cA) n0 := G
  have hx := G.1.1
  have hb := G.1.2.1
  have hl : lv_has ls 1 [(0, .ref (k 0))] := hl
  obtain ⟨pl, Z⟩ := id Y
  have Z : DRp cA w ρ k L fl us sn pw pq cq ln tn tr pl := Z
  obtain ⟨K0, ⟨qf, hq1, hq2⟩, hQ, r0, r1, r4, hL1, hvC⟩ := id Z
  have hD : w (k 0) = some (dcell (k 1) (k 2) (k 4) ln tn tr sn pw pl) := K0.1
  refine lv_aload_n hx hb d_D_reset_0 rfl (lv_at hl 0 rfl) ?_
  refine mx_ci (cV (As := []) (rest := []) G h (m_D_clearQueues Z) k_263 k_265 ks_11 k_1 k_266 hd_D_clearQueues rfl rfl ⟨Nat.le_of_ble_eq_true rfl, Nat.le_of_ble_eq_true rfl⟩ hD rfl rfl hl.1 rfl (Nat.le_of_ble_eq_true rfl) d_D_reset_1 ⟨Nat.le_of_ble_eq_true rfl, Nat.le_of_ble_eq_true rfl⟩) h (fun r_2 w_1 H locs h hcp => ?_)
  obtain ⟨er, Z1, hf1⟩ := hcp
  exact mx_reti G h hrt hlocks d_D_reset_4 (⟨er, ⟨pl, Z1⟩, hf1⟩)
set_option maxHeartbeats 4000000 in
set_option maxRecDepth 100000 in
theorem m_D_power {l : Launch} {D : va_G} {cA : Nat → ClassId} {n0 : Nat} {w : mw} {ρ k : Nat → Nat} {L : Nat} {fl : Nat → Int64} {us : List uU} {sn pw : Nat} {pq : Nat → List pC} {cq : Nat → List (Int32 × Int64)} {ln : Nat} {tn : Int32} {tr : Int64} (Y : DR cA w ρ k L (fl, us, sn, pw, pq, cq, ln, tn, tr)) :
    Mi l D cA n0 y_D_power c_D_power (rmd 2) [.ref (k 0)] w (fun r w' => r = (powerS (fl, us, sn, pw, pq, cq, ln, tn, tr)).1 ∧ DR cA w' ρ k L (powerS (fl, us, sn, pw, pq, cq, ln, tn, tr)).2 ∧ FR w w' (RG ρ)) := by
  refine mw_met (cc := b_D_power) (maxL := 1) (ret := (some .int)) (by decide) rfl (Nat.le_of_ble_eq_true rfl) ?_
  intro p e s m below meth c ls G hrt hlocks hname h hl
  have G : mw_G p m c b_D_power 1 s _ (c_D_power :: TB) R_D D cl (tys cA) n0 := G
  have hx := G.1.1
  have hb := G.1.2.1
  have hl : lv_has ls 1 [(0, .ref (k 0))] := hl
  obtain ⟨pl, Z⟩ := id Y
  have Z : DRp cA w ρ k L fl us sn pw pq cq ln tn tr pl := Z
  obtain ⟨K0, ⟨qf, hq1, hq2⟩, hQ, r0, r1, r4, hL1, hvC⟩ := id Z
  have hD : w (k 0) = some (dcell (k 1) (k 2) (k 4) ln tn tr sn pw pl) := K0.1
  refine lv_aload_n hx hb d_D_power_0 rfl (lv_at hl 0 rfl) ?_
  refine mx_ci (cV (As := []) (rest := []) G h (m_D_losePower Z) k_271 k_273 ks_12 k_1 k_274 hd_D_losePower rfl rfl ⟨Nat.le_of_ble_eq_true rfl, Nat.le_of_ble_eq_true rfl⟩ hD rfl rfl hl.1 rfl (Nat.le_of_ble_eq_true rfl) d_D_power_1 ⟨Nat.le_of_ble_eq_true rfl, Nat.le_of_ble_eq_true rfl⟩) h (fun r_2 w_1 H locs h hcp => ?_)
  obtain ⟨er, Z1, hf1⟩ := hcp
  exact mx_reti G h hrt hlocks d_D_power_4 (⟨er, ⟨pl, Z1⟩, hf1⟩)
