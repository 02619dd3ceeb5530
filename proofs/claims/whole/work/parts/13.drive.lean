/-! The drive as a whole: k i the addresses of its fixed cells, ρ the regions (1 cache, 2 3 4 queues, 5 the rest) -/
def DRp (cA : Nat → ClassId) (w : mw) (ρ k : Nat → Nat) (L : Nat) (fl : Nat → Int64) (us : List uU) (sn pw : Nat) (pq : Nat → List pC) (cq : Nat → List (Int32 × Int64)) (ln : Nat) (tn : Int32) (tr : Int64) (pl : Nat) : Prop :=
  DC cA w (fun x => ρ x = 1) (k 0) (k 1) (k 2) (k 3) (k 4) L ln tn tr (fl, us, sn, pw, pl) ∧ (∃ f, w (k 4) = some (refs cA 5 3 f) ∧ ∀ i, i < 3 → f i = some (k (5 + i))) ∧ (∀ i, i < 3 → QA cA w (fun x => ρ x = 2 + i) (k (5 + i)) (k (8 + i)) (k (11 + i)) (k (14 + i)) (pq i) (cq i)) ∧ ρ (k 0) = 5 ∧ ρ (k 1) = 5 ∧ ρ (k 4) = 5 ∧ 1 ≤ L ∧ ∀ i, i < 3 → ∀ c ∈ pq i, vC c
def RG (ρ : Nat → Nat) : Nat → Prop := fun x => 1 ≤ ρ x ∧ ρ x ≤ 5
section DRL
variable {cA : Nat → ClassId} {w w' : mw} {ρ k : Nat → Nat} {L : Nat} {fl fl' : Nat → Int64} {us us' : List uU} {sn pw sn' pw' : Nat} {pq : Nat → List pC} {cq : Nat → List (Int32 × Int64)} {ln ln' : Nat} {tn tn' : Int32} {tr tr' : Int64} {pl pl' : Nat}
theorem DRp.notP (h : DRp cA w ρ k L fl us sn pw pq cq ln tn tr pl) {x : Nat} (h1 : ρ x ≠ 1) (h5 : ρ x ≠ 5) : ¬ PP (fun x => ρ x = 1) (k 0) (k 1) x := by
  obtain ⟨-, -, -, r0, r1, -⟩ := h
  rintro (rfl | rfl | z)
  · exact h5 r0
  · exact h5 r1
  · exact h1 z
theorem DRp.core (h : DRp cA w ρ k L fl us sn pw pq cq ln tn tr pl) (K : DC cA w' (fun x => ρ x = 1) (k 0) (k 1) (k 2) (k 3) (k 4) L ln' tn' tr' (fl', us', sn', pw', pl')) (hf : FR w w' (PP (fun x => ρ x = 1) (k 0) (k 1))) : DRp cA w' ρ k L fl' us' sn' pw' pq cq ln' tn' tr' pl' := by
  have hN := fun {x : Nat} => h.notP (x := x)
  obtain ⟨K0, ⟨f, q1, q2⟩, hQ, r0, r1, r4, hL, hv⟩ := h
  refine ⟨K, ⟨f, ?_, q2⟩, fun i hi => (hQ i hi).frame (fun x hx => hf x (hN (by omega) (by omega))), r0, r1, r4, hL, hv⟩
  rw [hf (k 4) (by
    rintro (z | z | z)
    · exact mw_apart q1 K0.1 (by simp) z
    · exact mw_apart q1 K0.2.1 (by simp) z
    · exact absurd (r4.symm.trans z) (by decide))]
  exact q1
theorem DRp.queue (h : DRp cA w ρ k L fl us sn pw pq cq ln tn tr pl) {j : Nat} (hj : j < 3) {ps : List pC} {cs : List (Int32 × Int64)} (hq : QA cA w' (fun x => ρ x = 2 + j) (k (5 + j)) (k (8 + j)) (k (11 + j)) (k (14 + j)) ps cs) (hv' : ∀ c ∈ ps, vC c) (hf : FR w w' (fun x => ρ x = 2 + j)) : DRp cA w' ρ k L fl us sn pw (va_up pq j ps) (va_up cq j cs) ln tn tr pl := by
  obtain ⟨K0, ⟨f, q1, q2⟩, hQ, r0, r1, r4, hL, hv⟩ := h
  refine ⟨K0.frame (fun x hx => hf x ?_), ⟨f, ?_, q2⟩, fun i hi => ?_, r0, r1, r4, hL, fun i hi c hc => ?_⟩
  · rcases hx with rfl | rfl | z
    · show ¬ ρ (k 0) = 2 + j; omega
    · show ¬ ρ (k 1) = 2 + j; omega
    · show ¬ ρ x = 2 + j; have z : ρ x = 1 := z; omega
  · rw [hf (k 4) (by show ¬ ρ (k 4) = 2 + j; omega)]; exact q1
  · by_cases e : i = j
    · subst e
      simp only [va_up, if_true]
      exact hq
    · simp only [va_up, if_neg e]
      exact (hQ i hi).frame (fun x hx => hf x (by show ¬ ρ x = 2 + j; have hx : ρ x = 2 + i := hx; omega))
  · by_cases e : i = j
    · subst e
      simp only [va_up, if_true] at hc
      exact hv' c hc
    · simp only [va_up, if_neg e] at hc
      exact hv i hi c hc
theorem RG_P (h : DRp cA w ρ k L fl us sn pw pq cq ln tn tr pl) {x : Nat} (hx : PP (fun x => ρ x = 1) (k 0) (k 1) x) : RG ρ x := by
  obtain ⟨-, -, -, r0, r1, -⟩ := h
  rcases hx with rfl | rfl | z
  · exact ⟨by omega, by omega⟩
  · exact ⟨by omega, by omega⟩
  · have z : ρ x = 1 := z; exact ⟨by omega, by omega⟩
theorem RG_Q {j x : Nat} (hj : j < 3) (hx : ρ x = 2 + j) : RG ρ x := ⟨by omega, by omega⟩
end DRL
theorem ixQ {q : Int32} (n : Nat) {y : Int32} (hy : y = nI n) (hn : n < 2 ^ 31) (h0 : 0 ≤ q) (h1 : q < y) : ∃ j, j < n ∧ q = nI j := by
  rcases pk_ix q hn with z | z | z
  · exact absurd h0 (Int32.not_le.mpr z)
  · rw [hy] at h1; exact absurd z (Int32.not_le.mpr h1)
  · exact z
theorem nI_c {n : Nat} (h : n < 1000) : (nI n).toNatClampNeg = n := nI_clamp (by omega)
/-- the refusals of step -/
def refS (pq : Nat → List pC) (cq : Nat → List (Int32 × Int64)) (q pick : Int32) : Int32 := if (0 ≤ q ∧ q < 3) ∧ 0 ≤ pick ∧ pick < nI (pq q.toNatClampNeg).length then (if 4 ≤ (cq q.toNatClampNeg).length then -3 else 0) else -1
theorem refS_0 {pq : Nat → List pC} {cq : Nat → List (Int32 × Int64)} {q pick : Int32} (hp : ∀ i, i < 3 → (pq i).length ≤ 4) (h : refS pq cq q pick = 0) : ∃ j i, j < 3 ∧ q = nI j ∧ i < (pq j).length ∧ pick = nI i ∧ (cq j).length < 4 := by
  unfold refS at h
  split at h
  · rename_i c
    split at h
    · exact absurd h (by decide)
    · rename_i c2
      obtain ⟨j, hj, rfl⟩ := ixQ 3 rfl (by decide) c.1.1 c.1.2
      rw [nI_c (by omega)] at c c2
      obtain ⟨i, hi, rfl⟩ := ixQ (pq j).length rfl (by have := hp j hj; omega) c.2.1 c.2.2
      exact ⟨j, i, hj, rfl, hi, rfl, by omega⟩
  · exact absurd h (by decide)
theorem d_D_refusalOfStep_0 : decode b_D_refusalOfStep 0 = .ok (.iload_n 1, 1) := by decide +kernel
theorem d_D_refusalOfStep_1 : decode b_D_refusalOfStep 1 = .ok (.invokestatic 44, 3) := by decide +kernel
theorem d_D_refusalOfStep_4 : decode b_D_refusalOfStep 4 = .ok (.ifCond .eq 16, 3) := by decide +kernel
theorem d_D_refusalOfStep_7 : decode b_D_refusalOfStep 7 = .ok (.aload_n 0, 1) := by decide +kernel
theorem d_D_refusalOfStep_8 : decode b_D_refusalOfStep 8 = .ok (.getfield 35, 3) := by decide +kernel
theorem d_D_refusalOfStep_11 : decode b_D_refusalOfStep 11 = .ok (.iload_n 1, 1) := by decide +kernel
theorem d_D_refusalOfStep_12 : decode b_D_refusalOfStep 12 = .ok (.aaload, 1) := by decide +kernel
theorem d_D_refusalOfStep_13 : decode b_D_refusalOfStep 13 = .ok (.iload_n 2, 1) := by decide +kernel
theorem d_D_refusalOfStep_14 : decode b_D_refusalOfStep 14 = .ok (.invokevirtual 129, 3) := by decide +kernel
theorem d_D_refusalOfStep_17 : decode b_D_refusalOfStep 17 = .ok (.ifCond .ne 5, 3) := by decide +kernel
theorem d_D_refusalOfStep_20 : decode b_D_refusalOfStep 20 = .ok (.iconst (-1), 1) := by decide +kernel
theorem d_D_refusalOfStep_21 : decode b_D_refusalOfStep 21 = .ok (.ireturn, 1) := by decide +kernel
theorem d_D_refusalOfStep_22 : decode b_D_refusalOfStep 22 = .ok (.aload_n 0, 1) := by decide +kernel
theorem d_D_refusalOfStep_23 : decode b_D_refusalOfStep 23 = .ok (.getfield 35, 3) := by decide +kernel
theorem d_D_refusalOfStep_26 : decode b_D_refusalOfStep 26 = .ok (.iload_n 1, 1) := by decide +kernel
theorem d_D_refusalOfStep_27 : decode b_D_refusalOfStep 27 = .ok (.aaload, 1) := by decide +kernel
theorem d_D_refusalOfStep_28 : decode b_D_refusalOfStep 28 = .ok (.getfield 96, 3) := by decide +kernel
theorem d_D_refusalOfStep_31 : decode b_D_refusalOfStep 31 = .ok (.iconst 4, 1) := by decide +kernel
theorem d_D_refusalOfStep_32 : decode b_D_refusalOfStep 32 = .ok (.if_icmp .lt 8, 3) := by decide +kernel
theorem d_D_refusalOfStep_35 : decode b_D_refusalOfStep 35 = .ok (.bipush (-3), 2) := by decide +kernel
theorem d_D_refusalOfStep_37 : decode b_D_refusalOfStep 37 = .ok (.goto 4, 3) := by decide +kernel
theorem d_D_refusalOfStep_40 : decode b_D_refusalOfStep 40 = .ok (.iconst 0, 1) := by decide +kernel
theorem d_D_refusalOfStep_41 : decode b_D_refusalOfStep 41 = .ok (.ireturn, 1) := by decide +kernel
theorem d_D_clearQueues_0 : decode b_D_clearQueues 0 = .ok (.iconst 0, 1) := by decide +kernel
theorem d_D_clearQueues_1 : decode b_D_clearQueues 1 = .ok (.istore_n 1, 1) := by decide +kernel
theorem d_D_clearQueues_2 : decode b_D_clearQueues 2 = .ok (.iconst 0, 1) := by decide +kernel
theorem d_D_clearQueues_3 : decode b_D_clearQueues 3 = .ok (.istore_n 2, 1) := by decide +kernel
theorem d_D_clearQueues_4 : decode b_D_clearQueues 4 = .ok (.iload_n 2, 1) := by decide +kernel
theorem d_D_clearQueues_5 : decode b_D_clearQueues 5 = .ok (.iconst 3, 1) := by decide +kernel
theorem d_D_clearQueues_6 : decode b_D_clearQueues 6 = .ok (.if_icmp .ge 41, 3) := by decide +kernel
theorem d_D_clearQueues_9 : decode b_D_clearQueues 9 = .ok (.iload_n 1, 1) := by decide +kernel
theorem d_D_clearQueues_10 : decode b_D_clearQueues 10 = .ok (.aload_n 0, 1) := by decide +kernel
theorem d_D_clearQueues_11 : decode b_D_clearQueues 11 = .ok (.getfield 35, 3) := by decide +kernel
theorem d_D_clearQueues_14 : decode b_D_clearQueues 14 = .ok (.iload_n 2, 1) := by decide +kernel
theorem d_D_clearQueues_15 : decode b_D_clearQueues 15 = .ok (.aaload, 1) := by decide +kernel
theorem d_D_clearQueues_16 : decode b_D_clearQueues 16 = .ok (.getfield 52, 3) := by decide +kernel
theorem d_D_clearQueues_19 : decode b_D_clearQueues 19 = .ok (.iadd, 1) := by decide +kernel
theorem d_D_clearQueues_20 : decode b_D_clearQueues 20 = .ok (.istore_n 1, 1) := by decide +kernel
theorem d_D_clearQueues_21 : decode b_D_clearQueues 21 = .ok (.aload_n 0, 1) := by decide +kernel
theorem d_D_clearQueues_22 : decode b_D_clearQueues 22 = .ok (.getfield 35, 3) := by decide +kernel
theorem d_D_clearQueues_25 : decode b_D_clearQueues 25 = .ok (.iload_n 2, 1) := by decide +kernel
theorem d_D_clearQueues_26 : decode b_D_clearQueues 26 = .ok (.aaload, 1) := by decide +kernel
theorem d_D_clearQueues_27 : decode b_D_clearQueues 27 = .ok (.iconst 0, 1) := by decide +kernel
theorem d_D_clearQueues_28 : decode b_D_clearQueues 28 = .ok (.putfield 52, 3) := by decide +kernel
theorem d_D_clearQueues_31 : decode b_D_clearQueues 31 = .ok (.aload_n 0, 1) := by decide +kernel
theorem d_D_clearQueues_32 : decode b_D_clearQueues 32 = .ok (.getfield 35, 3) := by decide +kernel
theorem d_D_clearQueues_35 : decode b_D_clearQueues 35 = .ok (.iload_n 2, 1) := by decide +kernel
theorem d_D_clearQueues_36 : decode b_D_clearQueues 36 = .ok (.aaload, 1) := by decide +kernel
theorem d_D_clearQueues_37 : decode b_D_clearQueues 37 = .ok (.iconst 0, 1) := by decide +kernel
theorem d_D_clearQueues_38 : decode b_D_clearQueues 38 = .ok (.putfield 96, 3) := by decide +kernel
theorem d_D_clearQueues_41 : decode b_D_clearQueues 41 = .ok (.iinc 2 1, 3) := by decide +kernel
theorem d_D_clearQueues_44 : decode b_D_clearQueues 44 = .ok (.goto (-40), 3) := by decide +kernel
theorem d_D_clearQueues_47 : decode b_D_clearQueues 47 = .ok (.iload_n 1, 1) := by decide +kernel
theorem d_D_clearQueues_48 : decode b_D_clearQueues 48 = .ok (.ireturn, 1) := by decide +kernel
theorem d_D_losePower_0 : decode b_D_losePower 0 = .ok (.aload_n 0, 1) := by decide +kernel
theorem d_D_losePower_1 : decode b_D_losePower 1 = .ok (.getfield 29, 3) := by decide +kernel
theorem d_D_losePower_4 : decode b_D_losePower 4 = .ok (.getfield 132, 3) := by decide +kernel
theorem d_D_losePower_7 : decode b_D_losePower 7 = .ok (.istore_n 1, 1) := by decide +kernel
theorem d_D_losePower_8 : decode b_D_losePower 8 = .ok (.aload_n 0, 1) := by decide +kernel
theorem d_D_losePower_9 : decode b_D_losePower 9 = .ok (.getfield 29, 3) := by decide +kernel
theorem d_D_losePower_12 : decode b_D_losePower 12 = .ok (.iconst 0, 1) := by decide +kernel
theorem d_D_losePower_13 : decode b_D_losePower 13 = .ok (.putfield 132, 3) := by decide +kernel
theorem d_D_losePower_16 : decode b_D_losePower 16 = .ok (.aload_n 0, 1) := by decide +kernel
theorem d_D_losePower_17 : decode b_D_losePower 17 = .ok (.invokevirtual 112, 3) := by decide +kernel
theorem d_D_losePower_20 : decode b_D_losePower 20 = .ok (.pop, 1) := by decide +kernel
theorem d_D_losePower_21 : decode b_D_losePower 21 = .ok (.iload_n 1, 1) := by decide +kernel
theorem d_D_losePower_22 : decode b_D_losePower 22 = .ok (.ireturn, 1) := by decide +kernel
set_option maxHeartbeats 4000000 in
set_option maxRecDepth 100000 in
theorem m_D_refusalOfStep {l : Launch} {D : va_G} {cA : Nat → ClassId} {n0 : Nat} {w : mw} {ρ k : Nat → Nat} {L : Nat} {fl : Nat → Int64} {us : List uU} {sn pw : Nat} {pq : Nat → List pC} {cq : Nat → List (Int32 × Int64)} {ln : Nat} {tn : Int32} {tr : Int64} {pl : Nat} (Z : DRp cA w ρ k L fl us sn pw pq cq ln tn tr pl) {q x : Int32} :
    Mi l D cA n0 y_D_refusalOfStep c_D_refusalOfStep (rmd 1) [.ref (k 0), .int q, .int x] w (fun r w' => r = refS pq cq q x ∧ w' = w) := by
  refine mw_met (cc := b_D_refusalOfStep) (maxL := 3) (ret := (some .int)) (by decide) rfl (Nat.le_of_ble_eq_true rfl) ?_
  intro p e s m below meth c ls G hrt hlocks hname h hl
  have G : mw_G p m c b_D_refusalOfStep 3 s _ (c_D_refusalOfStep :: TB) R_D D cl (tys cA) n0 := G
  have hx := G.1.1
  have hb := G.1.2.1
  have hl : lv_has ls 3 [(0, .ref (k 0)), (1, .int q), (2, .int x)] := hl
  obtain ⟨K0, ⟨qf, hq1, hq2⟩, hQ, r0, r1, r4, hL1, hvC⟩ := id Z
  have hD : w (k 0) = some (dcell (k 1) (k 2) (k 4) ln tn tr sn pw pl) := K0.1
  refine lv_iload_n hx hb d_D_refusalOfStep_0 rfl (lv_at hl 1 rfl) ?_
  refine mx_ci (cS (As := [.int q]) (rest := []) G h (m_D_isQueue (x := q)) k_149 k_150 k_1 k_151 rfl hd_D_isQueue rfl rfl ⟨Nat.le_of_ble_eq_true rfl, Nat.le_of_ble_eq_true rfl⟩ rfl hl.1 rfl (Nat.le_of_ble_eq_true rfl) d_D_refusalOfStep_1 ⟨Nat.le_of_ble_eq_true rfl, Nat.le_of_ble_eq_true rfl⟩) h (fun r_2 w_1 H locs h hcp => ?_)
  obtain ⟨er_3, ew_4⟩ := hcp
  subst er_3
  rw [ew_4] at h
  refine lv_if_eq (tgt := 20) hx hb d_D_refusalOfStep_4 (by decide) (fun c_5 => ?_) (fun c_5 => ?_)
  · refine lv_iconst (v := (-1)) hx hb d_D_refusalOfStep_20 (by decide) ?_
    exact mx_reti G h hrt hlocks d_D_refusalOfStep_21 (⟨by rw [refS, if_neg (fun z => bI_0 c_5 z.1)], rfl⟩)
  · have hi3 := bI_n c_5
    obtain ⟨j, hj, hqj⟩ := ixQ 3 rfl (by decide) hi3.1 hi3.2
    have hqc : q.toNatClampNeg = j := by rw [hqj]; exact nI_c (by omega)
    obtain ⟨f, g, gu, fn, fr, hX⟩ := hQ j hj
    have hX1 := hX.1
    refine lv_aload_n hx hb d_D_refusalOfStep_7 rfl (lv_at hl 0 rfl) ?_
    refine mx_get G h hD rfl 2 (by decide) (tb_in in_D) (tb_c k_119) rfl rfl d_D_refusalOfStep_8 ?_
    refine lv_iload_n hx hb d_D_refusalOfStep_11 rfl (lv_at hl 1 rfl) ?_
    refine ax_a G h 5 hq1 rfl j hqj hj (by decide) (hq2 j hj) d_D_refusalOfStep_12 ?_
    refine lv_iload_n hx hb d_D_refusalOfStep_13 rfl (lv_at hl 2 rfl) ?_
    refine mx_ci (cV (As := [.int x]) (rest := []) G h (m_Q_hasPending hX1 (x := x)) k_171 k_172 k_173 k_5 k_174 hd_Q_hasPending rfl rfl ⟨Nat.le_of_ble_eq_true rfl, Nat.le_of_ble_eq_true rfl⟩ hX1 rfl rfl hl.1 rfl (Nat.le_of_ble_eq_true rfl) d_D_refusalOfStep_14 ⟨Nat.le_of_ble_eq_true rfl, Nat.le_of_ble_eq_true rfl⟩) h (fun r_7 w_6 H locs h hcp => ?_)
    obtain ⟨er_8, ew_9⟩ := hcp
    subst er_8
    rw [ew_9] at h
    refine lv_if_ne (tgt := 22) hx hb d_D_refusalOfStep_17 (by decide) (fun c_10 => ?_) (fun c_10 => ?_)
    · refine lv_aload_n hx hb d_D_refusalOfStep_22 rfl (lv_at hl 0 rfl) ?_
      refine mx_get G h hD rfl 2 (by decide) (tb_in in_D) (tb_c k_119) rfl rfl d_D_refusalOfStep_23 ?_
      refine lv_iload_n hx hb d_D_refusalOfStep_26 rfl (lv_at hl 1 rfl) ?_
      refine ax_a G h 5 hq1 rfl j hqj hj (by decide) (hq2 j hj) d_D_refusalOfStep_27 ?_
      refine mx_get G h hX1 rfl 4 (by decide) (tb_in in_Q) (tb_c k_103) rfl rfl d_D_refusalOfStep_28 ?_
      refine lv_iconst (v := 4) hx hb d_D_refusalOfStep_31 (by decide) ?_
      refine lv_icmp_lt (tgt := 40) hx hb d_D_refusalOfStep_32 (by decide) (fun c_11 => ?_) (fun c_11 => ?_)
      · refine lv_iconst (v := 0) hx hb d_D_refusalOfStep_40 (by decide) ?_
        exact mx_reti G h hrt hlocks d_D_refusalOfStep_41 (⟨by rw [refS, hqc, if_pos ⟨hi3, bI_n c_10⟩, if_neg (Nat.not_le.mpr ((nI_ltI (by have := hX.2.2.2.2.2.1; omega) (by decide)).mp c_11))], rfl⟩)
      · refine lv_bipush (v := -3) hx hb d_D_refusalOfStep_35 (by decide) ?_
        refine lv_goto (tgt := 41) hx hb d_D_refusalOfStep_37 (by decide) ?_
        exact mx_reti G h hrt hlocks d_D_refusalOfStep_41 (⟨by rw [refS, hqc, if_pos ⟨hi3, bI_n c_10⟩, if_pos (Nat.not_lt.mp (fun z => c_11 ((nI_ltI (by have := hX.2.2.2.2.2.1; omega) (by decide)).mpr z)))], rfl⟩)
    · refine lv_iconst (v := (-1)) hx hb d_D_refusalOfStep_20 (by decide) ?_
      exact mx_reti G h hrt hlocks d_D_refusalOfStep_21 (⟨by rw [refS, hqc, if_neg (fun z => bI_0 c_10 z.2)], rfl⟩)
theorem DRp.ext3 {cA : Nat → ClassId} {w : mw} {ρ k : Nat → Nat} {L : Nat} {fl : Nat → Int64} {us : List uU} {sn pw : Nat} {pq : Nat → List pC} {cq : Nat → List (Int32 × Int64)} {ln : Nat} {tn : Int32} {tr : Int64} {pl : Nat} (h : DRp cA w ρ k L fl us sn pw (va_up (va_up (va_up pq 0 []) 1 []) 2 []) (va_up (va_up (va_up cq 0 []) 1 []) 2 []) ln tn tr pl) : DRp cA w ρ k L fl us sn pw (fun _ => []) (fun _ => []) ln tn tr pl := by
  obtain ⟨K0, h1, hQ, r0, r1, r4, hL1, hvC⟩ := h
  refine ⟨K0, h1, fun i hi => ?_, r0, r1, r4, hL1, fun i hi c hc => by simp at hc⟩
  have := hQ i hi
  rcases (show i = 0 ∨ i = 1 ∨ i = 2 by omega) with rfl | rfl | rfl <;> simpa [va_up] using this
set_option maxHeartbeats 4000000 in
set_option maxRecDepth 100000 in
theorem m_D_clearQueues {l : Launch} {D : va_G} {cA : Nat → ClassId} {n0 : Nat} {w : mw} {ρ k : Nat → Nat} {L : Nat} {fl : Nat → Int64} {us : List uU} {sn pw : Nat} {pq : Nat → List pC} {cq : Nat → List (Int32 × Int64)} {ln : Nat} {tn : Int32} {tr : Int64} {pl : Nat} (Z : DRp cA w ρ k L fl us sn pw pq cq ln tn tr pl) :
    Mi l D cA n0 y_D_clearQueues c_D_clearQueues (rmd 0) [.ref (k 0)] w (fun r w' => r = nI ((pq 0).length + (pq 1).length + (pq 2).length) ∧ DRp cA w' ρ k L fl us sn pw (fun _ => []) (fun _ => []) ln tn tr pl ∧ FR w w' (RG ρ)) := by
  refine mw_met (cc := b_D_clearQueues) (maxL := 3) (ret := (some .int)) (by decide) rfl (Nat.le_of_ble_eq_true rfl) ?_
  intro p e s m below meth c ls G hrt hlocks hname h hl
  have G : mw_G p m c b_D_clearQueues 3 s _ (c_D_clearQueues :: TB) R_D D cl (tys cA) n0 := G
  have hx := G.1.1
  have hb := G.1.2.1
  have hl : lv_has ls 3 [(0, .ref (k 0))] := hl
  have clr : ∀ (v : mw) (p1 : Nat → List pC) (c1 : Nat → List (Int32 × Int64)) (j : Nat), j < 3 → DRp cA v ρ k L fl us sn pw p1 c1 ln tn tr pl → DRp cA (mw_up v (k (5 + j)) (qcell (k (8 + j)) (k (11 + j)) (k (14 + j)) 0 0)) ρ k L fl us sn pw (va_up p1 j []) (va_up c1 j []) ln tn tr pl := by
    intro v p1 c1 j hj h1
    obtain ⟨f, g, gu, fn, fr, hX⟩ := h1.2.2.1 j hj
    exact h1.queue hj ⟨f, g, gu, fn, fr, hX.clr⟩ (fun c hc => by simp at hc) (FR.up hX.2.2.2.2.2.2.2.2.2.2.2.1)
  refine lv_iconst (v := 0) hx hb d_D_clearQueues_0 (by decide) ?_
  refine lv_istore_n (lv' := [(1, .int 0), (0, .ref (k 0))]) hx hb d_D_clearQueues_1 rfl hl (by decide) rfl (fun ls hl => ?_)
  refine lv_iconst (v := 0) hx hb d_D_clearQueues_2 (by decide) ?_
  refine lv_istore_n (lv' := [(2, .int 0), (1, .int 0), (0, .ref (k 0))]) hx hb d_D_clearQueues_3 rfl hl (by decide) rfl (fun ls hl => ?_)
  have hfr : FR w w (RG ρ) := FR.rf
  have e0 : (0 : Int32) = nI 0 := rfl
  obtain ⟨K0, ⟨qf, hq1, hq2⟩, hQ, r0, r1, r4, hL1, hvC⟩ := id Z
  obtain ⟨f, g, gu, fn, fr, hX⟩ := hQ 0 (by decide)
  have hX1 := hX.1
  have hX1 : w (k (5 + 0)) = some (qcell (k (8 + 0)) (k (11 + 0)) (k (14 + 0)) (pq 0).length (cq 0).length) := hX1
  refine lv_iload_n hx hb d_D_clearQueues_4 rfl (lv_at hl 0 rfl) ?_
  refine lv_iconst (v := 3) hx hb d_D_clearQueues_5 (by decide) ?_
  refine lv_icmp_ge (tgt := 47) hx hb d_D_clearQueues_6 (by decide) (fun c_1 => absurd c_1 (by decide)) (fun c_1 => ?_)
  refine lv_iload_n hx hb d_D_clearQueues_9 rfl (lv_at hl 1 rfl) ?_
  refine lv_aload_n hx hb d_D_clearQueues_10 rfl (lv_at hl 2 rfl) ?_
  refine mx_get G h K0.1 rfl 2 (by decide) (tb_in in_D) (tb_c k_119) rfl rfl d_D_clearQueues_11 ?_
  refine lv_iload_n hx hb d_D_clearQueues_14 rfl (lv_at hl 0 rfl) ?_
  refine ax_a G h 5 hq1 rfl 0 rfl (by decide) (by decide) (hq2 0 (by decide)) d_D_clearQueues_15 ?_
  refine mx_get G h hX1 rfl 3 (by decide) (tb_in in_Q) (tb_c k_102) rfl rfl d_D_clearQueues_16 ?_
  refine lv_iadd hx hb d_D_clearQueues_19 ?_
  refine lv_istore_n (lv' := [(1, .int (0 + (nI (pq 0).length))), (2, .int 0), (0, .ref (k 0))]) hx hb d_D_clearQueues_20 rfl hl (by decide) rfl (fun ls hl => ?_)
  refine lv_aload_n hx hb d_D_clearQueues_21 rfl (lv_at hl 2 rfl) ?_
  refine mx_get G h K0.1 rfl 2 (by decide) (tb_in in_D) (tb_c k_119) rfl rfl d_D_clearQueues_22 ?_
  refine lv_iload_n hx hb d_D_clearQueues_25 rfl (lv_at hl 1 rfl) ?_
  refine ax_a G h 5 hq1 rfl 0 rfl (by decide) (by decide) (hq2 0 (by decide)) d_D_clearQueues_26 ?_
  refine lv_iconst (v := 0) hx hb d_D_clearQueues_27 (by decide) ?_
  refine mx_put G h hX1 rfl 3 (by decide) (tb_in in_Q) t_Q t_Q_ok n_Q (tb_c k_102) rfl rfl rfl rfl rfl (Nat.le_of_ble_eq_true rfl) d_D_clearQueues_28 (fun H locs h => ?_)
  have h : mw_H n0 D cl s (mw_up w (k (5 + 0)) (.inr (3, [.ref (k (8 + 0)), .ref (k (11 + 0)), .ref (k (14 + 0)), .int 0, .int (nI (cq 0).length)]))) H locs := h
  obtain ⟨w_2, ew_2⟩ : ∃ xx : mw, mw_up w (k (5 + 0)) (.inr (3, [.ref (k (8 + 0)), .ref (k (11 + 0)), .ref (k (14 + 0)), .int 0, .int (nI (cq 0).length)])) = xx := ⟨_, rfl⟩
  rw [ew_2] at h
  have f_3 : w_2 (k (5 + 0)) = some (.inr (3, [.ref (k (8 + 0)), .ref (k (11 + 0)), .ref (k (14 + 0)), .int 0, .int (nI (cq 0).length)])) := by rw [← ew_2]; exact mw_self
  refine lv_aload_n hx hb d_D_clearQueues_31 rfl (lv_at hl 2 rfl) ?_
  have hD2 : w_2 (k 0) = some (dcell (k 1) (k 2) (k 4) ln tn tr sn pw pl) := by rw [← ew_2, mw_ne (mw_apart K0.1 hX1 (by simp))]; exact K0.1
  have hq3 : w_2 (k 4) = some (refs cA 5 3 qf) := by rw [← ew_2, mw_ne (mw_apart hq1 hX1 (by simp))]; exact hq1
  refine mx_get G h hD2 rfl 2 (by decide) (tb_in in_D) (tb_c k_119) rfl rfl d_D_clearQueues_32 ?_
  refine lv_iload_n hx hb d_D_clearQueues_35 rfl (lv_at hl 1 rfl) ?_
  refine ax_a G h 5 hq3 rfl 0 rfl (by decide) (by decide) (hq2 0 (by decide)) d_D_clearQueues_36 ?_
  refine lv_iconst (v := 0) hx hb d_D_clearQueues_37 (by decide) ?_
  refine mx_put G h f_3 rfl 4 (by decide) (tb_in in_Q) t_Q t_Q_ok n_Q (tb_c k_103) rfl rfl rfl rfl rfl (Nat.le_of_ble_eq_true rfl) d_D_clearQueues_38 (fun H locs h => ?_)
  have h : mw_H n0 D cl s (mw_up w_2 (k (5 + 0)) (.inr (3, [.ref (k (8 + 0)), .ref (k (11 + 0)), .ref (k (14 + 0)), .int 0, .int 0]))) H locs := h
  obtain ⟨w_4, ew_4⟩ : ∃ xx : mw, mw_up w_2 (k (5 + 0)) (.inr (3, [.ref (k (8 + 0)), .ref (k (11 + 0)), .ref (k (14 + 0)), .int 0, .int 0])) = xx := ⟨_, rfl⟩
  rw [ew_4] at h
  have f_5 : w_4 (k (5 + 0)) = some (.inr (3, [.ref (k (8 + 0)), .ref (k (11 + 0)), .ref (k (14 + 0)), .int 0, .int 0])) := by rw [← ew_4]; exact mw_self
  refine lv_iinc (v := 0 + 1) (lv' := [(2, .int (0 + 1)), (1, .int (0 + (nI (pq 0).length))), (0, .ref (k 0))]) hx hb d_D_clearQueues_41 hl (k := 1) rfl rfl (by decide) rfl (fun ls hl => ?_)
  refine lv_goto (tgt := 4) hx hb d_D_clearQueues_44 (by decide) ?_
  have q9 : mw_up w (k (5 + 0)) (qcell (k (8 + 0)) (k (11 + 0)) (k (14 + 0)) 0 0) = w_4 := by rw [← ew_4, ← ew_2, mw_uu]; rfl
  have Z_6 : DRp cA w_4 ρ k L fl us sn pw (va_up pq 0 []) (va_up cq 0 []) ln tn tr pl := by rw [← q9]; exact clr _ _ _ 0 (by decide) Z
  have hfr : FR w w_4 (RG ρ) := hfr.tr (by rw [← q9]; exact FR.up (RG_Q (j := 0) (by decide) hX.2.2.2.2.2.2.2.2.2.2.2.1))
  obtain ⟨K0, ⟨qf, hq1, hq2⟩, hQ, r0, r1, r4, hL1, hvC⟩ := id Z_6
  obtain ⟨f, g, gu, fn, fr, hX⟩ := hQ 1 (by decide)
  have hX1 := hX.1
  have hX1 : w_4 (k (5 + 1)) = some (qcell (k (8 + 1)) (k (11 + 1)) (k (14 + 1)) ((va_up pq 0 []) 1).length ((va_up cq 0 []) 1).length) := hX1
  refine lv_iload_n hx hb d_D_clearQueues_4 rfl (lv_at hl 0 rfl) ?_
  refine lv_iconst (v := 3) hx hb d_D_clearQueues_5 (by decide) ?_
  refine lv_icmp_ge (tgt := 47) hx hb d_D_clearQueues_6 (by decide) (fun c_7 => absurd c_7 (by decide)) (fun c_7 => ?_)
  refine lv_iload_n hx hb d_D_clearQueues_9 rfl (lv_at hl 1 rfl) ?_
  refine lv_aload_n hx hb d_D_clearQueues_10 rfl (lv_at hl 2 rfl) ?_
  refine mx_get G h K0.1 rfl 2 (by decide) (tb_in in_D) (tb_c k_119) rfl rfl d_D_clearQueues_11 ?_
  refine lv_iload_n hx hb d_D_clearQueues_14 rfl (lv_at hl 0 rfl) ?_
  refine ax_a G h 5 hq1 rfl 1 (by decide) (by decide) (by decide) (hq2 1 (by decide)) d_D_clearQueues_15 ?_
  refine mx_get G h hX1 rfl 3 (by decide) (tb_in in_Q) (tb_c k_102) rfl rfl d_D_clearQueues_16 ?_
  refine lv_iadd hx hb d_D_clearQueues_19 ?_
  refine lv_istore_n (lv' := [(1, .int ((0 + (nI (pq 0).length)) + (nI ((va_up pq 0 []) 1).length))), (2, .int (0 + 1)), (0, .ref (k 0))]) hx hb d_D_clearQueues_20 rfl hl (by decide) rfl (fun ls hl => ?_)
  refine lv_aload_n hx hb d_D_clearQueues_21 rfl (lv_at hl 2 rfl) ?_
  refine mx_get G h K0.1 rfl 2 (by decide) (tb_in in_D) (tb_c k_119) rfl rfl d_D_clearQueues_22 ?_
  refine lv_iload_n hx hb d_D_clearQueues_25 rfl (lv_at hl 1 rfl) ?_
  refine ax_a G h 5 hq1 rfl 1 (by decide) (by decide) (by decide) (hq2 1 (by decide)) d_D_clearQueues_26 ?_
  refine lv_iconst (v := 0) hx hb d_D_clearQueues_27 (by decide) ?_
  refine mx_put G h hX1 rfl 3 (by decide) (tb_in in_Q) t_Q t_Q_ok n_Q (tb_c k_102) rfl rfl rfl rfl rfl (Nat.le_of_ble_eq_true rfl) d_D_clearQueues_28 (fun H locs h => ?_)
  have h : mw_H n0 D cl s (mw_up w_4 (k (5 + 1)) (.inr (3, [.ref (k (8 + 1)), .ref (k (11 + 1)), .ref (k (14 + 1)), .int 0, .int (nI ((va_up cq 0 []) 1).length)]))) H locs := h
  obtain ⟨w_8, ew_8⟩ : ∃ xx : mw, mw_up w_4 (k (5 + 1)) (.inr (3, [.ref (k (8 + 1)), .ref (k (11 + 1)), .ref (k (14 + 1)), .int 0, .int (nI ((va_up cq 0 []) 1).length)])) = xx := ⟨_, rfl⟩
  rw [ew_8] at h
  have f_9 : w_8 (k (5 + 1)) = some (.inr (3, [.ref (k (8 + 1)), .ref (k (11 + 1)), .ref (k (14 + 1)), .int 0, .int (nI ((va_up cq 0 []) 1).length)])) := by rw [← ew_8]; exact mw_self
  refine lv_aload_n hx hb d_D_clearQueues_31 rfl (lv_at hl 2 rfl) ?_
  have hD2 : w_8 (k 0) = some (dcell (k 1) (k 2) (k 4) ln tn tr sn pw pl) := by rw [← ew_8, mw_ne (mw_apart K0.1 hX1 (by simp))]; exact K0.1
  have hq3 : w_8 (k 4) = some (refs cA 5 3 qf) := by rw [← ew_8, mw_ne (mw_apart hq1 hX1 (by simp))]; exact hq1
  refine mx_get G h hD2 rfl 2 (by decide) (tb_in in_D) (tb_c k_119) rfl rfl d_D_clearQueues_32 ?_
  refine lv_iload_n hx hb d_D_clearQueues_35 rfl (lv_at hl 1 rfl) ?_
  refine ax_a G h 5 hq3 rfl 1 (by decide) (by decide) (by decide) (hq2 1 (by decide)) d_D_clearQueues_36 ?_
  refine lv_iconst (v := 0) hx hb d_D_clearQueues_37 (by decide) ?_
  refine mx_put G h f_9 rfl 4 (by decide) (tb_in in_Q) t_Q t_Q_ok n_Q (tb_c k_103) rfl rfl rfl rfl rfl (Nat.le_of_ble_eq_true rfl) d_D_clearQueues_38 (fun H locs h => ?_)
  have h : mw_H n0 D cl s (mw_up w_8 (k (5 + 1)) (.inr (3, [.ref (k (8 + 1)), .ref (k (11 + 1)), .ref (k (14 + 1)), .int 0, .int 0]))) H locs := h
  obtain ⟨w_10, ew_10⟩ : ∃ xx : mw, mw_up w_8 (k (5 + 1)) (.inr (3, [.ref (k (8 + 1)), .ref (k (11 + 1)), .ref (k (14 + 1)), .int 0, .int 0])) = xx := ⟨_, rfl⟩
  rw [ew_10] at h
  have f_11 : w_10 (k (5 + 1)) = some (.inr (3, [.ref (k (8 + 1)), .ref (k (11 + 1)), .ref (k (14 + 1)), .int 0, .int 0])) := by rw [← ew_10]; exact mw_self
  refine lv_iinc (v := (0 + 1) + 1) (lv' := [(2, .int ((0 + 1) + 1)), (1, .int ((0 + (nI (pq 0).length)) + (nI ((va_up pq 0 []) 1).length))), (0, .ref (k 0))]) hx hb d_D_clearQueues_41 hl (k := 1) rfl rfl (by decide) rfl (fun ls hl => ?_)
  refine lv_goto (tgt := 4) hx hb d_D_clearQueues_44 (by decide) ?_
  have q9 : mw_up w_4 (k (5 + 1)) (qcell (k (8 + 1)) (k (11 + 1)) (k (14 + 1)) 0 0) = w_10 := by rw [← ew_10, ← ew_8, mw_uu]; rfl
  have Z_12 : DRp cA w_10 ρ k L fl us sn pw (va_up (va_up pq 0 []) 1 []) (va_up (va_up cq 0 []) 1 []) ln tn tr pl := by rw [← q9]; exact clr _ _ _ 1 (by decide) Z_6
  have hfr : FR w w_10 (RG ρ) := hfr.tr (by rw [← q9]; exact FR.up (RG_Q (j := 1) (by decide) hX.2.2.2.2.2.2.2.2.2.2.2.1))
  obtain ⟨K0, ⟨qf, hq1, hq2⟩, hQ, r0, r1, r4, hL1, hvC⟩ := id Z_12
  obtain ⟨f, g, gu, fn, fr, hX⟩ := hQ 2 (by decide)
  have hX1 := hX.1
  have hX1 : w_10 (k (5 + 2)) = some (qcell (k (8 + 2)) (k (11 + 2)) (k (14 + 2)) ((va_up (va_up pq 0 []) 1 []) 2).length ((va_up (va_up cq 0 []) 1 []) 2).length) := hX1
  refine lv_iload_n hx hb d_D_clearQueues_4 rfl (lv_at hl 0 rfl) ?_
  refine lv_iconst (v := 3) hx hb d_D_clearQueues_5 (by decide) ?_
  refine lv_icmp_ge (tgt := 47) hx hb d_D_clearQueues_6 (by decide) (fun c_13 => absurd c_13 (by decide)) (fun c_13 => ?_)
  refine lv_iload_n hx hb d_D_clearQueues_9 rfl (lv_at hl 1 rfl) ?_
  refine lv_aload_n hx hb d_D_clearQueues_10 rfl (lv_at hl 2 rfl) ?_
  refine mx_get G h K0.1 rfl 2 (by decide) (tb_in in_D) (tb_c k_119) rfl rfl d_D_clearQueues_11 ?_
  refine lv_iload_n hx hb d_D_clearQueues_14 rfl (lv_at hl 0 rfl) ?_
  refine ax_a G h 5 hq1 rfl 2 (by decide) (by decide) (by decide) (hq2 2 (by decide)) d_D_clearQueues_15 ?_
  refine mx_get G h hX1 rfl 3 (by decide) (tb_in in_Q) (tb_c k_102) rfl rfl d_D_clearQueues_16 ?_
  refine lv_iadd hx hb d_D_clearQueues_19 ?_
  refine lv_istore_n (lv' := [(1, .int (((0 + (nI (pq 0).length)) + (nI ((va_up pq 0 []) 1).length)) + (nI ((va_up (va_up pq 0 []) 1 []) 2).length))), (2, .int ((0 + 1) + 1)), (0, .ref (k 0))]) hx hb d_D_clearQueues_20 rfl hl (by decide) rfl (fun ls hl => ?_)
  refine lv_aload_n hx hb d_D_clearQueues_21 rfl (lv_at hl 2 rfl) ?_
  refine mx_get G h K0.1 rfl 2 (by decide) (tb_in in_D) (tb_c k_119) rfl rfl d_D_clearQueues_22 ?_
  refine lv_iload_n hx hb d_D_clearQueues_25 rfl (lv_at hl 1 rfl) ?_
  refine ax_a G h 5 hq1 rfl 2 (by decide) (by decide) (by decide) (hq2 2 (by decide)) d_D_clearQueues_26 ?_
  refine lv_iconst (v := 0) hx hb d_D_clearQueues_27 (by decide) ?_
  refine mx_put G h hX1 rfl 3 (by decide) (tb_in in_Q) t_Q t_Q_ok n_Q (tb_c k_102) rfl rfl rfl rfl rfl (Nat.le_of_ble_eq_true rfl) d_D_clearQueues_28 (fun H locs h => ?_)
  have h : mw_H n0 D cl s (mw_up w_10 (k (5 + 2)) (.inr (3, [.ref (k (8 + 2)), .ref (k (11 + 2)), .ref (k (14 + 2)), .int 0, .int (nI ((va_up (va_up cq 0 []) 1 []) 2).length)]))) H locs := h
  obtain ⟨w_14, ew_14⟩ : ∃ xx : mw, mw_up w_10 (k (5 + 2)) (.inr (3, [.ref (k (8 + 2)), .ref (k (11 + 2)), .ref (k (14 + 2)), .int 0, .int (nI ((va_up (va_up cq 0 []) 1 []) 2).length)])) = xx := ⟨_, rfl⟩
  rw [ew_14] at h
  have f_15 : w_14 (k (5 + 2)) = some (.inr (3, [.ref (k (8 + 2)), .ref (k (11 + 2)), .ref (k (14 + 2)), .int 0, .int (nI ((va_up (va_up cq 0 []) 1 []) 2).length)])) := by rw [← ew_14]; exact mw_self
  refine lv_aload_n hx hb d_D_clearQueues_31 rfl (lv_at hl 2 rfl) ?_
  have hD2 : w_14 (k 0) = some (dcell (k 1) (k 2) (k 4) ln tn tr sn pw pl) := by rw [← ew_14, mw_ne (mw_apart K0.1 hX1 (by simp))]; exact K0.1
  have hq3 : w_14 (k 4) = some (refs cA 5 3 qf) := by rw [← ew_14, mw_ne (mw_apart hq1 hX1 (by simp))]; exact hq1
  refine mx_get G h hD2 rfl 2 (by decide) (tb_in in_D) (tb_c k_119) rfl rfl d_D_clearQueues_32 ?_
  refine lv_iload_n hx hb d_D_clearQueues_35 rfl (lv_at hl 1 rfl) ?_
  refine ax_a G h 5 hq3 rfl 2 (by decide) (by decide) (by decide) (hq2 2 (by decide)) d_D_clearQueues_36 ?_
  refine lv_iconst (v := 0) hx hb d_D_clearQueues_37 (by decide) ?_
  refine mx_put G h f_15 rfl 4 (by decide) (tb_in in_Q) t_Q t_Q_ok n_Q (tb_c k_103) rfl rfl rfl rfl rfl (Nat.le_of_ble_eq_true rfl) d_D_clearQueues_38 (fun H locs h => ?_)
  have h : mw_H n0 D cl s (mw_up w_14 (k (5 + 2)) (.inr (3, [.ref (k (8 + 2)), .ref (k (11 + 2)), .ref (k (14 + 2)), .int 0, .int 0]))) H locs := h
  obtain ⟨w_16, ew_16⟩ : ∃ xx : mw, mw_up w_14 (k (5 + 2)) (.inr (3, [.ref (k (8 + 2)), .ref (k (11 + 2)), .ref (k (14 + 2)), .int 0, .int 0])) = xx := ⟨_, rfl⟩
  rw [ew_16] at h
  have f_17 : w_16 (k (5 + 2)) = some (.inr (3, [.ref (k (8 + 2)), .ref (k (11 + 2)), .ref (k (14 + 2)), .int 0, .int 0])) := by rw [← ew_16]; exact mw_self
  refine lv_iinc (v := ((0 + 1) + 1) + 1) (lv' := [(2, .int (((0 + 1) + 1) + 1)), (1, .int (((0 + (nI (pq 0).length)) + (nI ((va_up pq 0 []) 1).length)) + (nI ((va_up (va_up pq 0 []) 1 []) 2).length))), (0, .ref (k 0))]) hx hb d_D_clearQueues_41 hl (k := 1) rfl rfl (by decide) rfl (fun ls hl => ?_)
  refine lv_goto (tgt := 4) hx hb d_D_clearQueues_44 (by decide) ?_
  have q9 : mw_up w_10 (k (5 + 2)) (qcell (k (8 + 2)) (k (11 + 2)) (k (14 + 2)) 0 0) = w_16 := by rw [← ew_16, ← ew_14, mw_uu]; rfl
  have Z_18 : DRp cA w_16 ρ k L fl us sn pw (va_up (va_up (va_up pq 0 []) 1 []) 2 []) (va_up (va_up (va_up cq 0 []) 1 []) 2 []) ln tn tr pl := by rw [← q9]; exact clr _ _ _ 2 (by decide) Z_12
  have hfr : FR w w_16 (RG ρ) := hfr.tr (by rw [← q9]; exact FR.up (RG_Q (j := 2) (by decide) hX.2.2.2.2.2.2.2.2.2.2.2.1))
  refine lv_iload_n hx hb d_D_clearQueues_4 rfl (lv_at hl 0 rfl) ?_
  refine lv_iconst (v := 3) hx hb d_D_clearQueues_5 (by decide) ?_
  refine lv_icmp_ge (tgt := 47) hx hb d_D_clearQueues_6 (by decide) (fun c_19 => ?_) (fun c_19 => absurd (by decide) c_19)
  refine lv_iload_n hx hb d_D_clearQueues_47 rfl (lv_at hl 1 rfl) ?_
  exact mx_reti G h hrt hlocks d_D_clearQueues_48 (⟨by rw [← nI_add, ← nI_add]; simp [va_up], (by have q8 : (va_up (va_up (va_up pq 0 []) 1 []) 2 []) = (fun _ => []) ∨ True := Or.inr trivial; exact DRp.ext3 Z_18), hfr⟩)
set_option maxHeartbeats 4000000 in
set_option maxRecDepth 100000 in
theorem m_D_losePower {l : Launch} {D : va_G} {cA : Nat → ClassId} {n0 : Nat} {w : mw} {ρ k : Nat → Nat} {L : Nat} {fl : Nat → Int64} {us : List uU} {sn pw : Nat} {pq : Nat → List pC} {cq : Nat → List (Int32 × Int64)} {ln : Nat} {tn : Int32} {tr : Int64} {pl : Nat} (Z : DRp cA w ρ k L fl us sn pw pq cq ln tn tr pl) :
    Mi l D cA n0 y_D_losePower c_D_losePower (rmd 1) [.ref (k 0)] w (fun r w' => r = nI us.length ∧ DRp cA w' ρ k L fl [] sn pw (fun _ => []) (fun _ => []) ln tn tr pl ∧ FR w w' (RG ρ)) := by
  refine mw_met (cc := b_D_losePower) (maxL := 2) (ret := (some .int)) (by decide) rfl (Nat.le_of_ble_eq_true rfl) ?_
  intro p e s m below meth c ls G hrt hlocks hname h hl
  have G : mw_G p m c b_D_losePower 2 s _ (c_D_losePower :: TB) R_D D cl (tys cA) n0 := G
  have hx := G.1.1
  have hb := G.1.2.1
  have hl : lv_has ls 2 [(0, .ref (k 0))] := hl
  obtain ⟨K0, ⟨qf, hq1, hq2⟩, hQ, r0, r1, r4, hL1, hvC⟩ := id Z
  have hD : w (k 0) = some (dcell (k 1) (k 2) (k 4) ln tn tr sn pw pl) := K0.1
  obtain ⟨-, hF, ⟨f, g, hX⟩, hS0, hSf, hv⟩ := id K0
  have hX : CAx cA w (fun x => ρ x = 1) (k 2) (k 3) L us f g := hX
  have hC := hX.1
  refine lv_aload_n hx hb d_D_losePower_0 rfl (lv_at hl 0 rfl) ?_
  refine mx_get G h hD rfl 1 (by decide) (tb_in in_D) (tb_c k_118) rfl rfl d_D_losePower_1 ?_
  refine mx_get G h hC rfl 1 (by decide) (tb_in in_C) (tb_c k_60) rfl rfl d_D_losePower_4 ?_
  refine lv_istore_n (lv' := [(1, .int (nI us.length)), (0, .ref (k 0))]) hx hb d_D_losePower_7 rfl hl (by decide) rfl (fun ls hl => ?_)
  refine lv_aload_n hx hb d_D_losePower_8 rfl (lv_at hl 1 rfl) ?_
  refine mx_get G h hD rfl 1 (by decide) (tb_in in_D) (tb_c k_118) rfl rfl d_D_losePower_9 ?_
  refine lv_iconst (v := 0) hx hb d_D_losePower_12 (by decide) ?_
  refine mx_put G h hC rfl 1 (by decide) (tb_in in_C) t_C t_C_ok n_C (tb_c k_60) rfl rfl rfl rfl rfl (Nat.le_of_ble_eq_true rfl) d_D_losePower_13 (fun H locs h => ?_)
  have h : mw_H n0 D cl s (mw_up w (k 2) (.inr (1, [.ref (k 3), .int 0]))) H locs := h
  obtain ⟨w_1, ew_1⟩ : ∃ xx : mw, mw_up w (k 2) (.inr (1, [.ref (k 3), .int 0])) = xx := ⟨_, rfl⟩
  rw [ew_1] at h
  have f_2 : w_1 (k 0) = some (dcell (k 1) (k 2) (k 4) ln tn tr sn pw pl) := by rw [← ew_1, mw_ne (mw_apart hD hC (by simp))]; exact hD
  have f_3 : w_1 (k 4) = some (refs cA 5 3 qf) := by rw [← ew_1, mw_ne (mw_apart hq1 hC (by simp))]; exact hq1
  have f_4 : w_1 (k 2) = some (.inr (1, [.ref (k 3), .int 0])) := by rw [← ew_1]; exact mw_self
  refine lv_aload_n hx hb d_D_losePower_16 rfl (lv_at hl 1 rfl) ?_
  have Z1 : DRp cA w_1 ρ k L fl [] sn pw pq cq ln tn tr pl := by
    refine Z.core (w' := w_1) ?_ ?_
    · rw [← ew_1]
      exact ⟨by rw [mw_ne (mw_apart hD hC (by simp))]; exact hD, by rw [mw_ne (mw_apart hF hC (by simp))]; exact hF, hX.clr.ca, hS0, hSf, fun u hu => by simp at hu⟩
    · rw [← ew_1]; exact FR.up (Or.inr (Or.inr hX.2.2.2.2.2.2.2.1))
  have hfr1 : FR w w_1 (RG ρ) := by rw [← ew_1]; exact FR.up (RG_P Z (Or.inr (Or.inr hX.2.2.2.2.2.2.2.1)))
  refine mx_ci (cV (As := []) (rest := []) G h (m_D_clearQueues Z1) k_263 k_265 ks_11 k_1 k_266 hd_D_clearQueues rfl rfl ⟨Nat.le_of_ble_eq_true rfl, Nat.le_of_ble_eq_true rfl⟩ f_2 rfl rfl hl.1 rfl (Nat.le_of_ble_eq_true rfl) d_D_losePower_17 ⟨Nat.le_of_ble_eq_true rfl, Nat.le_of_ble_eq_true rfl⟩) h (fun r_6 w_5 H locs h hcp => ?_)
  obtain ⟨-, Z2, hfr2⟩ := hcp
  refine lv_pop hx hb d_D_losePower_20 rfl ?_
  refine lv_iload_n hx hb d_D_losePower_21 rfl (lv_at hl 0 rfl) ?_
  exact mx_reti G h hrt hlocks d_D_losePower_22 (⟨rfl, Z2, hfr1.tr hfr2⟩)
