/-! The law -/
section DRF
variable {cA : Nat → ClassId} {w w' : mw} {ρ ρ' k q : Nat → Nat} {L t : Nat} {g : gS}
theorem DR.frame (h : DR cA w ρ k L g) (e : ∀ x, RG ρ x → w' x = w x) : DR cA w' ρ k L g := by
  obtain ⟨pl, Z⟩ := h
  have hP := fun {x : Nat} => RG_P Z (x := x)
  obtain ⟨K0, ⟨f, q1, q2⟩, hQ, r0, r1, r4, hL, hv⟩ := Z
  refine ⟨pl, K0.frame (fun x hx => e x (hP hx)), ⟨f, by rw [e _ ⟨by rw [r4]; decide, by rw [r4]; decide⟩]; exact q1, q2⟩, fun i hi => (hQ i hi).frame (fun x hx => e x (RG_Q hi hx)), r0, r1, r4, hL, hv⟩
theorem CA.mono {S S' : Nat → Prop} {hc hu : Nat} {us : List uU} (h : CA cA w S hc hu L us) (m : ∀ x, S x → S' x) : CA cA w S' hc hu L us := by
  obtain ⟨f, g, h⟩ := h.ex
  exact (h.mono m).ca
theorem QA.mono {S S' : Nat → Prop} {hq hp hn hr : Nat} {ps : List pC} {cs : List (Int32 × Int64)} (h : QA cA w S hq hp hn hr ps cs) (m : ∀ x, S x → S' x) : QA cA w S' hq hp hn hr ps cs := by
  obtain ⟨f, g, gu, fn, fr, h⟩ := h
  exact ⟨f, g, gu, fn, fr, h.mono m⟩
theorem DR.re (h : DR cA w ρ k L g) (e : ∀ x, RG ρ x → ρ' x = ρ x) : DR cA w ρ' k L g := by
  obtain ⟨pl, K0, hq, hQ, r0, r1, r4, hL, hv⟩ := h
  obtain ⟨d1, d2, d3, d4, d5, d6⟩ := K0
  have e0 : ρ' (k 0) = 5 := by rw [e _ ⟨by rw [r0]; decide, by rw [r0]; decide⟩]; exact r0
  have e1 : ρ' (k 1) = 5 := by rw [e _ ⟨by rw [r1]; decide, by rw [r1]; decide⟩]; exact r1
  have e4 : ρ' (k 4) = 5 := by rw [e _ ⟨by rw [r4]; decide, by rw [r4]; decide⟩]; exact r4
  refine ⟨pl, ⟨d1, d2, d3.mono (fun x hx => ?_), ?_, ?_, d6⟩, hq, fun i hi => (hQ i hi).mono (fun x hx => ?_), e0, e1, e4, hL, hv⟩
  · have hx : ρ x = 1 := hx
    show ρ' x = 1
    rw [e x ⟨by rw [hx]; decide, by rw [hx]; decide⟩]; exact hx
  · show ¬ ρ' (k 0) = 1; rw [e0]; decide
  · show ¬ ρ' (k 1) = 1; rw [e1]; decide
  · have hx : ρ x = 2 + i := hx
    show ρ' x = 2 + i
    rw [e x (RG_Q hi hx)]; exact hx
theorem DR.len (h : DR cA w ρ k L g) : g.2.1.length ≤ L ∧ L ≤ 6 := by
  obtain ⟨pl, K0, -⟩ := h
  obtain ⟨-, -, ⟨f, gg, -, -, h1, h2, -⟩, -⟩ := K0
  exact ⟨h1, h2⟩
theorem DR.cell (h : DR cA w ρ k L g) : ∃ fs, w (k 0) = some (.inr (0, fs)) := by
  obtain ⟨pl, K0, -⟩ := h
  exact ⟨_, K0.1⟩
theorem MR.cell (h : MR cA w ρ q L t g) : ∃ fs, w (q 0) = some (.inr (5, fs)) := by
  obtain ⟨un, cp, bd, F, R, V, -⟩ := h
  exact ⟨_, V.1.1⟩
theorem MR.frame (h : MR cA w ρ q L t g) (e : ∀ x, ρ x = 7 → w' x = w x) : MR cA w' ρ q L t g := by
  obtain ⟨un, cp, bd, F, R, V, hr⟩ := h
  exact ⟨un, cp, bd, F, R, ⟨V.1.frame e, V.2⟩, hr⟩
theorem MR.init {w : mw} (h : MX cA w ρ q L 0 0 0 0 0 0 0 NN (fun _ _ => 0) (fun _ => 0)) : MR cA w ρ q L 0 g0S := by
  refine ⟨0, 0, 0, (fun _ _ => 0), (fun _ => 0), ⟨h, rfl, fun a ha => ?_, fun u hu => absurd hu (Nat.not_lt_zero _), fun u hu => absurd hu (Nat.not_lt_zero _), fun u _ => rfl, Nat.le_refl _, by decide⟩, Nat.le_refl _, Nat.le_refl _, Nat.le_refl _, by decide, fun j hj => rfl, fun j hj => rfl, fun j hj => ⟨Nat.zero_le _, Nat.zero_le _⟩, fun c h1 h2 => ?_⟩
  · show filL 24 a = NN
    simp only [filL]
    rw [if_pos ha]
  · have h2 : c ≤ 0 := h2
    omega
end DRF
section LWR
variable {p : Program} {l : Launch} {e : Env} {R : Room} {s : State} {m : MethodId} {args : Array Value} {below : List Frame} {meth : Method} {c : Code} {H : Heap} {locs : List Loc} {cells slots : Nat} {Q : State → Prop}
variable {cc : ByteArray} {pc : Nat} {ls : Array Slot} {rest : List Value} {D : va_G} {w : mw} {n0 nL : Nat} {cx : Cond} {own : String} {cA : Nat → ClassId}
theorem ax_s (G : mw_G p m c cc nL s args (cx :: TB) own D cl (tys cA) n0) (h : mw_H n0 D cl s w H locs) {b L : Nat} {xs : Nat → Int32} (hX : va_X b L xs s s.heap) (hbl : b < s.heap.size) (hbA : ¬ mw_A n0 b) (hL : L < 2 ^ 31) {i : Int32} (j : Nat) (e1 : i = nI j) (hj : j < L) (hdg : decode cc pc = .ok (.iaload, 1))
    (kk : W p l e R s m args below meth c H locs cells slots Q (F0 m (pc + 1) ls (.int (xs j) :: rest))) : W p l e R s m args below meth c H locs cells slots Q (F0 m pc ls (.int i :: .ref b :: rest)) :=
  va_sld G.1.1 G.1.2.1 hX hbl hbA h.2 (vp_j e1 hj hL) hdg (by rw [cl_j e1 hj hL]; exact kk)
end LWR
/-- cell(script, 0) -/
def cel (L : Nat) (xs : Nat → Int32) : Int32 := if 0 < L then xs 0 else 0
def cP (b L : Nat) (xs : Nat → Int32) : Array Value → State → Prop := va_Pc [.ref b, .int 0] (fun U => va_X b L xs U U.heap ∧ b < U.heap.size)
theorem cP_blind {b L : Nat} {xs : Nat → Int32} : FrameBlind (cP b L xs) := fun a U g mk q => ⟨q.1, va_X.moved (u := U) (U := U.calling g mk a) (Vm.Alike.refl U.vm) q.2.1, q.2.2⟩
set_option maxHeartbeats 4000000 in
set_option maxRecDepth 100000 in
theorem m_L_cell {l : Launch} {b L : Nat} {xs : Nat → Int32} (hL : L < 2 ^ 31) : Met l y_L_cell (c_L_cell :: TB) (rmd 0) (cP b L xs) (vp_Si (fun r => r = cel L xs)) 0 0 (fun _ => False) := by
  refine Met.ofW (cc := b_L_cell) (maxL := 2) (ret := (some .int)) (by decide) rfl ?_
  intro p e s m args below meth c s₁ B hml hv
  obtain ⟨rfl, hX, hbl⟩ := hv
  have hx := B.exec
  have hb := B.bytes
  have hr := B.returns
  have hlocks := B.notSynchronized
  have hS : va_S (fun _ => False) s.heap s.heap [] := va_S.rf
  have hl := lv_entry ([.ref b, .int 0]) (n := 2) (Nat.le_of_ble_eq_true rfl)
  rw [lg_entry_eq]
  generalize (lg_sl ([.ref b, .int 0]) ++ List.replicate (2 - (lg_sl ([.ref b, .int 0])).length) Slot.unset).toArray = ls at hl ⊢
  have hl : lv_has ls 2 [(0, .ref b), (1, .int 0)] := hl
  refine lv_iload_n hx hb d_L_cell_0 rfl (lv_at hl 1 rfl) ?_
  refine lv_aload_n hx hb d_L_cell_1 rfl (lv_at hl 0 rfl) ?_
  refine va_slen (A := fun _ => False) hx hb hX hbl (fun z => z) hS d_L_cell_2 ?_
  refine lv_icmp_ge (tgt := 12) hx hb d_L_cell_3 (by decide) (fun c1 => ?_) (fun c1 => ?_)
  · refine lv_iconst (v := 0) hx hb d_L_cell_12 (by decide) ?_
    have h0 : ¬ 0 < L := fun z => by
      have c2 : nI L ≤ nI 0 := c1
      rw [nI_leI hL (by decide)] at c2
      omega
    exact W.iret hx hb hr (fun t ht _ => ⟨0, rfl, by rw [cel, if_neg h0], ht⟩) (fun q h => by cases h) d_L_cell_13 hlocks
  · have h0 : 0 < L := Nat.not_le.mp (fun z => c1 (show nI L ≤ nI 0 from (nI_leI hL (by decide)).mpr z))
    refine lv_aload_n hx hb d_L_cell_6 rfl (lv_at hl 0 rfl) ?_
    refine lv_iload_n hx hb d_L_cell_7 rfl (lv_at hl 1 rfl) ?_
    refine va_sld (A := fun _ => False) hx hb hX hbl (fun z => z) hS (vp_j (j := 0) rfl h0 hL) d_L_cell_8 ?_
    refine lv_goto (tgt := 13) hx hb d_L_cell_9 (by decide) ?_
    exact W.iret hx hb hr (fun t ht _ => ⟨xs 0, rfl, by rw [cel, if_pos h0], ht⟩) (fun q h => by cases h) d_L_cell_13 hlocks
