/-! The cache's cells under its changes -/
def CAx (cA : Nat → ClassId) (w : mw) (S : Nat → Prop) (hc hu L : Nat) (us : List uU) (f : Nat → Option Nat) (g : Nat → Nat) : Prop :=
  w hc = some (ccell hu us.length) ∧ w hu = some (refs cA 3 L f) ∧ us.length ≤ L ∧ L ≤ 6 ∧ (∀ i, i < L → f i = some (g i) ∧ S (g i) ∧ ∃ u, w (g i) = some (ucell u)) ∧ (∀ i u, us[i]? = some u → w (g i) = some (ucell u)) ∧ (∀ i j, i < L → j < L → g i = g j → i = j) ∧ S hc ∧ S hu
theorem CAx.ca {cA : Nat → ClassId} {w : mw} {S : Nat → Prop} {hc hu L : Nat} {us : List uU} {f : Nat → Option Nat} {g : Nat → Nat} (h : CAx cA w S hc hu L us f g) : CA cA w S hc hu L us := ⟨f, g, h⟩
theorem CA.ex {cA : Nat → ClassId} {w : mw} {S : Nat → Prop} {hc hu L : Nat} {us : List uU} (h : CA cA w S hc hu L us) : ∃ f g, CAx cA w S hc hu L us f g := h
theorem lt_of_get {α : Type} {l : List α} {i : Nat} {u : α} (h : l[i]? = some u) : i < l.length := (List.getElem?_eq_some_iff.mp h).1
theorem CAx.frame {cA : Nat → ClassId} {w w' : mw} {S : Nat → Prop} {hc hu L : Nat} {us : List uU} {f : Nat → Option Nat} {g : Nat → Nat} (h : CAx cA w S hc hu L us f g) (e : ∀ x, S x → w' x = w x) : CAx cA w' S hc hu L us f g := by
  obtain ⟨h1, h2, h3, h4, h5, h6, h7, h8, h9⟩ := h
  refine ⟨by rw [e _ h8]; exact h1, by rw [e _ h9]; exact h2, h3, h4, fun i hi => ?_, fun i u hi => ?_, h7, h8, h9⟩
  · obtain ⟨a, b, u, c⟩ := h5 i hi
    exact ⟨a, b, u, by rw [e _ b]; exact c⟩
  · rw [e _ (h5 i (Nat.lt_of_lt_of_le (lt_of_get hi) h3)).2.1]
    exact h6 i u hi
theorem CA.frame {cA : Nat → ClassId} {w w' : mw} {S : Nat → Prop} {hc hu L : Nat} {us : List uU} (h : CA cA w S hc hu L us) (e : ∀ x, S x → w' x = w x) : CA cA w' S hc hu L us := by
  obtain ⟨f, g, h⟩ := h.ex
  exact (h.frame e).ca
theorem CAx.pop {cA : Nat → ClassId} {w : mw} {S : Nat → Prop} {hc hu L : Nat} {u0 : uU} {us : List uU} {f : Nat → Option Nat} {g : Nat → Nat} (h : CAx cA w S hc hu L (u0 :: us) f g) : CAx cA (mw_up (mw_up w hc (ccell hu us.length)) hu (refs cA 3 L (rotf f 0 us.length))) S hc hu L us (rotf f 0 us.length) (rotf g 0 us.length) := by
  obtain ⟨h1, h2, h3, h4, h5, h6, h7, h8, h9⟩ := h
  have hl : us.length + 1 ≤ L := h3
  have hne : hc ≠ hu := mw_apart h1 h2 (by simp)
  have old : ∀ i, i < L → ∀ u, w (g i) = some (ucell u) → mw_up (mw_up w hc (ccell hu us.length)) hu (refs cA 3 L (rotf f 0 us.length)) (g i) = some (ucell u) := by
    intro i hi u hu
    rw [mw_ne (mw_apart hu h2 (by simp)), mw_ne (mw_apart hu h1 (by simp))]
    exact hu
  have ix : ∀ i, i < L → ∃ j, j < L ∧ rotf f 0 us.length i = f j ∧ rotf g 0 us.length i = g j := by
    intro i hi
    by_cases c1 : i < us.length
    · exact ⟨i + 1, by omega, by simp only [rotf]; rw [if_pos ⟨Nat.zero_le _, c1⟩], by simp only [rotf]; rw [if_pos ⟨Nat.zero_le _, c1⟩]⟩
    · by_cases c2 : i = us.length
      · exact ⟨0, by omega, by simp only [rotf]; rw [if_neg (by omega), if_pos c2], by simp only [rotf]; rw [if_neg (by omega), if_pos c2]⟩
      · exact ⟨i, hi, by simp only [rotf]; rw [if_neg (by omega), if_neg c2], by simp only [rotf]; rw [if_neg (by omega), if_neg c2]⟩
  refine ⟨by rw [mw_ne hne]; exact mw_self, mw_self, by omega, h4, fun i hi => ?_, fun i u hi => ?_, fun i j hi hj hij => ?_, h8, h9⟩
  · obtain ⟨j, hj, e1, e2⟩ := ix i hi
    obtain ⟨a, b, u, c⟩ := h5 j hj
    rw [e1, e2]
    exact ⟨a, b, u, old j hj u c⟩
  · have hil := lt_of_get hi
    have e2 : rotf g 0 us.length i = g (i + 1) := by simp only [rotf]; rw [if_pos ⟨Nat.zero_le _, hil⟩]
    rw [e2]
    exact old (i + 1) (by omega) u (h6 (i + 1) u (by rw [List.getElem?_cons_succ]; exact hi))
  · simp only [rotf] at hij
    by_cases a1 : i < us.length <;> by_cases a2 : i = us.length <;> by_cases b1 : j < us.length <;> by_cases b2 : j = us.length <;> simp only [a1, a2, b1, b2, Nat.zero_le, true_and, and_self, if_true, if_false, Nat.lt_irrefl] at hij <;> first | omega | (have := h7 _ _ (by omega) (by omega) hij; omega)
theorem CAx.add {cA : Nat → ClassId} {w : mw} {S : Nat → Prop} {hc hu L : Nat} {us : List uU} {f : Nat → Option Nat} {g : Nat → Nat} (h : CAx cA w S hc hu L us f g) (hl : us.length < L) (u : uU) : CAx cA (mw_up (mw_up w (g us.length) (ucell u)) hc (ccell hu (us.length + 1))) S hc hu L (us ++ [u]) f g := by
  obtain ⟨h1, h2, h3, h4, h5, h6, h7, h8, h9⟩ := h
  obtain ⟨a0, b0, v0, c0⟩ := h5 us.length hl
  have hne : hu ≠ hc := mw_apart h2 h1 (by simp)
  have n1 : g us.length ≠ hc := mw_apart c0 h1 (by simp)
  have n2 : hu ≠ g us.length := mw_apart h2 c0 (by simp)
  have old : ∀ i, i < L → i ≠ us.length → ∀ v, w (g i) = some (ucell v) → mw_up (mw_up w (g us.length) (ucell u)) hc (ccell hu (us.length + 1)) (g i) = some (ucell v) := by
    intro i hi hn v hv
    rw [mw_ne (mw_apart hv h1 (by simp)), mw_ne (fun z => hn (h7 i us.length hi hl z))]
    exact hv
  have new : mw_up (mw_up w (g us.length) (ucell u)) hc (ccell hu (us.length + 1)) (g us.length) = some (ucell u) := by
    rw [mw_ne n1]; exact mw_self
  refine ⟨by rw [List.length_append]; exact mw_self, by rw [mw_ne hne, mw_ne n2]; exact h2, by rw [List.length_append]; exact hl, h4, fun i hi => ?_, fun i v hi => ?_, h7, h8, h9⟩
  · obtain ⟨a, b, v, c⟩ := h5 i hi
    by_cases hn : i = us.length
    · subst hn; exact ⟨a, b, u, new⟩
    · exact ⟨a, b, v, old i hi hn v c⟩
  · by_cases hn : i < us.length
    · rw [List.getElem?_append_left hn] at hi
      exact old i (by omega) (by omega) v (h6 i v hi)
    · have hil := lt_of_get hi
      rw [List.length_append] at hil
      have hn : i = us.length := by simp at hil; omega
      subst hn
      simp at hi
      rw [← hi]
      exact new
/-- which cells the core may change -/
def PP (S : Nat → Prop) (h0 hf : Nat) : Nat → Prop := fun x => x = h0 ∨ x = hf ∨ S x
def stoO (κ : kS) : Bool × kS := match κ with
  | (fl, [], st, pw, pl) => (true, (fl, [], st, pw, pl))
  | (fl, u :: us, st, pw, pl) => if lnU u ≤ pl then (true, (apU u (lnU u) fl, us, st + 1, pw + lnU u, pl - lnU u)) else (false, (fl, u :: us, st, pw + pl, 0))
theorem stoO_f {fl : Nat → Int64} {u : uU} {us : List uU} {st pw pl : Nat} (h : pl < lnU u) : stoO (fl, u :: us, st, pw, pl) = (false, (fl, u :: us, st, pw + pl, 0)) := by simp only [stoO]; rw [if_neg (by omega)]
theorem stoO_t {fl : Nat → Int64} {u : uU} {us : List uU} {st pw pl : Nat} (h : lnU u ≤ pl) : stoO (fl, u :: us, st, pw, pl) = (true, (apU u (lnU u) fl, us, st + 1, pw + lnU u, pl - lnU u)) := by simp only [stoO]; rw [if_pos h]
def empA : List uU → (Nat → Int64) → Nat → Nat → Nat → Bool × kS
  | [], fl, st, pw, pl => (true, (fl, [], st, pw, pl))
  | u :: us, fl, st, pw, pl => if lnU u ≤ pl then empA us (apU u (lnU u) fl) (st + 1) (pw + lnU u) (pl - lnU u) else (false, (fl, u :: us, st, pw + pl, 0))
def cacA (L : Nat) (u : uU) (κ : kS) : kS := if L ≤ κ.2.1.length then (if (stoO κ).1 = true then ((stoO κ).2.1, (stoO κ).2.2.1 ++ [u], (stoO κ).2.2.2) else (stoO κ).2) else (κ.1, κ.2.1 ++ [u], κ.2.2)
def stoF (u : uU) (κ : kS) : kS := if lnU u ≤ κ.2.2.2.2 then (apU u (lnU u) κ.1, κ.2.1, κ.2.2.1 + 1, κ.2.2.2.1 + lnU u, κ.2.2.2.2 - lnU u) else (κ.1, κ.2.1, κ.2.2.1, κ.2.2.2.1 + κ.2.2.2.2, 0)
def empK (κ : kS) : Bool × kS := empA κ.2.1 κ.1 κ.2.2.1 κ.2.2.2.1 κ.2.2.2.2
def forA (u : uU) (κ : kS) : kS := if (empK κ).1 = true then stoF u (empK κ).2 else (empK κ).2
def sumH (fl : Nat → Int64) (us : List uU) (a : Nat) : Nat → Int64
  | 0 => 0
  | n + 1 => if hld fl us (a + n) = NN then sumH fl us a n else sumH fl us a n + hld fl us (a + n)
def misH (fl : Nat → Int64) (us : List uU) (u : uU) (a : Nat) : Nat → Int32
  | 0 => 0
  | n + 1 => if hld fl us (a + n) = wrd u (nI (a + n)) then misH fl us u a n else misH fl us u a n + 1
theorem DC.frame {cA : Nat → ClassId} {w w' : mw} {S : Nat → Prop} {h0 hf hc hu hq L ln : Nat} {tn : Int32} {tr : Int64} {κ : kS} (h : DC cA w S h0 hf hc hu hq L ln tn tr κ) (e : ∀ x, PP S h0 hf x → w' x = w x) : DC cA w' S h0 hf hc hu hq L ln tn tr κ := by
  obtain ⟨h1, h2, h3, h4, h5, h6⟩ := h
  exact ⟨by rw [e _ (Or.inl rfl)]; exact h1, by rw [e _ (Or.inr (Or.inl rfl))]; exact h2, h3.frame (fun x hx => e x (Or.inr (Or.inr hx))), h4, h5, h6⟩
theorem stoO_pl {κ : kS} : (stoO κ).2.2.2.2.2 ≤ κ.2.2.2.2 := by
  obtain ⟨fl, us, st, pw, pl⟩ := κ
  cases us with
  | nil => exact Nat.le_refl _
  | cons u us =>
    simp only [stoO]
    split
    · exact Nat.sub_le _ _
    · exact Nat.zero_le _
theorem stoO_us {κ : kS} (hb : (stoO κ).1 = true) (h0 : κ.2.1 ≠ []) : (stoO κ).2.2.1.length + 1 = κ.2.1.length := by
  obtain ⟨fl, us, st, pw, pl⟩ := κ
  cases us with
  | nil => exact absurd rfl h0
  | cons u us =>
    simp only [stoO] at hb ⊢
    split at hb
    · rename_i hh; simp [hh]
    · cases hb
theorem d_D_storeOldest_0 : decode b_D_storeOldest 0 = .ok (.aload_n 0, 1) := by decide +kernel
theorem d_D_storeOldest_1 : decode b_D_storeOldest 1 = .ok (.getfield 29, 3) := by decide +kernel
theorem d_D_storeOldest_4 : decode b_D_storeOldest 4 = .ok (.getfield 132, 3) := by decide +kernel
theorem d_D_storeOldest_7 : decode b_D_storeOldest 7 = .ok (.ifCond .ne 5, 3) := by decide +kernel
theorem d_D_storeOldest_10 : decode b_D_storeOldest 10 = .ok (.iconst 1, 1) := by decide +kernel
theorem d_D_storeOldest_11 : decode b_D_storeOldest 11 = .ok (.ireturn, 1) := by decide +kernel
theorem d_D_storeOldest_12 : decode b_D_storeOldest 12 = .ok (.aload_n 0, 1) := by decide +kernel
theorem d_D_storeOldest_13 : decode b_D_storeOldest 13 = .ok (.aload_n 0, 1) := by decide +kernel
theorem d_D_storeOldest_14 : decode b_D_storeOldest 14 = .ok (.getfield 29, 3) := by decide +kernel
theorem d_D_storeOldest_17 : decode b_D_storeOldest 17 = .ok (.getfield 135, 3) := by decide +kernel
theorem d_D_storeOldest_20 : decode b_D_storeOldest 20 = .ok (.iconst 0, 1) := by decide +kernel
theorem d_D_storeOldest_21 : decode b_D_storeOldest 21 = .ok (.aaload, 1) := by decide +kernel
theorem d_D_storeOldest_22 : decode b_D_storeOldest 22 = .ok (.invokevirtual 192, 3) := by decide +kernel
theorem d_D_storeOldest_25 : decode b_D_storeOldest 25 = .ok (.ifCond .ne 5, 3) := by decide +kernel
theorem d_D_storeOldest_28 : decode b_D_storeOldest 28 = .ok (.iconst 0, 1) := by decide +kernel
theorem d_D_storeOldest_29 : decode b_D_storeOldest 29 = .ok (.ireturn, 1) := by decide +kernel
theorem d_D_storeOldest_30 : decode b_D_storeOldest 30 = .ok (.aload_n 0, 1) := by decide +kernel
theorem d_D_storeOldest_31 : decode b_D_storeOldest 31 = .ok (.getfield 29, 3) := by decide +kernel
theorem d_D_storeOldest_34 : decode b_D_storeOldest 34 = .ok (.invokevirtual 196, 3) := by decide +kernel
theorem d_D_storeOldest_37 : decode b_D_storeOldest 37 = .ok (.iconst 1, 1) := by decide +kernel
theorem d_D_storeOldest_38 : decode b_D_storeOldest 38 = .ok (.ireturn, 1) := by decide +kernel
set_option maxHeartbeats 4000000 in
set_option maxRecDepth 100000 in
theorem m_D_storeOldest {l : Launch} {D : va_G} {cA : Nat → ClassId} {n0 : Nat} {w : mw} {S : Nat → Prop} {h0 hf hc hu hq L ln : Nat} {tn : Int32} {tr : Int64} {fl : Nat → Int64} {us : List uU} {st pw pl : Nat} (K : DC cA w S h0 hf hc hu hq L ln tn tr (fl, us, st, pw, pl)) (hpl : pl < 1000) :
    Mi l D cA n0 y_D_storeOldest c_D_storeOldest (rmd 2) [.ref h0] w (fun r w' => r = bI ((stoO (fl, us, st, pw, pl)).1 = true) ∧ DC cA w' S h0 hf hc hu hq L ln tn tr (stoO (fl, us, st, pw, pl)).2 ∧ FR w w' (PP S h0 hf)) := by
  refine mw_met (cc := b_D_storeOldest) (maxL := 1) (ret := (some .boolean)) (by decide) rfl (Nat.le_of_ble_eq_true rfl) ?_
  intro p e s m below meth c ls G hrt hlocks hname h hl
  have G : mw_G p m c b_D_storeOldest 1 s _ (c_D_storeOldest :: TB) R_D D cl (tys cA) n0 := G
  have hx := G.1.1
  have hb := G.1.2.1
  have hl : lv_has ls 1 [(0, .ref h0)] := hl
  cases us with
  | nil =>
    obtain ⟨hD, hF, ⟨f, g, hC, hU, hlen, hL, hg, hus, hinj, hSc, hSu⟩, hS0, hSf, hv⟩ := id K
    have hD : w h0 = some (dcell hf hc hq ln tn tr st pw pl) := hD
    have hC : w hc = some (ccell hu 0) := hC
    refine lv_aload_n hx hb d_D_storeOldest_0 rfl (lv_at hl 0 rfl) ?_
    refine mx_get G h hD rfl 1 (by decide) (tb_in in_D) (tb_c k_118) rfl rfl d_D_storeOldest_1 ?_
    refine mx_get G h hC rfl 1 (by decide) (tb_in in_C) (tb_c k_60) rfl rfl d_D_storeOldest_4 ?_
    refine lv_if_ne (tgt := 12) hx hb d_D_storeOldest_7 (by decide) (fun c_1 => ?_) (fun c_1 => ?_)
    · exact absurd rfl c_1
    · refine lv_iconst (v := 1) hx hb d_D_storeOldest_10 (by decide) ?_
      exact mx_retz G h hrt hlocks d_D_storeOldest_11 rfl (⟨rfl, K, FR.rf⟩)
  | cons u us =>
    obtain ⟨hD, hF, ⟨f, g, hC, hU, hlen, hL, hg, hus, hinj, hSc, hSu⟩, hS0, hSf, hv⟩ := id K
    have hD : w h0 = some (dcell hf hc hq ln tn tr st pw pl) := hD
    have hF : w hf = some (longs cA 24 fl) := hF
    have hC : w hc = some (ccell hu (us.length + 1)) := hC
    have hlen : us.length + 1 ≤ L := hlen
    have hX : CAx cA w S hc hu L (u :: us) f g := ⟨hC, hU, hlen, hL, hg, hus, hinj, hSc, hSu⟩
    have h9 : w (g 0) = some (ucell u) := hus 0 u rfl
    have hvu : vU u := hv u List.mem_cons_self
    refine lv_aload_n hx hb d_D_storeOldest_0 rfl (lv_at hl 0 rfl) ?_
    refine mx_get G h hD rfl 1 (by decide) (tb_in in_D) (tb_c k_118) rfl rfl d_D_storeOldest_1 ?_
    refine mx_get G h hC rfl 1 (by decide) (tb_in in_C) (tb_c k_60) rfl rfl d_D_storeOldest_4 ?_
    refine lv_if_ne (tgt := 12) hx hb d_D_storeOldest_7 (by decide) (fun c_2 => ?_) (fun c_2 => ?_)
    · refine lv_aload_n hx hb d_D_storeOldest_12 rfl (lv_at hl 0 rfl) ?_
      refine lv_aload_n hx hb d_D_storeOldest_13 rfl (lv_at hl 0 rfl) ?_
      refine mx_get G h hD rfl 1 (by decide) (tb_in in_D) (tb_c k_118) rfl rfl d_D_storeOldest_14 ?_
      refine mx_get G h hC rfl 0 (by decide) (tb_in in_C) (tb_c k_58) rfl rfl d_D_storeOldest_17 ?_
      refine lv_iconst (v := 0) hx hb d_D_storeOldest_20 (by decide) ?_
      refine ax_a G h 3 hU rfl 0 nI_0.symm (by omega) (by omega) ((hg 0 (by omega)).1) d_D_storeOldest_21 ?_
      refine mx_ci (cV (As := [.ref (g 0)]) (rest := []) G h (m_D_store hD hF h9 hvu hpl) k_208 k_210 ks_6 k_1 k_211 hd_D_store rfl rfl ⟨Nat.le_of_ble_eq_true rfl, Nat.le_of_ble_eq_true rfl⟩ hD rfl rfl hl.1 rfl (Nat.le_of_ble_eq_true rfl) d_D_storeOldest_22 ⟨Nat.le_of_ble_eq_true rfl, Nat.le_of_ble_eq_true rfl⟩) h (fun r_4 w_3 H locs h hcp => ?_)
      rcases Nat.lt_or_ge pl (lnU u) with hlt | hge
      · obtain ⟨er, ew⟩ := hcp.2 hlt
        subst er
        subst ew
        obtain ⟨w_5, ew_5⟩ : ∃ xx : mw, mw_up w h0 (dcell hf hc hq ln tn tr st (pw + pl) 0) = xx := ⟨_, rfl⟩
        rw [ew_5] at h
        have f_6 : w_5 h0 = some (dcell hf hc hq ln tn tr st (pw + pl) 0) := by rw [← ew_5]; exact mw_self
        refine lv_if_ne (tgt := 30) hx hb d_D_storeOldest_25 (by decide) (fun c_7 => ?_) (fun c_7 => ?_)
        · exact absurd rfl c_7
        · refine lv_iconst (v := 0) hx hb d_D_storeOldest_28 (by decide) ?_
          exact mx_retz G h hrt hlocks d_D_storeOldest_29 rfl (⟨by rw [stoO_f hlt]; rfl, by rw [stoO_f hlt, ← ew_5]; exact ⟨mw_self, by rw [mw_ne (mw_apart hF hD (by simp))]; exact hF, CA.frame hX.ca (fun x hx => mw_ne (fun z => hS0 (by rw [← z]; exact hx))), hS0, hSf, hv⟩, by rw [← ew_5]; exact FR.up (Or.inl rfl)⟩)
      · obtain ⟨er, ew⟩ := hcp.1 hge
        subst er
        subst ew
        have hX1 : CAx cA (mw_up (mw_up w h0 (dcell hf hc hq ln tn tr (st + 1) (pw + lnU u) (pl - lnU u))) hf (longs cA 24 (apU u (lnU u) fl))) S hc hu L (u :: us) f g := hX.frame (fun x hx => by rw [mw_ne (fun z => hSf (by rw [← z]; exact hx)), mw_ne (fun z => hS0 (by rw [← z]; exact hx))])
        have hD1 : (mw_up (mw_up w h0 (dcell hf hc hq ln tn tr (st + 1) (pw + lnU u) (pl - lnU u))) hf (longs cA 24 (apU u (lnU u) fl))) h0 = some (dcell hf hc hq ln tn tr (st + 1) (pw + lnU u) (pl - lnU u)) := by rw [mw_ne (mw_apart hD hF (by simp))]; exact mw_self
        have hF1 : (mw_up (mw_up w h0 (dcell hf hc hq ln tn tr (st + 1) (pw + lnU u) (pl - lnU u))) hf (longs cA 24 (apU u (lnU u) fl))) hf = some (longs cA 24 (apU u (lnU u) fl)) := mw_self
        have hFR1 : FR w (mw_up (mw_up w h0 (dcell hf hc hq ln tn tr (st + 1) (pw + lnU u) (pl - lnU u))) hf (longs cA 24 (apU u (lnU u) fl))) (PP S h0 hf) := (FR.up (Or.inl rfl)).tr (FR.up (Or.inr (Or.inl rfl)))
        generalize mw_up (mw_up w h0 (dcell hf hc hq ln tn tr (st + 1) (pw + lnU u) (pl - lnU u))) hf (longs cA 24 (apU u (lnU u) fl)) = w_8 at h hX1 hD1 hF1 hFR1
        refine lv_if_ne (tgt := 30) hx hb d_D_storeOldest_25 (by decide) (fun c_9 => ?_) (fun c_9 => ?_)
        · refine lv_aload_n hx hb d_D_storeOldest_30 rfl (lv_at hl 0 rfl) ?_
          refine mx_get G h hD1 rfl 1 (by decide) (tb_in in_D) (tb_c k_118) rfl rfl d_D_storeOldest_31 ?_
          refine mx_cv (cV (As := []) (rest := []) G h (m_C_removeOldest (n := us.length + 1) hX1.1 hX1.2.1 hX1.2.2.2.1 (Nat.succ_pos _) hX1.2.2.1 (fun i hi => ⟨g i, (hX1.2.2.2.2.1 i hi).2.2.choose, (hX1.2.2.2.2.1 i hi).1, (hX1.2.2.2.2.1 i hi).2.2.choose_spec⟩)) k_212 k_213 k_214 k_2 k_215 hd_C_removeOldest rfl rfl ⟨Nat.le_of_ble_eq_true rfl, Nat.le_of_ble_eq_true rfl⟩ hX1.1 rfl rfl hl.1 rfl (Nat.le_of_ble_eq_true rfl) d_D_storeOldest_34 ⟨Nat.le_of_ble_eq_true rfl, Nat.le_of_ble_eq_true rfl⟩) h (fun w_10 H locs h hcp => ?_)
          subst hcp
          refine lv_iconst (v := 1) hx hb d_D_storeOldest_37 (by decide) ?_
          exact mx_retz G h hrt hlocks d_D_storeOldest_38 rfl (⟨by rw [stoO_t hge]; rfl, by rw [stoO_t hge]; exact ⟨by rw [mw_ne (mw_apart hD1 hX1.2.1 (by simp)), mw_ne (mw_apart hD1 hX1.1 (by simp))]; exact hD1, by rw [mw_ne (mw_apart hF1 hX1.2.1 (by simp)), mw_ne (mw_apart hF1 hX1.1 (by simp))]; exact hF1, hX1.pop.ca, hS0, hSf, fun v hv1 => hv v (List.mem_cons_of_mem _ hv1)⟩, hFR1.tr ((FR.up (Or.inr (Or.inr hSc))).tr (FR.up (Or.inr (Or.inr hSu))))⟩)
        · exact absurd c_9 (by decide)
    · exact absurd c_2 (nI_ne0 (Nat.succ_pos _) (by omega))
