/-! Shifts of rows: places k .. m - 1 take what stood one further -/
def shf {α : Type} (f : Nat → α) (k i : Nat) : Nat → α := fun j => if k ≤ j ∧ j < i then f (j + 1) else f j
def rotf {α : Type} (f : Nat → α) (k m : Nat) : Nat → α := fun j => if k ≤ j ∧ j < m then f (j + 1) else if j = m then f k else f j
theorem shf_0 {α : Type} (f : Nat → α) (k : Nat) : shf f k k = f := by
  funext j
  simp only [shf]
  rw [if_neg (by omega)]
theorem shf_va {f : Nat → Option Nat} {k i : Nat} (h : k ≤ i) : va_up (shf f k i) i (f (i + 1)) = shf f k (i + 1) := by
  funext j
  simp only [va_up, shf]
  by_cases h1 : j = i
  · subst h1; rw [if_pos rfl, if_pos (by omega)]
  · rw [if_neg h1]
    by_cases h2 : k ≤ j ∧ j < i
    · rw [if_pos h2, if_pos (by omega)]
    · rw [if_neg h2, if_neg (by omega)]
theorem shf_i {f : Nat → Int32} {k i : Nat} (h : k ≤ i) : upd (shf f k i) i (f (i + 1)) = shf f k (i + 1) := by
  funext j
  simp only [upd, shf]
  by_cases h1 : j = i
  · subst h1; rw [if_pos rfl, if_pos (by omega)]
  · rw [if_neg h1]
    by_cases h2 : k ≤ j ∧ j < i
    · rw [if_pos h2, if_pos (by omega)]
    · rw [if_neg h2, if_neg (by omega)]
theorem shf_l {f : Nat → Int64} {k i : Nat} (h : k ≤ i) : vp_updL (shf f k i) i (f (i + 1)) = shf f k (i + 1) := by
  funext j
  simp only [vp_updL, shf]
  by_cases h1 : j = i
  · subst h1; rw [if_pos rfl, if_pos (by omega)]
  · rw [if_neg h1]
    by_cases h2 : k ≤ j ∧ j < i
    · rw [if_pos h2, if_pos (by omega)]
    · rw [if_neg h2, if_neg (by omega)]
theorem shf_at {α : Type} {f : Nat → α} {k i j : Nat} (h : i ≤ j) : shf f k i j = f j := by simp only [shf]; rw [if_neg (by omega)]
theorem shf_rot {f : Nat → Option Nat} {k m : Nat} : va_up (shf f k m) m (f k) = rotf f k m := by
  funext j
  simp only [va_up, shf, rotf]
  by_cases h1 : j = m
  · subst h1; rw [if_pos rfl, if_neg (by omega), if_pos rfl]
  · rw [if_neg h1]
    by_cases h2 : k ≤ j ∧ j < m
    · rw [if_pos h2, if_pos h2]
    · rw [if_neg h2, if_neg h2, if_neg h1]
theorem nI_sub1 {n : Nat} (h : 0 < n) : nI n - 1 = nI (n - 1) := by
  obtain ⟨k, rfl⟩ : ∃ k, n = k + 1 := ⟨n - 1, by omega⟩
  exact nI_pred k
abbrev refs (cA : Nat → ClassId) (t n : Nat) (f : Nat → Option Nat) : va_E := .inl (cA t, n, .inr (.inr (.inr (.inr f))))
abbrev ints (cA : Nat → ClassId) (n : Nat) (f : Nat → Int32) : va_E := .inl (cA 0, n, .inl f)
abbrev bools (cA : Nat → ClassId) (n : Nat) (f : Nat → Int32) : va_E := .inl (cA 2, n, .inl f)
abbrev longs (cA : Nat → ClassId) (n : Nat) (f : Nat → Int64) : va_E := .inl (cA 1, n, .inr (.inl f))
abbrev ccell (hu n : Nat) : va_E := .inr (1, [.ref hu, .int (nI n)])
abbrev kcell (u : Nat) (x k : Int32) : va_E := .inr (2, [.ref u, .int x, .int k])
abbrev qcell (hp hn hr pn cn : Nat) : va_E := .inr (3, [.ref hp, .ref hn, .ref hr, .int (nI pn), .int (nI cn)])
theorem d_C_isFull_0 : decode b_C_isFull 0 = .ok (.aload_n 0, 1) := by decide +kernel
theorem d_C_isFull_1 : decode b_C_isFull 1 = .ok (.getfield 16, 3) := by decide +kernel
theorem d_C_isFull_4 : decode b_C_isFull 4 = .ok (.aload_n 0, 1) := by decide +kernel
theorem d_C_isFull_5 : decode b_C_isFull 5 = .ok (.getfield 9, 3) := by decide +kernel
theorem d_C_isFull_8 : decode b_C_isFull 8 = .ok (.arraylength, 1) := by decide +kernel
theorem d_C_isFull_9 : decode b_C_isFull 9 = .ok (.if_icmp .lt 7, 3) := by decide +kernel
theorem d_C_isFull_12 : decode b_C_isFull 12 = .ok (.iconst 1, 1) := by decide +kernel
theorem d_C_isFull_13 : decode b_C_isFull 13 = .ok (.goto 4, 3) := by decide +kernel
theorem d_C_isFull_16 : decode b_C_isFull 16 = .ok (.iconst 0, 1) := by decide +kernel
theorem d_C_isFull_17 : decode b_C_isFull 17 = .ok (.ireturn, 1) := by decide +kernel
theorem d_C_add_0 : decode b_C_add 0 = .ok (.aload_n 0, 1) := by decide +kernel
theorem d_C_add_1 : decode b_C_add 1 = .ok (.invokevirtual 20, 3) := by decide +kernel
theorem d_C_add_4 : decode b_C_add 4 = .ok (.ifCond .eq 4, 3) := by decide +kernel
theorem d_C_add_7 : decode b_C_add 7 = .ok (.return_, 1) := by decide +kernel
theorem d_C_add_8 : decode b_C_add 8 = .ok (.aload_n 0, 1) := by decide +kernel
theorem d_C_add_9 : decode b_C_add 9 = .ok (.getfield 9, 3) := by decide +kernel
theorem d_C_add_12 : decode b_C_add 12 = .ok (.aload_n 0, 1) := by decide +kernel
theorem d_C_add_13 : decode b_C_add 13 = .ok (.getfield 16, 3) := by decide +kernel
theorem d_C_add_16 : decode b_C_add 16 = .ok (.aaload, 1) := by decide +kernel
theorem d_C_add_17 : decode b_C_add 17 = .ok (.aload_n 1, 1) := by decide +kernel
theorem d_C_add_18 : decode b_C_add 18 = .ok (.getfield 24, 3) := by decide +kernel
theorem d_C_add_21 : decode b_C_add 21 = .ok (.aload_n 1, 1) := by decide +kernel
theorem d_C_add_22 : decode b_C_add 22 = .ok (.getfield 27, 3) := by decide +kernel
theorem d_C_add_25 : decode b_C_add 25 = .ok (.aload_n 1, 1) := by decide +kernel
theorem d_C_add_26 : decode b_C_add 26 = .ok (.getfield 30, 3) := by decide +kernel
theorem d_C_add_29 : decode b_C_add 29 = .ok (.aload_n 1, 1) := by decide +kernel
theorem d_C_add_30 : decode b_C_add 30 = .ok (.getfield 33, 3) := by decide +kernel
theorem d_C_add_33 : decode b_C_add 33 = .ok (.invokevirtual 37, 3) := by decide +kernel
theorem d_C_add_36 : decode b_C_add 36 = .ok (.aload_n 0, 1) := by decide +kernel
theorem d_C_add_37 : decode b_C_add 37 = .ok (.dup, 1) := by decide +kernel
theorem d_C_add_38 : decode b_C_add 38 = .ok (.getfield 16, 3) := by decide +kernel
theorem d_C_add_41 : decode b_C_add 41 = .ok (.iconst 1, 1) := by decide +kernel
theorem d_C_add_42 : decode b_C_add 42 = .ok (.iadd, 1) := by decide +kernel
theorem d_C_add_43 : decode b_C_add 43 = .ok (.putfield 16, 3) := by decide +kernel
theorem d_C_add_46 : decode b_C_add 46 = .ok (.return_, 1) := by decide +kernel
theorem d_C_removeOldest_0 : decode b_C_removeOldest 0 = .ok (.aload_n 0, 1) := by decide +kernel
theorem d_C_removeOldest_1 : decode b_C_removeOldest 1 = .ok (.getfield 16, 3) := by decide +kernel
theorem d_C_removeOldest_4 : decode b_C_removeOldest 4 = .ok (.ifCond .ne 4, 3) := by decide +kernel
theorem d_C_removeOldest_7 : decode b_C_removeOldest 7 = .ok (.return_, 1) := by decide +kernel
theorem d_C_removeOldest_8 : decode b_C_removeOldest 8 = .ok (.aload_n 0, 1) := by decide +kernel
theorem d_C_removeOldest_9 : decode b_C_removeOldest 9 = .ok (.getfield 9, 3) := by decide +kernel
theorem d_C_removeOldest_12 : decode b_C_removeOldest 12 = .ok (.iconst 0, 1) := by decide +kernel
theorem d_C_removeOldest_13 : decode b_C_removeOldest 13 = .ok (.aaload, 1) := by decide +kernel
theorem d_C_removeOldest_14 : decode b_C_removeOldest 14 = .ok (.astore_n 1, 1) := by decide +kernel
theorem d_C_removeOldest_15 : decode b_C_removeOldest 15 = .ok (.aload_n 0, 1) := by decide +kernel
theorem d_C_removeOldest_16 : decode b_C_removeOldest 16 = .ok (.dup, 1) := by decide +kernel
theorem d_C_removeOldest_17 : decode b_C_removeOldest 17 = .ok (.getfield 16, 3) := by decide +kernel
theorem d_C_removeOldest_20 : decode b_C_removeOldest 20 = .ok (.iconst 1, 1) := by decide +kernel
theorem d_C_removeOldest_21 : decode b_C_removeOldest 21 = .ok (.isub, 1) := by decide +kernel
theorem d_C_removeOldest_22 : decode b_C_removeOldest 22 = .ok (.putfield 16, 3) := by decide +kernel
theorem d_C_removeOldest_25 : decode b_C_removeOldest 25 = .ok (.iconst 0, 1) := by decide +kernel
theorem d_C_removeOldest_26 : decode b_C_removeOldest 26 = .ok (.istore_n 2, 1) := by decide +kernel
theorem d_C_removeOldest_27 : decode b_C_removeOldest 27 = .ok (.iload_n 2, 1) := by decide +kernel
theorem d_C_removeOldest_28 : decode b_C_removeOldest 28 = .ok (.aload_n 0, 1) := by decide +kernel
theorem d_C_removeOldest_29 : decode b_C_removeOldest 29 = .ok (.getfield 16, 3) := by decide +kernel
theorem d_C_removeOldest_32 : decode b_C_removeOldest 32 = .ok (.if_icmp .ge 23, 3) := by decide +kernel
theorem d_C_removeOldest_35 : decode b_C_removeOldest 35 = .ok (.aload_n 0, 1) := by decide +kernel
theorem d_C_removeOldest_36 : decode b_C_removeOldest 36 = .ok (.getfield 9, 3) := by decide +kernel
theorem d_C_removeOldest_39 : decode b_C_removeOldest 39 = .ok (.iload_n 2, 1) := by decide +kernel
theorem d_C_removeOldest_40 : decode b_C_removeOldest 40 = .ok (.aload_n 0, 1) := by decide +kernel
theorem d_C_removeOldest_41 : decode b_C_removeOldest 41 = .ok (.getfield 9, 3) := by decide +kernel
theorem d_C_removeOldest_44 : decode b_C_removeOldest 44 = .ok (.iload_n 2, 1) := by decide +kernel
theorem d_C_removeOldest_45 : decode b_C_removeOldest 45 = .ok (.iconst 1, 1) := by decide +kernel
theorem d_C_removeOldest_46 : decode b_C_removeOldest 46 = .ok (.iadd, 1) := by decide +kernel
theorem d_C_removeOldest_47 : decode b_C_removeOldest 47 = .ok (.aaload, 1) := by decide +kernel
theorem d_C_removeOldest_48 : decode b_C_removeOldest 48 = .ok (.aastore, 1) := by decide +kernel
theorem d_C_removeOldest_49 : decode b_C_removeOldest 49 = .ok (.iinc 2 1, 3) := by decide +kernel
theorem d_C_removeOldest_52 : decode b_C_removeOldest 52 = .ok (.goto (-25), 3) := by decide +kernel
theorem d_C_removeOldest_55 : decode b_C_removeOldest 55 = .ok (.aload_n 0, 1) := by decide +kernel
theorem d_C_removeOldest_56 : decode b_C_removeOldest 56 = .ok (.getfield 9, 3) := by decide +kernel
theorem d_C_removeOldest_59 : decode b_C_removeOldest 59 = .ok (.aload_n 0, 1) := by decide +kernel
theorem d_C_removeOldest_60 : decode b_C_removeOldest 60 = .ok (.getfield 16, 3) := by decide +kernel
theorem d_C_removeOldest_63 : decode b_C_removeOldest 63 = .ok (.aload_n 1, 1) := by decide +kernel
theorem d_C_removeOldest_64 : decode b_C_removeOldest 64 = .ok (.aastore, 1) := by decide +kernel
theorem d_C_removeOldest_65 : decode b_C_removeOldest 65 = .ok (.return_, 1) := by decide +kernel
set_option maxHeartbeats 4000000 in
set_option maxRecDepth 100000 in
theorem m_C_isFull {l : Launch} {D : va_G} {cA : Nat → ClassId} {n0 : Nat} {w : mw} {hc hu L n : Nat} {f : Nat → Option Nat} (hC : w hc = some (ccell hu n)) (hU : w hu = some (refs cA 3 L f)) (hL : L ≤ 6) (hn : n ≤ 6) :
    Mi l D cA n0 y_C_isFull c_C_isFull (rmd 0) [.ref hc] w (fun r w' => r = bI (L ≤ n) ∧ w' = w) := by
  refine mw_met (cc := b_C_isFull) (maxL := 1) (ret := (some .boolean)) (by decide) rfl (Nat.le_of_ble_eq_true rfl) ?_
  intro p e s m below meth c ls G hrt hlocks hname h hl
  have G : mw_G p m c b_C_isFull 1 s _ (c_C_isFull :: TB) R_C D cl (tys cA) n0 := G
  have hx := G.1.1
  have hb := G.1.2.1
  have hl : lv_has ls 1 [(0, .ref hc)] := hl
  refine lv_aload_n hx hb d_C_isFull_0 rfl (lv_at hl 0 rfl) ?_
  refine mx_get G h hC rfl 1 (by decide) (tb_in in_C) (tb_c k_59) rfl rfl d_C_isFull_1 ?_
  refine lv_aload_n hx hb d_C_isFull_4 rfl (lv_at hl 0 rfl) ?_
  refine mx_get G h hC rfl 0 (by decide) (tb_in in_C) (tb_c k_57) rfl rfl d_C_isFull_5 ?_
  refine mx_alen G h 3 hU rfl (v := (nI L)) rfl d_C_isFull_8 ?_
  refine lv_icmp_lt (tgt := 16) hx hb d_C_isFull_9 (by decide) (fun c_1 => ?_) (fun c_1 => ?_)
  · refine lv_iconst (v := 0) hx hb d_C_isFull_16 (by decide) ?_
    exact mx_retz G h hrt hlocks d_C_isFull_17 rfl (⟨(bI_f (fun z => absurd z (Nat.not_le.mpr ((nI_ltI (by omega) (by omega)).mp c_1)))).symm, rfl⟩)
  · refine lv_iconst (v := 1) hx hb d_C_isFull_12 (by decide) ?_
    refine lv_goto (tgt := 17) hx hb d_C_isFull_13 (by decide) ?_
    exact mx_retz G h hrt hlocks d_C_isFull_17 rfl (⟨(bI_t (Nat.not_lt.mp (fun z => c_1 ((nI_ltI (by omega) (by omega)).mpr z)))).symm, rfl⟩)
set_option maxHeartbeats 4000000 in
set_option maxRecDepth 100000 in
theorem m_C_add {l : Launch} {D : va_G} {cA : Nat → ClassId} {n0 : Nat} {w : mw} {hc hu L n : Nat} {f : Nat → Option Nat} (hC : w hc = some (ccell hu n)) (hU : w hu = some (refs cA 3 L f)) (hL : L ≤ 6) (hn : n < L) {a b : Nat} {u v : uU} (hfn : f n = some b) (ha : w a = some (ucell u)) (hB : w b = some (ucell v)) (hz : u.2.2.2 = 0 ∨ u.2.2.2 = 1) :
    Mv l D cA n0 y_C_add c_C_add (rmd 1) [.ref hc, .ref a] w (fun w' => w' = mw_up (mw_up w b (ucell u)) hc (ccell hu (n + 1))) := by
  refine mw_met (cc := b_C_add) (maxL := 2) (ret := (none)) (by decide) rfl (Nat.le_of_ble_eq_true rfl) ?_
  intro p e s m below meth c ls G hrt hlocks hname h hl
  have G : mw_G p m c b_C_add 2 s _ (c_C_add :: TB) R_C D cl (tys cA) n0 := G
  have hx := G.1.1
  have hb := G.1.2.1
  have hl : lv_has ls 2 [(0, .ref hc), (1, .ref a)] := hl
  refine lv_aload_n hx hb d_C_add_0 rfl (lv_at hl 0 rfl) ?_
  refine mx_ci (cV (As := []) (rest := []) G h (m_C_isFull hC hU hL (by omega)) k_220 k_201 k_202 k_2 k_203 hd_C_isFull rfl rfl ⟨Nat.le_of_ble_eq_true rfl, Nat.le_of_ble_eq_true rfl⟩ hC rfl rfl hl.1 rfl (Nat.le_of_ble_eq_true rfl) d_C_add_1 ⟨Nat.le_of_ble_eq_true rfl, Nat.le_of_ble_eq_true rfl⟩) h (fun r_2 w_1 H locs h hcp => ?_)
  obtain ⟨er_3, ew_4⟩ := hcp
  subst er_3
  rw [ew_4] at h
  refine lv_if_eq (tgt := 8) hx hb d_C_add_4 (by decide) (fun c_5 => ?_) (fun c_5 => ?_)
  · refine lv_aload_n hx hb d_C_add_8 rfl (lv_at hl 0 rfl) ?_
    refine mx_get G h hC rfl 0 (by decide) (tb_in in_C) (tb_c k_57) rfl rfl d_C_add_9 ?_
    refine lv_aload_n hx hb d_C_add_12 rfl (lv_at hl 0 rfl) ?_
    refine mx_get G h hC rfl 1 (by decide) (tb_in in_C) (tb_c k_59) rfl rfl d_C_add_13 ?_
    refine ax_a G h 3 hU rfl n rfl hn (by omega) hfn d_C_add_16 ?_
    refine lv_aload_n hx hb d_C_add_17 rfl (lv_at hl 1 rfl) ?_
    refine mx_get G h ha rfl 0 (by decide) (tb_in in_U) (tb_c k_37) rfl rfl d_C_add_18 ?_
    refine lv_aload_n hx hb d_C_add_21 rfl (lv_at hl 1 rfl) ?_
    refine mx_get G h ha rfl 1 (by decide) (tb_in in_U) (tb_c k_40) rfl rfl d_C_add_22 ?_
    refine lv_aload_n hx hb d_C_add_25 rfl (lv_at hl 1 rfl) ?_
    refine mx_get G h ha rfl 2 (by decide) (tb_in in_U) (tb_c k_43) rfl rfl d_C_add_26 ?_
    refine lv_aload_n hx hb d_C_add_29 rfl (lv_at hl 1 rfl) ?_
    refine mx_get G h ha rfl 3 (by decide) (tb_in in_U) (tb_c k_45) rfl rfl d_C_add_30 ?_
    refine mx_cv (cV (As := [.int u.1, .int u.2.1, .int u.2.2.1, .int u.2.2.2]) (rest := []) G h (m_U_set hB hz) k_221 k_160 k_161 k_4 k_162 hd_U_set rfl rfl ⟨Nat.le_of_ble_eq_true rfl, Nat.le_of_ble_eq_true rfl⟩ hB rfl rfl hl.1 rfl (Nat.le_of_ble_eq_true rfl) d_C_add_33 ⟨Nat.le_of_ble_eq_true rfl, Nat.le_of_ble_eq_true rfl⟩) h (fun w_6 H locs h hcp => ?_)
    rw [hcp] at h
    obtain ⟨w_7, ew_7⟩ : ∃ xx : mw, mw_up w b (ucell (u.1, u.2.1, u.2.2.1, u.2.2.2)) = xx := ⟨_, rfl⟩
    rw [ew_7] at h
    have f_8 : w_7 hc = some (ccell hu n) := by rw [← ew_7]; rw [mw_ne (mw_apart hC hB (by simp))]; exact hC
    refine lv_aload_n hx hb d_C_add_36 rfl (lv_at hl 0 rfl) ?_
    refine lv_dup hx hb d_C_add_37 rfl ?_
    refine mx_get G h f_8 rfl 1 (by decide) (tb_in in_C) (tb_c k_59) rfl rfl d_C_add_38 ?_
    refine lv_iconst (v := 1) hx hb d_C_add_41 (by decide) ?_
    refine lv_iadd hx hb d_C_add_42 ?_
    refine mx_put G h f_8 rfl 1 (by decide) (tb_in in_C) t_C t_C_ok n_C (tb_c k_59) rfl rfl rfl rfl rfl (Nat.le_of_ble_eq_true rfl) d_C_add_43 (fun H locs h => ?_)
    have h : mw_H n0 D cl s (mw_up w_7 hc (.inr (1, [.ref hu, .int ((nI n) + 1)]))) H locs := h
    obtain ⟨w_9, ew_9⟩ : ∃ xx : mw, mw_up w_7 hc (.inr (1, [.ref hu, .int ((nI n) + 1)])) = xx := ⟨_, rfl⟩
    rw [ew_9] at h
    have f_10 : w_9 hc = some (.inr (1, [.ref hu, .int ((nI n) + 1)])) := by rw [← ew_9]; exact mw_self
    exact mx_retv G h hrt hlocks d_C_add_46 (by rw [← ew_9, ← ew_7, nI_1])
  · exact absurd (bI_n c_5) (by omega)
set_option maxHeartbeats 4000000 in
set_option maxRecDepth 100000 in
theorem m_C_removeOldest {l : Launch} {D : va_G} {cA : Nat → ClassId} {n0 : Nat} {w : mw} {hc hu L n : Nat} {f : Nat → Option Nat} (hC : w hc = some (ccell hu n)) (hU : w hu = some (refs cA 3 L f)) (hL : L ≤ 6) (h0 : 0 < n) (hn : n ≤ L) (hf : ∀ i, i < L → ∃ a u, f i = some a ∧ w a = some (ucell u)) :
    Mv l D cA n0 y_C_removeOldest c_C_removeOldest (rmd 0) [.ref hc] w (fun w' => w' = mw_up (mw_up w hc (ccell hu (n - 1))) hu (refs cA 3 L (rotf f 0 (n - 1)))) := by
  refine mw_met (cc := b_C_removeOldest) (maxL := 3) (ret := (none)) (by decide) rfl (Nat.le_of_ble_eq_true rfl) ?_
  intro p e s m below meth c ls G hrt hlocks hname h hl
  have G : mw_G p m c b_C_removeOldest 3 s _ (c_C_removeOldest :: TB) R_C D cl (tys cA) n0 := G
  have hx := G.1.1
  have hb := G.1.2.1
  have hl : lv_has ls 3 [(0, .ref hc)] := hl
  obtain ⟨a0, u0, hf0, ha0⟩ := hf 0 (by omega)
  refine lv_aload_n hx hb d_C_removeOldest_0 rfl (lv_at hl 0 rfl) ?_
  refine mx_get G h hC rfl 1 (by decide) (tb_in in_C) (tb_c k_59) rfl rfl d_C_removeOldest_1 ?_
  refine lv_if_ne (tgt := 8) hx hb d_C_removeOldest_4 (by decide) (fun c_1 => ?_) (fun c_1 => ?_)
  · refine lv_aload_n hx hb d_C_removeOldest_8 rfl (lv_at hl 0 rfl) ?_
    refine mx_get G h hC rfl 0 (by decide) (tb_in in_C) (tb_c k_57) rfl rfl d_C_removeOldest_9 ?_
    refine lv_iconst (v := 0) hx hb d_C_removeOldest_12 (by decide) ?_
    refine ax_a G h 3 hU rfl 0 nI_0.symm (by omega) (by omega) hf0 d_C_removeOldest_13 ?_
    refine lv_astore_n (lv' := [(1, .ref a0), (0, .ref hc)]) hx hb d_C_removeOldest_14 rfl hl (by decide) rfl (fun ls hl => ?_)
    refine lv_aload_n hx hb d_C_removeOldest_15 rfl (lv_at hl 1 rfl) ?_
    refine lv_dup hx hb d_C_removeOldest_16 rfl ?_
    refine mx_get G h hC rfl 1 (by decide) (tb_in in_C) (tb_c k_59) rfl rfl d_C_removeOldest_17 ?_
    refine lv_iconst (v := 1) hx hb d_C_removeOldest_20 (by decide) ?_
    refine lv_isub hx hb d_C_removeOldest_21 ?_
    have et_2 : (nI n) - 1 = nI (n - 1) := nI_sub1 h0
    rw [et_2]
    refine mx_put G h hC rfl 1 (by decide) (tb_in in_C) t_C t_C_ok n_C (tb_c k_59) rfl rfl rfl rfl rfl (Nat.le_of_ble_eq_true rfl) d_C_removeOldest_22 (fun H locs h => ?_)
    have h : mw_H n0 D cl s (mw_up w hc (.inr (1, [.ref hu, .int (nI (n - 1))]))) H locs := h
    obtain ⟨w_3, ew_3⟩ : ∃ xx : mw, mw_up w hc (.inr (1, [.ref hu, .int (nI (n - 1))])) = xx := ⟨_, rfl⟩
    rw [ew_3] at h
    have f_4 : w_3 hu = some (refs cA 3 L f) := by rw [← ew_3, mw_ne (mw_apart hU hC (by simp))]; exact hU
    have f_5 : w_3 hc = some (.inr (1, [.ref hu, .int (nI (n - 1))])) := by rw [← ew_3]; exact mw_self
    refine lv_iconst (v := 0) hx hb d_C_removeOldest_25 (by decide) ?_
    refine lv_istore_n (lv' := [(2, .int 0), (1, .ref a0), (0, .ref hc)]) hx hb d_C_removeOldest_26 rfl hl (by decide) rfl (fun ls hl => ?_)
    have hU1 := f_4
    have loop : ∀ (t i : Nat), i + t = n - 1 → ∀ (H : Heap) (locs : List Loc) (ls : Array Slot), mw_H n0 D cl s (mw_up w_3 hu (refs cA 3 L (shf f 0 i))) H locs → lv_has ls 3 [(2, .int (nI i)), (1, .ref a0), (0, .ref hc)] → W p l e (rmd 0) s m ([.ref hc] : List Value).toArray below meth c H locs 0 0 (MQ below (mw_Qv n0 D cl (fun w' => w' = mw_up (mw_up w hc (ccell hu (n - 1))) hu (refs cA 3 L (rotf f 0 (n - 1))))) ([.ref hc] : List Value).toArray s 0 0 (mw_A n0)) (F0 m 27 ls []) := by
      intro t
      induction t with
      | zero =>
        intro i hi H locs ls h hl
        obtain ⟨w_6, ew_6⟩ : ∃ xx : mw, mw_up w_3 hu (refs cA 3 L (shf f 0 i)) = xx := ⟨_, rfl⟩
        rw [ew_6] at h
        have f_7 : w_6 hc = some (ccell hu (n - 1)) := by rw [← ew_6]; rw [mw_ne (mw_apart f_5 hU1 (by simp))]; exact f_5
        have f_8 : w_6 hu = some (refs cA 3 L (shf f 0 i)) := by rw [← ew_6]; exact mw_self
        have f_9 : w_6 a0 = some (ucell u0) := by rw [← ew_6]; rw [mw_ne (mw_apart ha0 hU (by simp)), ← ew_3, mw_ne (mw_apart ha0 hC (by simp))]; exact ha0
        refine lv_iload_n hx hb d_C_removeOldest_27 rfl (lv_at hl 0 rfl) ?_
        refine lv_aload_n hx hb d_C_removeOldest_28 rfl (lv_at hl 2 rfl) ?_
        refine mx_get G h f_7 rfl 1 (by decide) (tb_in in_C) (tb_c k_59) rfl rfl d_C_removeOldest_29 ?_
        refine lv_icmp_ge (tgt := 55) hx hb d_C_removeOldest_32 (by decide) (fun c_10 => ?_) (fun c_10 => ?_)
        · refine lv_aload_n hx hb d_C_removeOldest_55 rfl (lv_at hl 2 rfl) ?_
          refine mx_get G h f_7 rfl 0 (by decide) (tb_in in_C) (tb_c k_57) rfl rfl d_C_removeOldest_56 ?_
          refine lv_aload_n hx hb d_C_removeOldest_59 rfl (lv_at hl 2 rfl) ?_
          refine mx_get G h f_7 rfl 1 (by decide) (tb_in in_C) (tb_c k_59) rfl rfl d_C_removeOldest_60 ?_
          refine lv_aload_n hx hb d_C_removeOldest_63 rfl (lv_at hl 1 rfl) ?_
          refine ax_sa G h 3 4 f_8 rfl f_9 rfl (n - 1) rfl (by omega) (by omega) d_C_removeOldest_64 (fun H locs h => ?_)
          have h : mw_H n0 D cl s (mw_up w_6 hu (.inl (cA 3, L, .inr (.inr (.inr (.inr (va_up (shf f 0 i) (n - 1) (some a0)))))))) H locs := h
          obtain ⟨w_11, ew_11⟩ : ∃ xx : mw, mw_up w_6 hu (.inl (cA 3, L, .inr (.inr (.inr (.inr (va_up (shf f 0 i) (n - 1) (some a0))))))) = xx := ⟨_, rfl⟩
          rw [ew_11] at h
          have f_12 : w_11 hc = some (ccell hu (n - 1)) := by rw [← ew_11, mw_ne (mw_apart f_7 f_8 (by simp))]; exact f_7
          have f_13 : w_11 a0 = some (ucell u0) := by rw [← ew_11, mw_ne (mw_apart f_9 f_8 (by simp))]; exact f_9
          have f_14 : w_11 hu = some (.inl (cA 3, L, .inr (.inr (.inr (.inr (va_up (shf f 0 i) (n - 1) (some a0))))))) := by rw [← ew_11]; exact mw_self
          exact mx_retv G h hrt hlocks d_C_removeOldest_65 (by rw [← ew_11, ← ew_6, mw_uu, show n - 1 = i by omega, ← hf0, shf_rot, ← ew_3, show n - 1 = i by omega])
        · exact absurd ((nI_leI (by omega) (by omega)).mpr (by omega)) c_10
      | succ t ih =>
        intro i hi H locs ls h hl
        obtain ⟨a1, u1, hf1, ha1⟩ := hf (i + 1) (by omega)
        obtain ⟨w_15, ew_15⟩ : ∃ xx : mw, mw_up w_3 hu (refs cA 3 L (shf f 0 i)) = xx := ⟨_, rfl⟩
        rw [ew_15] at h
        have f_16 : w_15 hc = some (ccell hu (n - 1)) := by rw [← ew_15]; rw [mw_ne (mw_apart f_5 hU1 (by simp))]; exact f_5
        have f_17 : w_15 hu = some (refs cA 3 L (shf f 0 i)) := by rw [← ew_15]; exact mw_self
        have f_18 : w_15 a1 = some (ucell u1) := by rw [← ew_15]; rw [mw_ne (mw_apart ha1 hU (by simp)), ← ew_3, mw_ne (mw_apart ha1 hC (by simp))]; exact ha1
        refine lv_iload_n hx hb d_C_removeOldest_27 rfl (lv_at hl 0 rfl) ?_
        refine lv_aload_n hx hb d_C_removeOldest_28 rfl (lv_at hl 2 rfl) ?_
        refine mx_get G h f_16 rfl 1 (by decide) (tb_in in_C) (tb_c k_59) rfl rfl d_C_removeOldest_29 ?_
        refine lv_icmp_ge (tgt := 55) hx hb d_C_removeOldest_32 (by decide) (fun c_19 => ?_) (fun c_19 => ?_)
        · exact absurd ((nI_leI (by omega) (by omega)).mp c_19) (by omega)
        · refine lv_aload_n hx hb d_C_removeOldest_35 rfl (lv_at hl 2 rfl) ?_
          refine mx_get G h f_16 rfl 0 (by decide) (tb_in in_C) (tb_c k_57) rfl rfl d_C_removeOldest_36 ?_
          refine lv_iload_n hx hb d_C_removeOldest_39 rfl (lv_at hl 0 rfl) ?_
          refine lv_aload_n hx hb d_C_removeOldest_40 rfl (lv_at hl 2 rfl) ?_
          refine mx_get G h f_16 rfl 0 (by decide) (tb_in in_C) (tb_c k_57) rfl rfl d_C_removeOldest_41 ?_
          refine lv_iload_n hx hb d_C_removeOldest_44 rfl (lv_at hl 0 rfl) ?_
          refine lv_iconst (v := 1) hx hb d_C_removeOldest_45 (by decide) ?_
          refine lv_iadd hx hb d_C_removeOldest_46 ?_
          refine ax_a G h 3 f_17 rfl (i + 1) (nI_1 i) (by omega) (by omega) (by rw [shf_at (by omega)]; exact hf1) d_C_removeOldest_47 ?_
          refine ax_sa G h 3 4 f_17 rfl f_18 rfl i rfl (by omega) (by omega) d_C_removeOldest_48 (fun H locs h => ?_)
          have h : mw_H n0 D cl s (mw_up w_15 hu (.inl (cA 3, L, .inr (.inr (.inr (.inr (va_up (shf f 0 i) i (some a1)))))))) H locs := h
          obtain ⟨w_20, ew_20⟩ : ∃ xx : mw, mw_up w_15 hu (.inl (cA 3, L, .inr (.inr (.inr (.inr (va_up (shf f 0 i) i (some a1))))))) = xx := ⟨_, rfl⟩
          rw [ew_20] at h
          have f_21 : w_20 hc = some (ccell hu (n - 1)) := by rw [← ew_20, mw_ne (mw_apart f_16 f_17 (by simp))]; exact f_16
          have f_22 : w_20 a1 = some (ucell u1) := by rw [← ew_20, mw_ne (mw_apart f_18 f_17 (by simp))]; exact f_18
          have f_23 : w_20 hu = some (.inl (cA 3, L, .inr (.inr (.inr (.inr (va_up (shf f 0 i) i (some a1))))))) := by rw [← ew_20]; exact mw_self
          refine lv_iinc (v := (nI i) + 1) (lv' := [(2, .int ((nI i) + 1)), (1, .ref a0), (0, .ref hc)]) hx hb d_C_removeOldest_49 hl (k := 0) rfl rfl (by decide) rfl (fun ls hl => ?_)
          refine lv_goto (tgt := 27) hx hb d_C_removeOldest_52 (by decide) ?_
          rw [nI_1] at hl
          refine ih (i + 1) (by omega) H locs ls ?_ (lv_sub hl [0, 1, 2] rfl)
          rw [← shf_va (Nat.zero_le i), hf1, ← mw_uu (e := refs cA 3 L (shf f 0 i)), ew_15, ew_20]
          exact h
    refine loop (n - 1) 0 (by omega) H locs ls ?_ (lv_sub hl [0, 1, 2] rfl)
    rw [shf_0, mw_id hU1]
    exact h
  · exact absurd c_1 (nI_ne0 h0 (by omega))
