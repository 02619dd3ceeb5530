/-! A unit: first address, number of addresses, value, 1 if it takes words away -/
abbrev uU : Type := Int32 × Int32 × Int32 × Int32
abbrev ucell (u : uU) : va_E := .inr (4, [.int u.1, .int u.2.1, .int u.2.2.1, .int u.2.2.2])
def bI (P : Prop) [Decidable P] : Int32 := if P then 1 else 0
theorem bI_t {P : Prop} [Decidable P] (h : P) : bI P = 1 := if_pos h
theorem bI_f {P : Prop} [Decidable P] (h : ¬ P) : bI P = 0 := if_neg h
theorem bI_0 {P : Prop} [Decidable P] (h : bI P = 0) : ¬ P := fun z => by rw [bI_t z] at h; exact absurd h (by decide)
theorem bI_n {P : Prop} [Decidable P] (h : ¬ bI P = 0) : P := Decidable.byContradiction (fun z => h (bI_f z))
theorem bI_01 (P : Prop) [Decidable P] : bI P = 0 ∨ bI P = 1 := by
  by_cases h : P
  · exact Or.inr (bI_t h)
  · exact Or.inl (bI_f h)
theorem z_nar {x : Int32} (h : x = 0 ∨ x = 1) : narrow .boolean (.int x) = .int x := by rcases h with rfl | rfl <;> rfl
theorem z_fit {x : Int32} (h : x = 0 ∨ x = 1) : fits .boolean (.int x) = true := by rcases h with rfl | rfl <;> rfl
theorem z_vp {x : Int32} (h : x = 0 ∨ x = 1) : vp_nar .boolean x = x := by rcases h with rfl | rfl <;> rfl
/-- the unit covers the address; its word there -/
abbrev cov (u : uU) (x : Int32) : Prop := u.1 ≤ x ∧ x < u.1 + u.2.1
def wrd (u : uU) (x : Int32) : Int64 := if u.2.2.2 = 0 then (u.2.2.1 + (x - u.1)).toInt64 else NN
theorem d_U_set_0 : decode b_U_set 0 = .ok (.aload_n 0, 1) := by decide +kernel
theorem d_U_set_1 : decode b_U_set 1 = .ok (.iload_n 1, 1) := by decide +kernel
theorem d_U_set_2 : decode b_U_set 2 = .ok (.putfield 9, 3) := by decide +kernel
theorem d_U_set_5 : decode b_U_set 5 = .ok (.aload_n 0, 1) := by decide +kernel
theorem d_U_set_6 : decode b_U_set 6 = .ok (.iload_n 2, 1) := by decide +kernel
theorem d_U_set_7 : decode b_U_set 7 = .ok (.putfield 15, 3) := by decide +kernel
theorem d_U_set_10 : decode b_U_set 10 = .ok (.aload_n 0, 1) := by decide +kernel
theorem d_U_set_11 : decode b_U_set 11 = .ok (.iload_n 3, 1) := by decide +kernel
theorem d_U_set_12 : decode b_U_set 12 = .ok (.putfield 18, 3) := by decide +kernel
theorem d_U_set_15 : decode b_U_set 15 = .ok (.aload_n 0, 1) := by decide +kernel
theorem d_U_set_16 : decode b_U_set 16 = .ok (.iload 4, 2) := by decide +kernel
theorem d_U_set_18 : decode b_U_set 18 = .ok (.putfield 21, 3) := by decide +kernel
theorem d_U_set_21 : decode b_U_set 21 = .ok (.return_, 1) := by decide +kernel
theorem d_U_covers_0 : decode b_U_covers 0 = .ok (.iload_n 1, 1) := by decide +kernel
theorem d_U_covers_1 : decode b_U_covers 1 = .ok (.aload_n 0, 1) := by decide +kernel
theorem d_U_covers_2 : decode b_U_covers 2 = .ok (.getfield 9, 3) := by decide +kernel
theorem d_U_covers_5 : decode b_U_covers 5 = .ok (.if_icmp .lt 20, 3) := by decide +kernel
theorem d_U_covers_8 : decode b_U_covers 8 = .ok (.iload_n 1, 1) := by decide +kernel
theorem d_U_covers_9 : decode b_U_covers 9 = .ok (.aload_n 0, 1) := by decide +kernel
theorem d_U_covers_10 : decode b_U_covers 10 = .ok (.getfield 9, 3) := by decide +kernel
theorem d_U_covers_13 : decode b_U_covers 13 = .ok (.aload_n 0, 1) := by decide +kernel
theorem d_U_covers_14 : decode b_U_covers 14 = .ok (.getfield 15, 3) := by decide +kernel
theorem d_U_covers_17 : decode b_U_covers 17 = .ok (.iadd, 1) := by decide +kernel
theorem d_U_covers_18 : decode b_U_covers 18 = .ok (.if_icmp .ge 7, 3) := by decide +kernel
theorem d_U_covers_21 : decode b_U_covers 21 = .ok (.iconst 1, 1) := by decide +kernel
theorem d_U_covers_22 : decode b_U_covers 22 = .ok (.goto 4, 3) := by decide +kernel
theorem d_U_covers_25 : decode b_U_covers 25 = .ok (.iconst 0, 1) := by decide +kernel
theorem d_U_covers_26 : decode b_U_covers 26 = .ok (.ireturn, 1) := by decide +kernel
theorem d_U_wordAt_0 : decode b_U_wordAt 0 = .ok (.aload_n 0, 1) := by decide +kernel
theorem d_U_wordAt_1 : decode b_U_wordAt 1 = .ok (.getfield 21, 3) := by decide +kernel
theorem d_U_wordAt_4 : decode b_U_wordAt 4 = .ok (.ifCond .eq 7, 3) := by decide +kernel
theorem d_U_wordAt_7 : decode b_U_wordAt 7 = .ok (.ldc2_w 25, 3) := by decide +kernel
theorem d_U_wordAt_10 : decode b_U_wordAt 10 = .ok (.lreturn, 1) := by decide +kernel
theorem d_U_wordAt_11 : decode b_U_wordAt 11 = .ok (.aload_n 0, 1) := by decide +kernel
theorem d_U_wordAt_12 : decode b_U_wordAt 12 = .ok (.getfield 18, 3) := by decide +kernel
theorem d_U_wordAt_15 : decode b_U_wordAt 15 = .ok (.iload_n 1, 1) := by decide +kernel
theorem d_U_wordAt_16 : decode b_U_wordAt 16 = .ok (.aload_n 0, 1) := by decide +kernel
theorem d_U_wordAt_17 : decode b_U_wordAt 17 = .ok (.getfield 9, 3) := by decide +kernel
theorem d_U_wordAt_20 : decode b_U_wordAt 20 = .ok (.isub, 1) := by decide +kernel
theorem d_U_wordAt_21 : decode b_U_wordAt 21 = .ok (.iadd, 1) := by decide +kernel
theorem d_U_wordAt_22 : decode b_U_wordAt 22 = .ok (.istore_n 2, 1) := by decide +kernel
theorem d_U_wordAt_23 : decode b_U_wordAt 23 = .ok (.iload_n 2, 1) := by decide +kernel
theorem d_U_wordAt_24 : decode b_U_wordAt 24 = .ok (.i2l, 1) := by decide +kernel
theorem d_U_wordAt_25 : decode b_U_wordAt 25 = .ok (.lreturn, 1) := by decide +kernel
theorem d_D_isQueue_0 : decode b_D_isQueue 0 = .ok (.iload_n 0, 1) := by decide +kernel
theorem d_D_isQueue_1 : decode b_D_isQueue 1 = .ok (.ifCond .lt 12, 3) := by decide +kernel
theorem d_D_isQueue_4 : decode b_D_isQueue 4 = .ok (.iload_n 0, 1) := by decide +kernel
theorem d_D_isQueue_5 : decode b_D_isQueue 5 = .ok (.iconst 3, 1) := by decide +kernel
theorem d_D_isQueue_6 : decode b_D_isQueue 6 = .ok (.if_icmp .ge 7, 3) := by decide +kernel
theorem d_D_isQueue_9 : decode b_D_isQueue 9 = .ok (.iconst 1, 1) := by decide +kernel
theorem d_D_isQueue_10 : decode b_D_isQueue 10 = .ok (.goto 4, 3) := by decide +kernel
theorem d_D_isQueue_13 : decode b_D_isQueue 13 = .ok (.iconst 0, 1) := by decide +kernel
theorem d_D_isQueue_14 : decode b_D_isQueue 14 = .ok (.ireturn, 1) := by decide +kernel
theorem d_D_isAddress_0 : decode b_D_isAddress 0 = .ok (.iload_n 0, 1) := by decide +kernel
theorem d_D_isAddress_1 : decode b_D_isAddress 1 = .ok (.ifCond .lt 13, 3) := by decide +kernel
theorem d_D_isAddress_4 : decode b_D_isAddress 4 = .ok (.iload_n 0, 1) := by decide +kernel
theorem d_D_isAddress_5 : decode b_D_isAddress 5 = .ok (.bipush 24, 2) := by decide +kernel
theorem d_D_isAddress_7 : decode b_D_isAddress 7 = .ok (.if_icmp .ge 7, 3) := by decide +kernel
theorem d_D_isAddress_10 : decode b_D_isAddress 10 = .ok (.iconst 1, 1) := by decide +kernel
theorem d_D_isAddress_11 : decode b_D_isAddress 11 = .ok (.goto 4, 3) := by decide +kernel
theorem d_D_isAddress_14 : decode b_D_isAddress 14 = .ok (.iconst 0, 1) := by decide +kernel
theorem d_D_isAddress_15 : decode b_D_isAddress 15 = .ok (.ireturn, 1) := by decide +kernel
theorem d_D_areAddresses_0 : decode b_D_areAddresses 0 = .ok (.iload_n 1, 1) := by decide +kernel
theorem d_D_areAddresses_1 : decode b_D_areAddresses 1 = .ok (.iconst 1, 1) := by decide +kernel
theorem d_D_areAddresses_2 : decode b_D_areAddresses 2 = .ok (.if_icmp .lt 8, 3) := by decide +kernel
theorem d_D_areAddresses_5 : decode b_D_areAddresses 5 = .ok (.iload_n 1, 1) := by decide +kernel
theorem d_D_areAddresses_6 : decode b_D_areAddresses 6 = .ok (.iconst 4, 1) := by decide +kernel
theorem d_D_areAddresses_7 : decode b_D_areAddresses 7 = .ok (.if_icmp .le 5, 3) := by decide +kernel
theorem d_D_areAddresses_10 : decode b_D_areAddresses 10 = .ok (.iconst 0, 1) := by decide +kernel
theorem d_D_areAddresses_11 : decode b_D_areAddresses 11 = .ok (.ireturn, 1) := by decide +kernel
theorem d_D_areAddresses_12 : decode b_D_areAddresses 12 = .ok (.iload_n 0, 1) := by decide +kernel
theorem d_D_areAddresses_13 : decode b_D_areAddresses 13 = .ok (.ifCond .lt 15, 3) := by decide +kernel
theorem d_D_areAddresses_16 : decode b_D_areAddresses 16 = .ok (.iload_n 0, 1) := by decide +kernel
theorem d_D_areAddresses_17 : decode b_D_areAddresses 17 = .ok (.bipush 24, 2) := by decide +kernel
theorem d_D_areAddresses_19 : decode b_D_areAddresses 19 = .ok (.iload_n 1, 1) := by decide +kernel
theorem d_D_areAddresses_20 : decode b_D_areAddresses 20 = .ok (.isub, 1) := by decide +kernel
theorem d_D_areAddresses_21 : decode b_D_areAddresses 21 = .ok (.if_icmp .gt 7, 3) := by decide +kernel
theorem d_D_areAddresses_24 : decode b_D_areAddresses 24 = .ok (.iconst 1, 1) := by decide +kernel
theorem d_D_areAddresses_25 : decode b_D_areAddresses 25 = .ok (.goto 4, 3) := by decide +kernel
theorem d_D_areAddresses_28 : decode b_D_areAddresses 28 = .ok (.iconst 0, 1) := by decide +kernel
theorem d_D_areAddresses_29 : decode b_D_areAddresses 29 = .ok (.ireturn, 1) := by decide +kernel
theorem d_L_cell_0 : decode b_L_cell 0 = .ok (.iload_n 1, 1) := by decide +kernel
theorem d_L_cell_1 : decode b_L_cell 1 = .ok (.aload_n 0, 1) := by decide +kernel
theorem d_L_cell_2 : decode b_L_cell 2 = .ok (.arraylength, 1) := by decide +kernel
theorem d_L_cell_3 : decode b_L_cell 3 = .ok (.if_icmp .ge 9, 3) := by decide +kernel
theorem d_L_cell_6 : decode b_L_cell 6 = .ok (.aload_n 0, 1) := by decide +kernel
theorem d_L_cell_7 : decode b_L_cell 7 = .ok (.iload_n 1, 1) := by decide +kernel
theorem d_L_cell_8 : decode b_L_cell 8 = .ok (.iaload, 1) := by decide +kernel
theorem d_L_cell_9 : decode b_L_cell 9 = .ok (.goto 4, 3) := by decide +kernel
theorem d_L_cell_12 : decode b_L_cell 12 = .ok (.iconst 0, 1) := by decide +kernel
theorem d_L_cell_13 : decode b_L_cell 13 = .ok (.ireturn, 1) := by decide +kernel
set_option maxHeartbeats 4000000 in
set_option maxRecDepth 100000 in
theorem m_U_set {l : Launch} {D : va_G} {cA : Nat → ClassId} {n0 : Nat} {w : mw} {a : Nat} {u0 : uU} (ha : w a = some (ucell u0)) {x1 x2 x3 x4 : Int32} (hz : x4 = 0 ∨ x4 = 1) :
    Mv l D cA n0 y_U_set c_U_set (rmd 0) [.ref a, .int x1, .int x2, .int x3, .int x4] w (fun w' => w' = mw_up w a (ucell (x1, x2, x3, x4))) := by
  refine mw_met (cc := b_U_set) (maxL := 5) (ret := (none)) (by decide) rfl (Nat.le_of_ble_eq_true rfl) ?_
  intro p e s m below meth c ls G hrt hlocks hname h hl
  have G : mw_G p m c b_U_set 5 s _ (c_U_set :: TB) R_U D cl (tys cA) n0 := G
  have hx := G.1.1
  have hb := G.1.2.1
  have hl : lv_has ls 5 [(0, .ref a), (1, .int x1), (2, .int x2), (3, .int x3), (4, .int x4)] := hl
  refine lv_aload_n hx hb d_U_set_0 rfl (lv_at hl 0 rfl) ?_
  refine lv_iload_n hx hb d_U_set_1 rfl (lv_at hl 1 rfl) ?_
  refine mx_put G h ha rfl 0 (by decide) (tb_in in_U) t_U t_U_ok n_U (tb_c k_36) rfl rfl rfl rfl rfl (Nat.le_of_ble_eq_true rfl) d_U_set_2 (fun H locs h => ?_)
  have h : mw_H n0 D cl s (mw_up w a (.inr (4, [.int x1, .int u0.2.1, .int u0.2.2.1, .int u0.2.2.2]))) H locs := h
  obtain ⟨w_1, ew_1⟩ : ∃ xx : mw, mw_up w a (.inr (4, [.int x1, .int u0.2.1, .int u0.2.2.1, .int u0.2.2.2])) = xx := ⟨_, rfl⟩
  rw [ew_1] at h
  have f_2 : w_1 a = some (.inr (4, [.int x1, .int u0.2.1, .int u0.2.2.1, .int u0.2.2.2])) := by rw [← ew_1]; exact mw_self
  refine lv_aload_n hx hb d_U_set_5 rfl (lv_at hl 0 rfl) ?_
  refine lv_iload_n hx hb d_U_set_6 rfl (lv_at hl 2 rfl) ?_
  refine mx_put G h f_2 rfl 1 (by decide) (tb_in in_U) t_U t_U_ok n_U (tb_c k_39) rfl rfl rfl rfl rfl (Nat.le_of_ble_eq_true rfl) d_U_set_7 (fun H locs h => ?_)
  have h : mw_H n0 D cl s (mw_up w_1 a (.inr (4, [.int x1, .int x2, .int u0.2.2.1, .int u0.2.2.2]))) H locs := h
  obtain ⟨w_3, ew_3⟩ : ∃ xx : mw, mw_up w_1 a (.inr (4, [.int x1, .int x2, .int u0.2.2.1, .int u0.2.2.2])) = xx := ⟨_, rfl⟩
  rw [ew_3] at h
  have f_4 : w_3 a = some (.inr (4, [.int x1, .int x2, .int u0.2.2.1, .int u0.2.2.2])) := by rw [← ew_3]; exact mw_self
  refine lv_aload_n hx hb d_U_set_10 rfl (lv_at hl 0 rfl) ?_
  refine lv_iload_n hx hb d_U_set_11 rfl (lv_at hl 3 rfl) ?_
  refine mx_put G h f_4 rfl 2 (by decide) (tb_in in_U) t_U t_U_ok n_U (tb_c k_42) rfl rfl rfl rfl rfl (Nat.le_of_ble_eq_true rfl) d_U_set_12 (fun H locs h => ?_)
  have h : mw_H n0 D cl s (mw_up w_3 a (.inr (4, [.int x1, .int x2, .int x3, .int u0.2.2.2]))) H locs := h
  obtain ⟨w_5, ew_5⟩ : ∃ xx : mw, mw_up w_3 a (.inr (4, [.int x1, .int x2, .int x3, .int u0.2.2.2])) = xx := ⟨_, rfl⟩
  rw [ew_5] at h
  have f_6 : w_5 a = some (.inr (4, [.int x1, .int x2, .int x3, .int u0.2.2.2])) := by rw [← ew_5]; exact mw_self
  refine lv_aload_n hx hb d_U_set_15 rfl (lv_at hl 0 rfl) ?_
  refine lv_iload hx hb d_U_set_16 (lv_at hl 4 rfl) ?_
  refine mx_put G h f_6 rfl 3 (by decide) (tb_in in_U) t_U t_U_ok n_U (tb_c k_44) rfl rfl rfl (z_nar hz) (z_fit hz) (Nat.le_of_ble_eq_true rfl) d_U_set_18 (fun H locs h => ?_)
  have h : mw_H n0 D cl s (mw_up w_5 a (.inr (4, [.int x1, .int x2, .int x3, .int x4]))) H locs := h
  obtain ⟨w_7, ew_7⟩ : ∃ xx : mw, mw_up w_5 a (.inr (4, [.int x1, .int x2, .int x3, .int x4])) = xx := ⟨_, rfl⟩
  rw [ew_7] at h
  have f_8 : w_7 a = some (.inr (4, [.int x1, .int x2, .int x3, .int x4])) := by rw [← ew_7]; exact mw_self
  exact mx_retv G h hrt hlocks d_U_set_21 (by rw [← ew_7, ← ew_5, ← ew_3, ← ew_1]; simp only [mw_uu])
set_option maxHeartbeats 4000000 in
set_option maxRecDepth 100000 in
theorem m_U_covers {l : Launch} {D : va_G} {cA : Nat → ClassId} {n0 : Nat} {w : mw} {a : Nat} {u : uU} (ha : w a = some (ucell u)) {x : Int32} :
    Mi l D cA n0 y_U_covers c_U_covers (rmd 0) [.ref a, .int x] w (fun r w' => r = bI (cov u x) ∧ w' = w) := by
  refine mw_met (cc := b_U_covers) (maxL := 2) (ret := (some .boolean)) (by decide) rfl (Nat.le_of_ble_eq_true rfl) ?_
  intro p e s m below meth c ls G hrt hlocks hname h hl
  have G : mw_G p m c b_U_covers 2 s _ (c_U_covers :: TB) R_U D cl (tys cA) n0 := G
  have hx := G.1.1
  have hb := G.1.2.1
  have hl : lv_has ls 2 [(0, .ref a), (1, .int x)] := hl
  refine lv_iload_n hx hb d_U_covers_0 rfl (lv_at hl 1 rfl) ?_
  refine lv_aload_n hx hb d_U_covers_1 rfl (lv_at hl 0 rfl) ?_
  refine mx_get G h ha rfl 0 (by decide) (tb_in in_U) (tb_c k_36) rfl rfl d_U_covers_2 ?_
  refine lv_icmp_lt (tgt := 25) hx hb d_U_covers_5 (by decide) (fun c_1 => ?_) (fun c_1 => ?_)
  · refine lv_iconst (v := 0) hx hb d_U_covers_25 (by decide) ?_
    exact mx_retz G h hrt hlocks d_U_covers_26 rfl (⟨(bI_f (fun z => absurd z.1 (Int32.not_le.mpr c_1))).symm, rfl⟩)
  · refine lv_iload_n hx hb d_U_covers_8 rfl (lv_at hl 1 rfl) ?_
    refine lv_aload_n hx hb d_U_covers_9 rfl (lv_at hl 0 rfl) ?_
    refine mx_get G h ha rfl 0 (by decide) (tb_in in_U) (tb_c k_36) rfl rfl d_U_covers_10 ?_
    refine lv_aload_n hx hb d_U_covers_13 rfl (lv_at hl 0 rfl) ?_
    refine mx_get G h ha rfl 1 (by decide) (tb_in in_U) (tb_c k_39) rfl rfl d_U_covers_14 ?_
    refine lv_iadd hx hb d_U_covers_17 ?_
    refine lv_icmp_ge (tgt := 25) hx hb d_U_covers_18 (by decide) (fun c_2 => ?_) (fun c_2 => ?_)
    · refine lv_iconst (v := 0) hx hb d_U_covers_25 (by decide) ?_
      exact mx_retz G h hrt hlocks d_U_covers_26 rfl (⟨(bI_f (fun z => absurd z.2 (Int32.not_lt.mpr c_2))).symm, rfl⟩)
    · refine lv_iconst (v := 1) hx hb d_U_covers_21 (by decide) ?_
      refine lv_goto (tgt := 26) hx hb d_U_covers_22 (by decide) ?_
      exact mx_retz G h hrt hlocks d_U_covers_26 rfl (⟨(bI_t ⟨Int32.not_lt.mp c_1, Int32.not_le.mp c_2⟩).symm, rfl⟩)
set_option maxHeartbeats 4000000 in
set_option maxRecDepth 100000 in
theorem m_U_wordAt {l : Launch} {D : va_G} {cA : Nat → ClassId} {n0 : Nat} {w : mw} {a : Nat} {u : uU} (ha : w a = some (ucell u)) {x : Int32} :
    Ml l D cA n0 y_U_wordAt c_U_wordAt (rmd 0) [.ref a, .int x] w (fun r w' => r = wrd u x ∧ w' = w) := by
  refine mw_met (cc := b_U_wordAt) (maxL := 3) (ret := (some .long)) (by decide) rfl (Nat.le_of_ble_eq_true rfl) ?_
  intro p e s m below meth c ls G hrt hlocks hname h hl
  have G : mw_G p m c b_U_wordAt 3 s _ (c_U_wordAt :: TB) R_U D cl (tys cA) n0 := G
  have hx := G.1.1
  have hb := G.1.2.1
  have hl : lv_has ls 3 [(0, .ref a), (1, .int x)] := hl
  refine lv_aload_n hx hb d_U_wordAt_0 rfl (lv_at hl 0 rfl) ?_
  refine mx_get G h ha rfl 3 (by decide) (tb_in in_U) (tb_c k_44) rfl rfl d_U_wordAt_1 ?_
  refine lv_if_eq (tgt := 11) hx hb d_U_wordAt_4 (by decide) (fun c_1 => ?_) (fun c_1 => ?_)
  · refine lv_aload_n hx hb d_U_wordAt_11 rfl (lv_at hl 0 rfl) ?_
    refine mx_get G h ha rfl 2 (by decide) (tb_in in_U) (tb_c k_42) rfl rfl d_U_wordAt_12 ?_
    refine lv_iload_n hx hb d_U_wordAt_15 rfl (lv_at hl 1 rfl) ?_
    refine lv_aload_n hx hb d_U_wordAt_16 rfl (lv_at hl 0 rfl) ?_
    refine mx_get G h ha rfl 0 (by decide) (tb_in in_U) (tb_c k_36) rfl rfl d_U_wordAt_17 ?_
    refine lv_isub hx hb d_U_wordAt_20 ?_
    refine lv_iadd hx hb d_U_wordAt_21 ?_
    refine lv_istore_n (lv' := [(2, .int (u.2.2.1 + (x - u.1))), (0, .ref a), (1, .int x)]) hx hb d_U_wordAt_22 rfl hl (by decide) rfl (fun ls hl => ?_)
    refine lv_iload_n hx hb d_U_wordAt_23 rfl (lv_at hl 0 rfl) ?_
    refine lv_i2l hx hb d_U_wordAt_24 rfl ?_
    exact mx_retl G h hrt hlocks d_U_wordAt_25 (⟨by rw [wrd, if_pos c_1], rfl⟩)
  · refine lv_ldc2 (v := NN) hx hb G.1.2.2.2.1 (G.1.2.2.2.2 _ (tb_c k_195)) d_U_wordAt_7 ?_
    exact mx_retl G h hrt hlocks d_U_wordAt_10 (⟨by rw [wrd, if_neg c_1], rfl⟩)
set_option maxHeartbeats 4000000 in
set_option maxRecDepth 100000 in
theorem m_D_isQueue {l : Launch} {D : va_G} {cA : Nat → ClassId} {n0 : Nat} {w : mw} {x : Int32} :
    Mi l D cA n0 y_D_isQueue c_D_isQueue (rmd 0) [.int x] w (fun r w' => r = bI (0 ≤ x ∧ x < 3) ∧ w' = w) := by
  refine mw_met (cc := b_D_isQueue) (maxL := 1) (ret := (some .boolean)) (by decide) rfl (Nat.le_of_ble_eq_true rfl) ?_
  intro p e s m below meth c ls G hrt hlocks hname h hl
  have G : mw_G p m c b_D_isQueue 1 s _ (c_D_isQueue :: TB) R_D D cl (tys cA) n0 := G
  have hx := G.1.1
  have hb := G.1.2.1
  have hl : lv_has ls 1 [(0, .int x)] := hl
  refine lv_iload_n hx hb d_D_isQueue_0 rfl (lv_at hl 0 rfl) ?_
  refine lv_if_lt (tgt := 13) hx hb d_D_isQueue_1 (by decide) (fun c_1 => ?_) (fun c_1 => ?_)
  · refine lv_iconst (v := 0) hx hb d_D_isQueue_13 (by decide) ?_
    exact mx_retz G h hrt hlocks d_D_isQueue_14 rfl (⟨(bI_f (fun z => absurd z.1 (Int32.not_le.mpr c_1))).symm, rfl⟩)
  · refine lv_iload_n hx hb d_D_isQueue_4 rfl (lv_at hl 0 rfl) ?_
    refine lv_iconst (v := 3) hx hb d_D_isQueue_5 (by decide) ?_
    refine lv_icmp_ge (tgt := 13) hx hb d_D_isQueue_6 (by decide) (fun c_2 => ?_) (fun c_2 => ?_)
    · refine lv_iconst (v := 0) hx hb d_D_isQueue_13 (by decide) ?_
      exact mx_retz G h hrt hlocks d_D_isQueue_14 rfl (⟨(bI_f (fun z => absurd z.2 (Int32.not_lt.mpr c_2))).symm, rfl⟩)
    · refine lv_iconst (v := 1) hx hb d_D_isQueue_9 (by decide) ?_
      refine lv_goto (tgt := 14) hx hb d_D_isQueue_10 (by decide) ?_
      exact mx_retz G h hrt hlocks d_D_isQueue_14 rfl (⟨(bI_t ⟨Int32.not_lt.mp c_1, Int32.not_le.mp c_2⟩).symm, rfl⟩)
set_option maxHeartbeats 4000000 in
set_option maxRecDepth 100000 in
theorem m_D_isAddress {l : Launch} {D : va_G} {cA : Nat → ClassId} {n0 : Nat} {w : mw} {x : Int32} :
    Mi l D cA n0 y_D_isAddress c_D_isAddress (rmd 0) [.int x] w (fun r w' => r = bI (0 ≤ x ∧ x < 24) ∧ w' = w) := by
  refine mw_met (cc := b_D_isAddress) (maxL := 1) (ret := (some .boolean)) (by decide) rfl (Nat.le_of_ble_eq_true rfl) ?_
  intro p e s m below meth c ls G hrt hlocks hname h hl
  have G : mw_G p m c b_D_isAddress 1 s _ (c_D_isAddress :: TB) R_D D cl (tys cA) n0 := G
  have hx := G.1.1
  have hb := G.1.2.1
  have hl : lv_has ls 1 [(0, .int x)] := hl
  refine lv_iload_n hx hb d_D_isAddress_0 rfl (lv_at hl 0 rfl) ?_
  refine lv_if_lt (tgt := 14) hx hb d_D_isAddress_1 (by decide) (fun c_1 => ?_) (fun c_1 => ?_)
  · refine lv_iconst (v := 0) hx hb d_D_isAddress_14 (by decide) ?_
    exact mx_retz G h hrt hlocks d_D_isAddress_15 rfl (⟨(bI_f (fun z => absurd z.1 (Int32.not_le.mpr c_1))).symm, rfl⟩)
  · refine lv_iload_n hx hb d_D_isAddress_4 rfl (lv_at hl 0 rfl) ?_
    refine lv_bipush (v := 24) hx hb d_D_isAddress_5 (by decide) ?_
    refine lv_icmp_ge (tgt := 14) hx hb d_D_isAddress_7 (by decide) (fun c_2 => ?_) (fun c_2 => ?_)
    · refine lv_iconst (v := 0) hx hb d_D_isAddress_14 (by decide) ?_
      exact mx_retz G h hrt hlocks d_D_isAddress_15 rfl (⟨(bI_f (fun z => absurd z.2 (Int32.not_lt.mpr c_2))).symm, rfl⟩)
    · refine lv_iconst (v := 1) hx hb d_D_isAddress_10 (by decide) ?_
      refine lv_goto (tgt := 15) hx hb d_D_isAddress_11 (by decide) ?_
      exact mx_retz G h hrt hlocks d_D_isAddress_15 rfl (⟨(bI_t ⟨Int32.not_lt.mp c_1, Int32.not_le.mp c_2⟩).symm, rfl⟩)
set_option maxHeartbeats 4000000 in
set_option maxRecDepth 100000 in
theorem m_D_areAddresses {l : Launch} {D : va_G} {cA : Nat → ClassId} {n0 : Nat} {w : mw} {x n : Int32} :
    Mi l D cA n0 y_D_areAddresses c_D_areAddresses (rmd 0) [.int x, .int n] w (fun r w' => r = bI (1 ≤ n ∧ n ≤ 4 ∧ 0 ≤ x ∧ x ≤ 24 - n) ∧ w' = w) := by
  refine mw_met (cc := b_D_areAddresses) (maxL := 2) (ret := (some .boolean)) (by decide) rfl (Nat.le_of_ble_eq_true rfl) ?_
  intro p e s m below meth c ls G hrt hlocks hname h hl
  have G : mw_G p m c b_D_areAddresses 2 s _ (c_D_areAddresses :: TB) R_D D cl (tys cA) n0 := G
  have hx := G.1.1
  have hb := G.1.2.1
  have hl : lv_has ls 2 [(0, .int x), (1, .int n)] := hl
  refine lv_iload_n hx hb d_D_areAddresses_0 rfl (lv_at hl 1 rfl) ?_
  refine lv_iconst (v := 1) hx hb d_D_areAddresses_1 (by decide) ?_
  refine lv_icmp_lt (tgt := 10) hx hb d_D_areAddresses_2 (by decide) (fun c_1 => ?_) (fun c_1 => ?_)
  · refine lv_iconst (v := 0) hx hb d_D_areAddresses_10 (by decide) ?_
    exact mx_retz G h hrt hlocks d_D_areAddresses_11 rfl (⟨(bI_f (fun z => absurd z.1 (Int32.not_le.mpr c_1))).symm, rfl⟩)
  · refine lv_iload_n hx hb d_D_areAddresses_5 rfl (lv_at hl 1 rfl) ?_
    refine lv_iconst (v := 4) hx hb d_D_areAddresses_6 (by decide) ?_
    refine lv_icmp_le (tgt := 12) hx hb d_D_areAddresses_7 (by decide) (fun c_2 => ?_) (fun c_2 => ?_)
    · refine lv_iload_n hx hb d_D_areAddresses_12 rfl (lv_at hl 0 rfl) ?_
      refine lv_if_lt (tgt := 28) hx hb d_D_areAddresses_13 (by decide) (fun c_3 => ?_) (fun c_3 => ?_)
      · refine lv_iconst (v := 0) hx hb d_D_areAddresses_28 (by decide) ?_
        exact mx_retz G h hrt hlocks d_D_areAddresses_29 rfl (⟨(bI_f (fun z => absurd z.2.2.1 (Int32.not_le.mpr c_3))).symm, rfl⟩)
      · refine lv_iload_n hx hb d_D_areAddresses_16 rfl (lv_at hl 0 rfl) ?_
        refine lv_bipush (v := 24) hx hb d_D_areAddresses_17 (by decide) ?_
        refine lv_iload_n hx hb d_D_areAddresses_19 rfl (lv_at hl 1 rfl) ?_
        refine lv_isub hx hb d_D_areAddresses_20 ?_
        refine lv_icmp_gt (tgt := 28) hx hb d_D_areAddresses_21 (by decide) (fun c_4 => ?_) (fun c_4 => ?_)
        · refine lv_iconst (v := 0) hx hb d_D_areAddresses_28 (by decide) ?_
          exact mx_retz G h hrt hlocks d_D_areAddresses_29 rfl (⟨(bI_f (fun z => absurd z.2.2.2 (Int32.not_le.mpr c_4))).symm, rfl⟩)
        · refine lv_iconst (v := 1) hx hb d_D_areAddresses_24 (by decide) ?_
          refine lv_goto (tgt := 29) hx hb d_D_areAddresses_25 (by decide) ?_
          exact mx_retz G h hrt hlocks d_D_areAddresses_29 rfl (⟨(bI_t ⟨Int32.not_lt.mp c_1, c_2, Int32.not_lt.mp c_3, Int32.not_lt.mp c_4⟩).symm, rfl⟩)
    · refine lv_iconst (v := 0) hx hb d_D_areAddresses_10 (by decide) ?_
      exact mx_retz G h hrt hlocks d_D_areAddresses_11 rfl (⟨(bI_f (fun z => absurd z.2.1 c_2)).symm, rfl⟩)
