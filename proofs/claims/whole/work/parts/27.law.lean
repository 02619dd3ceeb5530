def cx0 : Cond := Cond.initialized "QueueDriveLaw"
theorem lw_in {L i : Nat} (hL : L ≤ 3073) (hi : i ≤ 4000) (h : ¬ nI L - 6 < nI i) : i + 6 ≤ L := by
  have h1 : (nI L - nI 6).toInt = (L : Int) - (6 : Nat) := pk_sub_toInt (by omega) (by decide)
  rw [Int32.lt_iff_toInt_lt, show (nI L - 6).toInt = (L : Int) - (6 : Nat) from h1, nI_toInt (by omega)] at h
  omega
theorem lw_out {L i : Nat} (hL : L ≤ 3073) (hi : i ≤ 4000) (h : nI L - 6 < nI i) : L < i + 6 := by
  have h1 : (nI L - nI 6).toInt = (L : Int) - (6 : Nat) := pk_sub_toInt (by omega) (by decide)
  rw [Int32.lt_iff_toInt_lt, show (nI L - 6).toInt = (L : Int) - (6 : Nat) from h1, nI_toInt (by omega)] at h
  omega
set_option maxHeartbeats 4000000 in
set_option maxRecDepth 100000 in
theorem law_loop {p : Program} {l : Launch} {e : Env} {s : State} {m : MethodId} {below : List Frame} {meth : Method} {c : Code} {D : va_G} {cA : Nat → ClassId} {b L Lx : Nat} {xs : Nat → Int32} {ρ k q : Nat → Nat} (hL : L ≤ 3073) (C0 : lw_At p s m meth c b L xs) (G : mw_G p m c code 4 s #[Value.ref b] (cx0 :: TB) R_L D cl (tys cA) s.heap.size) :
    ∀ (n t : Nat), n + t = 512 → ∀ (g : gS) (v : mw), DR cA v ρ k Lx g → MR cA v ρ q Lx t g → ∀ (H : Heap) (locs : List Loc) (ls : Array Slot), mw_H s.heap.size D cl s v H locs → lv_has ls 4 [(3, .int (nI (1 + 6 * t))), (0, .ref b), (1, .ref (k 0)), (2, .ref (q 0))] → W p l e room_1 s m #[Value.ref b] below meth c H locs 62 7506 (lw_Z below #[Value.ref b] s) (F0 m 28 ls []) := by
  obtain ⟨hx, hb, hr, hml, hown, hts, hX, hbl, hlocks, hgv⟩ := C0
  have hbA : ¬ mw_A s.heap.size b := Nat.not_le.mpr hbl
  have hL31 : L < 2 ^ 31 := by omega
  intro n
  induction n with
  | zero =>
    intro t ht g v Y M0 H locs ls h hl
    obtain ⟨i, hi⟩ : ∃ i, i = 1 + 6 * t := ⟨_, rfl⟩
    rw [← hi] at hl
    refine lv_iload_n hx hb d_L_law_28 rfl (lv_at hl 0 rfl) ?_
    refine lv_aload_n hx hb d_L_law_29 rfl (lv_at hl 1 rfl) ?_
    refine va_slen hx hb hX hbl hbA h.2 d_L_law_30 ?_
    refine lv_bipush (v := 6) hx hb d_L_law_31 (by decide) ?_
    refine lv_isub hx hb d_L_law_33 ?_
    refine lv_icmp_gt (tgt := 449) hx hb d_L_law_34 (by decide) (fun c_1 => ?_) (fun c_1 => ?_)
    · refine lv_iconst (v := 1) hx hb d_L_law_449 (by decide) ?_
      refine va_forget (fun q9 hq9 => h.2.2.2 q9 hq9) ?_
      refine W.widen (k := 600000) (n := 7302250) (Nat.le_of_ble_eq_true rfl) (Nat.le_of_ble_eq_true rfl) ?_
      exact lw_ret hx hb hr hlocks d_L_law_450
    · exact absurd (lw_in hL (by omega) c_1) (by omega)
  | succ n ih =>
    intro t ht g v Y M0 H locs ls h hl
    have h6 := Y.len
    obtain ⟨fl, us, sn, pw, pq, cq, ln, tn, tr⟩ := g
    have h6 : us.length ≤ Lx ∧ Lx ≤ 6 := h6
    obtain ⟨i, hi⟩ : ∃ i, i = 1 + 6 * t := ⟨_, rfl⟩
    rw [← hi] at hl
    refine lv_iload_n hx hb d_L_law_28 rfl (lv_at hl 0 rfl) ?_
    refine lv_aload_n hx hb d_L_law_29 rfl (lv_at hl 1 rfl) ?_
    refine va_slen hx hb hX hbl hbA h.2 d_L_law_30 ?_
    refine lv_bipush (v := 6) hx hb d_L_law_31 (by decide) ?_
    refine lv_isub hx hb d_L_law_33 ?_
    refine lv_icmp_gt (tgt := 449) hx hb d_L_law_34 (by decide) (fun c_2 => ?_) (fun c_2 => ?_)
    · refine lv_iconst (v := 1) hx hb d_L_law_449 (by decide) ?_
      refine va_forget (fun q9 hq9 => h.2.2.2 q9 hq9) ?_
      refine W.widen (k := 600000) (n := 7302250) (Nat.le_of_ble_eq_true rfl) (Nat.le_of_ble_eq_true rfl) ?_
      exact lw_ret hx hb hr hlocks d_L_law_450
    · have hin := lw_in hL (by omega) c_2
      refine lv_aload_n hx hb d_L_law_37 rfl (lv_at hl 1 rfl) ?_
      refine lv_iload_n hx hb d_L_law_38 rfl (lv_at hl 0 rfl) ?_
      refine ax_s G h hX hbl hbA hL31 i rfl (by omega) d_L_law_39 ?_
      refine lv_bipush (v := 15) hx hb d_L_law_40 (by decide) ?_
      refine lv_iand hx hb d_L_law_42 ?_
      obtain ⟨j, hj, hj2⟩ := pk_andE (xs i) (m := 15) 4 (by decide)
      have hj : j < 16 := hj
      rw [hj2]
      have cont : ∀ (g2 : gS) (v2 : mw), DR cA v2 ρ k Lx g2 → MR cA v2 ρ q Lx (t + 1) g2 → ∀ (H : Heap) (locs : List Loc), mw_H s.heap.size D cl s v2 H locs → W p l e room_1 s m #[Value.ref b] below meth c H locs 62 7506 (lw_Z below #[Value.ref b] s) (F0 m 443 ls []) := by
        intro g2 v2 Y2 M2 H locs h
        refine lv_iinc (v := (nI i) + 6) (lv' := [(3, .int ((nI i) + 6)), (0, .ref b), (1, .ref (k 0)), (2, .ref (q 0))]) hx hb d_L_law_443 hl (k := 0) rfl rfl (by decide) rfl (fun ls hl => ?_)
        refine lv_goto (tgt := 28) hx hb d_L_law_446 (by decide) ?_
        rw [show nI i + 6 = nI (1 + 6 * (t + 1)) by rw [show (6 : Int32) = nI 6 from rfl, nI_add, hi]; congr 1] at hl
        exact ih (t + 1) (by omega) g2 v2 Y2 M2 H locs ls h (lv_sub hl [0, 1, 2, 3] rfl)
      obtain ⟨fsk, hfk⟩ := Y.cell
      obtain ⟨fsq, hfq⟩ := M0.cell
      rcases (show j = 0 ∨ j = 1 ∨ j = 2 ∨ j = 3 ∨ j = 4 ∨ j = 5 ∨ j = 6 ∨ j = 7 ∨ j = 8 ∨ j = 9 ∨ j = 10 ∨ j = 11 ∨ j = 12 ∨ j = 13 ∨ j = 14 ∨ j = 15 by omega) with rfl | rfl | rfl | rfl | rfl | rfl | rfl | rfl | rfl | rfl | rfl | rfl | rfl | rfl | rfl | rfl
      · refine lv_tableIn (tgt := 104) hx hb d_L_law_43 (by decide) (by decide) rfl (by decide) ?_
        refine lv_aload_n hx hb d_L_law_104 rfl (lv_at hl 2 rfl) ?_
        refine lv_aload_n hx hb d_L_law_105 rfl (lv_at hl 1 rfl) ?_
        refine lv_iload_n hx hb d_L_law_106 rfl (lv_at hl 0 rfl) ?_
        refine lv_iconst (v := 1) hx hb d_L_law_107 (by decide) ?_
        refine lv_iadd hx hb d_L_law_108 ?_
        refine ax_s G h hX hbl hbA hL31 (i + 1) (nI_add i 1) (by omega) d_L_law_109 ?_
        refine lv_aload_n hx hb d_L_law_110 rfl (lv_at hl 1 rfl) ?_
        refine lv_iload_n hx hb d_L_law_111 rfl (lv_at hl 0 rfl) ?_
        refine lv_iconst (v := 2) hx hb d_L_law_112 (by decide) ?_
        refine lv_iadd hx hb d_L_law_113 ?_
        refine ax_s G h hX hbl hbA hL31 (i + 2) (nI_add i 2) (by omega) d_L_law_114 ?_
        refine lv_aload_n hx hb d_L_law_115 rfl (lv_at hl 1 rfl) ?_
        refine lv_iload_n hx hb d_L_law_116 rfl (lv_at hl 0 rfl) ?_
        refine lv_iconst (v := 3) hx hb d_L_law_117 (by decide) ?_
        refine lv_iadd hx hb d_L_law_118 ?_
        refine ax_s G h hX hbl hbA hL31 (i + 3) (nI_add i 3) (by omega) d_L_law_119 ?_
        refine lv_aload_n hx hb d_L_law_120 rfl (lv_at hl 1 rfl) ?_
        refine lv_iload_n hx hb d_L_law_121 rfl (lv_at hl 0 rfl) ?_
        refine lv_iconst (v := 4) hx hb d_L_law_122 (by decide) ?_
        refine lv_iadd hx hb d_L_law_123 ?_
        refine ax_s G h hX hbl hbA hL31 (i + 4) (nI_add i 4) (by omega) d_L_law_124 ?_
        refine lv_aload_n hx hb d_L_law_125 rfl (lv_at hl 1 rfl) ?_
        refine lv_iload_n hx hb d_L_law_126 rfl (lv_at hl 0 rfl) ?_
        refine lv_iconst (v := 5) hx hb d_L_law_127 (by decide) ?_
        refine lv_iadd hx hb d_L_law_128 ?_
        refine ax_s G h hX hbl hbA hL31 (i + 5) (nI_add i 5) (by omega) d_L_law_129 ?_
        refine mx_ci (cV (As := [.int (xs (i + 1)), .int (xs (i + 2)), .int (xs (i + 3)), .int (xs (i + 4)), .int (xs (i + 5))]) (rest := []) G h (m_D_submit Y (q := xs (i + 1)) (kd := xs (i + 2)) (a := xs (i + 3)) (n := xs (i + 4)) (v := xs (i + 5))) k_145 k_146 k_147 k_1 k_148 hd_D_submit rfl rfl ⟨Nat.le_of_ble_eq_true rfl, Nat.le_of_ble_eq_true rfl⟩ hfk rfl rfl hl.1 rfl (Nat.le_of_ble_eq_true rfl) d_L_law_130 ⟨Nat.le_of_ble_eq_true rfl, Nat.le_of_ble_eq_true rfl⟩) h (fun r_4 w_3 H locs h hcp => ?_)
        obtain ⟨er1, Y1, hf1⟩ := hcp
        have M1 := M0.frame (w' := w_3) (fun y9 hy9 => hf1 y9 (fun z9 => by have := z9.2; omega))
        obtain ⟨fsq1, hfq1⟩ := M1.cell
        refine lv_aload_n hx hb d_L_law_133 rfl (lv_at hl 3 rfl) ?_
        refine lv_aload_n hx hb d_L_law_134 rfl (lv_at hl 1 rfl) ?_
        refine lv_iload_n hx hb d_L_law_135 rfl (lv_at hl 0 rfl) ?_
        refine lv_iconst (v := 1) hx hb d_L_law_136 (by decide) ?_
        refine lv_iadd hx hb d_L_law_137 ?_
        refine ax_s G h hX hbl hbA hL31 (i + 1) (nI_add i 1) (by omega) d_L_law_138 ?_
        refine lv_aload_n hx hb d_L_law_139 rfl (lv_at hl 1 rfl) ?_
        refine lv_iload_n hx hb d_L_law_140 rfl (lv_at hl 0 rfl) ?_
        refine lv_iconst (v := 2) hx hb d_L_law_141 (by decide) ?_
        refine lv_iadd hx hb d_L_law_142 ?_
        refine ax_s G h hX hbl hbA hL31 (i + 2) (nI_add i 2) (by omega) d_L_law_143 ?_
        refine lv_aload_n hx hb d_L_law_144 rfl (lv_at hl 1 rfl) ?_
        refine lv_iload_n hx hb d_L_law_145 rfl (lv_at hl 0 rfl) ?_
        refine lv_iconst (v := 3) hx hb d_L_law_146 (by decide) ?_
        refine lv_iadd hx hb d_L_law_147 ?_
        refine ax_s G h hX hbl hbA hL31 (i + 3) (nI_add i 3) (by omega) d_L_law_148 ?_
        refine lv_aload_n hx hb d_L_law_149 rfl (lv_at hl 1 rfl) ?_
        refine lv_iload_n hx hb d_L_law_150 rfl (lv_at hl 0 rfl) ?_
        refine lv_iconst (v := 4) hx hb d_L_law_151 (by decide) ?_
        refine lv_iadd hx hb d_L_law_152 ?_
        refine ax_s G h hX hbl hbA hL31 (i + 4) (nI_add i 4) (by omega) d_L_law_153 ?_
        refine lv_aload_n hx hb d_L_law_154 rfl (lv_at hl 1 rfl) ?_
        refine lv_iload_n hx hb d_L_law_155 rfl (lv_at hl 0 rfl) ?_
        refine lv_iconst (v := 5) hx hb d_L_law_156 (by decide) ?_
        refine lv_iadd hx hb d_L_law_157 ?_
        refine ax_s G h hX hbl hbA hL31 (i + 5) (nI_add i 5) (by omega) d_L_law_158 ?_
        refine mx_ci (cV (As := [.int (xs (i + 1)), .int (xs (i + 2)), .int (xs (i + 3)), .int (xs (i + 4)), .int (xs (i + 5))]) (rest := [.int r_4]) G h (m_M_submit M1 (by omega) (qu := xs (i + 1)) (kd := xs (i + 2)) (a := xs (i + 3)) (n := xs (i + 4)) (v := xs (i + 5))) k_383 k_384 k_385 k_7 k_386 hd_M_submit rfl rfl ⟨Nat.le_of_ble_eq_true rfl, Nat.le_of_ble_eq_true rfl⟩ hfq1 rfl rfl hl.1 rfl (Nat.le_of_ble_eq_true rfl) d_L_law_159 ⟨Nat.le_of_ble_eq_true rfl, Nat.le_of_ble_eq_true rfl⟩) h (fun r_6 w_5 H locs h hcp => ?_)
        obtain ⟨er2, M2, hf2⟩ := hcp
        have Y2 := Y1.frame (w' := w_5) (fun y9 hy9 => hf2 y9 (fun z9 => by have z8 : ρ y9 = 7 := z9; have := hy9.2; omega))
        refine lv_icmp_eq (tgt := 443) hx hb d_L_law_162 (by decide) (fun c_7 => ?_) (fun c_7 => ?_)
        · exact cont _ _ Y2 M2 H locs h
        · exact absurd (er1.trans er2.symm) c_7
      · refine lv_tableIn (tgt := 167) hx hb d_L_law_43 (by decide) (by decide) rfl (by decide) ?_
        refine lv_aload_n hx hb d_L_law_167 rfl (lv_at hl 2 rfl) ?_
        refine lv_aload_n hx hb d_L_law_168 rfl (lv_at hl 1 rfl) ?_
        refine lv_iload_n hx hb d_L_law_169 rfl (lv_at hl 0 rfl) ?_
        refine lv_iconst (v := 1) hx hb d_L_law_170 (by decide) ?_
        refine lv_iadd hx hb d_L_law_171 ?_
        refine ax_s G h hX hbl hbA hL31 (i + 1) (nI_add i 1) (by omega) d_L_law_172 ?_
        refine lv_aload_n hx hb d_L_law_173 rfl (lv_at hl 1 rfl) ?_
        refine lv_iload_n hx hb d_L_law_174 rfl (lv_at hl 0 rfl) ?_
        refine lv_iconst (v := 2) hx hb d_L_law_175 (by decide) ?_
        refine lv_iadd hx hb d_L_law_176 ?_
        refine ax_s G h hX hbl hbA hL31 (i + 2) (nI_add i 2) (by omega) d_L_law_177 ?_
        refine mx_ci (cV (As := [.int (xs (i + 1)), .int (xs (i + 2))]) (rest := []) G h (m_D_step Y (q := xs (i + 1)) (x := xs (i + 2))) k_163 k_164 k_165 k_1 k_166 hd_D_step rfl rfl ⟨Nat.le_of_ble_eq_true rfl, Nat.le_of_ble_eq_true rfl⟩ hfk rfl rfl hl.1 rfl (Nat.le_of_ble_eq_true rfl) d_L_law_178 ⟨Nat.le_of_ble_eq_true rfl, Nat.le_of_ble_eq_true rfl⟩) h (fun r_9 w_8 H locs h hcp => ?_)
        obtain ⟨er1, Y1, hf1⟩ := hcp
        have M1 := M0.frame (w' := w_8) (fun y9 hy9 => hf1 y9 (fun z9 => by have := z9.2; omega))
        obtain ⟨fsq1, hfq1⟩ := M1.cell
        refine lv_aload_n hx hb d_L_law_181 rfl (lv_at hl 3 rfl) ?_
        refine lv_aload_n hx hb d_L_law_182 rfl (lv_at hl 1 rfl) ?_
        refine lv_iload_n hx hb d_L_law_183 rfl (lv_at hl 0 rfl) ?_
        refine lv_iconst (v := 1) hx hb d_L_law_184 (by decide) ?_
        refine lv_iadd hx hb d_L_law_185 ?_
        refine ax_s G h hX hbl hbA hL31 (i + 1) (nI_add i 1) (by omega) d_L_law_186 ?_
        refine lv_aload_n hx hb d_L_law_187 rfl (lv_at hl 1 rfl) ?_
        refine lv_iload_n hx hb d_L_law_188 rfl (lv_at hl 0 rfl) ?_
        refine lv_iconst (v := 2) hx hb d_L_law_189 (by decide) ?_
        refine lv_iadd hx hb d_L_law_190 ?_
        refine ax_s G h hX hbl hbA hL31 (i + 2) (nI_add i 2) (by omega) d_L_law_191 ?_
        refine mx_ci (cV (As := [.int (xs (i + 1)), .int (xs (i + 2))]) (rest := [.int r_9]) G h (m_M_step M1 (by omega) h6.2 (Nat.le_trans h6.1 h6.2) (qu := xs (i + 1)) (x := xs (i + 2))) k_394 k_395 k_396 k_7 k_397 hd_M_step rfl rfl ⟨Nat.le_of_ble_eq_true rfl, Nat.le_of_ble_eq_true rfl⟩ hfq1 rfl rfl hl.1 rfl (Nat.le_of_ble_eq_true rfl) d_L_law_192 ⟨Nat.le_of_ble_eq_true rfl, Nat.le_of_ble_eq_true rfl⟩) h (fun r_11 w_10 H locs h hcp => ?_)
        obtain ⟨er2, M2, hf2⟩ := hcp
        have Y2 := Y1.frame (w' := w_10) (fun y9 hy9 => hf2 y9 (fun z9 => by have z8 : ρ y9 = 7 := z9; have := hy9.2; omega))
        refine lv_icmp_eq (tgt := 443) hx hb d_L_law_195 (by decide) (fun c_12 => ?_) (fun c_12 => ?_)
        · exact cont _ _ Y2 M2 H locs h
        · exact absurd (er1.trans er2.symm) c_12
      · refine lv_tableIn (tgt := 200) hx hb d_L_law_43 (by decide) (by decide) rfl (by decide) ?_
        refine lv_aload_n hx hb d_L_law_200 rfl (lv_at hl 2 rfl) ?_
        refine lv_aload_n hx hb d_L_law_201 rfl (lv_at hl 1 rfl) ?_
        refine lv_iload_n hx hb d_L_law_202 rfl (lv_at hl 0 rfl) ?_
        refine lv_iconst (v := 1) hx hb d_L_law_203 (by decide) ?_
        refine lv_iadd hx hb d_L_law_204 ?_
        refine ax_s G h hX hbl hbA hL31 (i + 1) (nI_add i 1) (by omega) d_L_law_205 ?_
        refine mx_ci (cV (As := [.int (xs (i + 1))]) (rest := []) G h (m_D_take Y (q := xs (i + 1))) k_247 k_248 k_249 k_1 k_250 hd_D_take rfl rfl ⟨Nat.le_of_ble_eq_true rfl, Nat.le_of_ble_eq_true rfl⟩ hfk rfl rfl hl.1 rfl (Nat.le_of_ble_eq_true rfl) d_L_law_206 ⟨Nat.le_of_ble_eq_true rfl, Nat.le_of_ble_eq_true rfl⟩) h (fun r_14 w_13 H locs h hcp => ?_)
        obtain ⟨er1, Y1, hf1⟩ := hcp
        have M1 := M0.frame (w' := w_13) (fun y9 hy9 => hf1 y9 (fun z9 => by have := z9.2; omega))
        obtain ⟨fsq1, hfq1⟩ := M1.cell
        refine lv_aload_n hx hb d_L_law_209 rfl (lv_at hl 3 rfl) ?_
        refine lv_aload_n hx hb d_L_law_210 rfl (lv_at hl 1 rfl) ?_
        refine lv_iload_n hx hb d_L_law_211 rfl (lv_at hl 0 rfl) ?_
        refine lv_iconst (v := 1) hx hb d_L_law_212 (by decide) ?_
        refine lv_iadd hx hb d_L_law_213 ?_
        refine ax_s G h hX hbl hbA hL31 (i + 1) (nI_add i 1) (by omega) d_L_law_214 ?_
        refine mx_ci (cV (As := [.int (xs (i + 1))]) (rest := [.int r_14]) G h (m_M_take M1 (by omega) (qu := xs (i + 1))) k_454 k_455 k_456 k_7 k_457 hd_M_take rfl rfl ⟨Nat.le_of_ble_eq_true rfl, Nat.le_of_ble_eq_true rfl⟩ hfq1 rfl rfl hl.1 rfl (Nat.le_of_ble_eq_true rfl) d_L_law_215 ⟨Nat.le_of_ble_eq_true rfl, Nat.le_of_ble_eq_true rfl⟩) h (fun r_16 w_15 H locs h hcp => ?_)
        obtain ⟨er2, M2, hf2⟩ := hcp
        have Y2 := Y1.frame (w' := w_15) (fun y9 hy9 => hf2 y9 (fun z9 => by have z8 : ρ y9 = 7 := z9; have := hy9.2; omega))
        refine lv_icmp_eq (tgt := 443) hx hb d_L_law_218 (by decide) (fun c_17 => ?_) (fun c_17 => ?_)
        · exact cont _ _ Y2 M2 H locs h
        · exact absurd (er1.trans er2.symm) c_17
      · refine lv_tableIn (tgt := 223) hx hb d_L_law_43 (by decide) (by decide) rfl (by decide) ?_
        refine lv_aload_n hx hb d_L_law_223 rfl (lv_at hl 2 rfl) ?_
        refine mx_cl (cV (As := []) (rest := []) G h (m_D_result Y ) k_255 k_256 k_257 k_1 k_258 hd_D_result rfl rfl ⟨Nat.le_of_ble_eq_true rfl, Nat.le_of_ble_eq_true rfl⟩ hfk rfl rfl hl.1 rfl (Nat.le_of_ble_eq_true rfl) d_L_law_224 ⟨Nat.le_of_ble_eq_true rfl, Nat.le_of_ble_eq_true rfl⟩) h (fun r_19 w_18 H locs h hcp => ?_)
        obtain ⟨er_20, ew_21⟩ := hcp
        rw [er_20]
        rw [ew_21] at h
        refine lv_aload_n hx hb d_L_law_227 rfl (lv_at hl 3 rfl) ?_
        refine mx_cl (cV (As := []) (rest := [.long tr]) G h (m_M_result M0 (by omega) ) k_458 k_459 k_460 k_7 k_461 hd_M_result rfl rfl ⟨Nat.le_of_ble_eq_true rfl, Nat.le_of_ble_eq_true rfl⟩ hfq rfl rfl hl.1 rfl (Nat.le_of_ble_eq_true rfl) d_L_law_228 ⟨Nat.le_of_ble_eq_true rfl, Nat.le_of_ble_eq_true rfl⟩) h (fun r_23 w_22 H locs h hcp => ?_)
        obtain ⟨er_24, ew_25⟩ := hcp
        rw [er_24]
        rw [ew_25] at h
        refine W.lcmp hx hb d_L_law_231 ?_
        refine lv_if_eq (tgt := 443) hx hb d_L_law_232 (by decide) (fun c_26 => ?_) (fun c_26 => ?_)
        · exact cont _ v Y (M0.mono (Nat.le_succ t)) H locs h
        · exact absurd ((lg_cmp_eq _ _).mpr rfl) c_26
      · refine lv_tableIn (tgt := 237) hx hb d_L_law_43 (by decide) (by decide) rfl (by decide) ?_
        refine lv_aload_n hx hb d_L_law_237 rfl (lv_at hl 2 rfl) ?_
        refine mx_ci (cV (As := []) (rest := []) G h (m_D_reset Y ) k_259 k_260 k_261 k_1 k_262 hd_D_reset rfl rfl ⟨Nat.le_of_ble_eq_true rfl, Nat.le_of_ble_eq_true rfl⟩ hfk rfl rfl hl.1 rfl (Nat.le_of_ble_eq_true rfl) d_L_law_238 ⟨Nat.le_of_ble_eq_true rfl, Nat.le_of_ble_eq_true rfl⟩) h (fun r_28 w_27 H locs h hcp => ?_)
        obtain ⟨er1, Y1, hf1⟩ := hcp
        have M1 := M0.frame (w' := w_27) (fun y9 hy9 => hf1 y9 (fun z9 => by have := z9.2; omega))
        obtain ⟨fsq1, hfq1⟩ := M1.cell
        refine lv_aload_n hx hb d_L_law_241 rfl (lv_at hl 3 rfl) ?_
        refine mx_ci (cV (As := []) (rest := [.int r_28]) G h (m_M_reset M1 (by omega) ) k_462 k_463 k_464 k_7 k_465 hd_M_reset rfl rfl ⟨Nat.le_of_ble_eq_true rfl, Nat.le_of_ble_eq_true rfl⟩ hfq1 rfl rfl hl.1 rfl (Nat.le_of_ble_eq_true rfl) d_L_law_242 ⟨Nat.le_of_ble_eq_true rfl, Nat.le_of_ble_eq_true rfl⟩) h (fun r_30 w_29 H locs h hcp => ?_)
        obtain ⟨er2, M2, hf2⟩ := hcp
        have Y2 := Y1.frame (w' := w_29) (fun y9 hy9 => hf2 y9 (fun z9 => by have z8 : ρ y9 = 7 := z9; have := hy9.2; omega))
        refine lv_icmp_eq (tgt := 443) hx hb d_L_law_245 (by decide) (fun c_31 => ?_) (fun c_31 => ?_)
        · exact cont _ _ Y2 (M2.mono (Nat.le_succ t)) H locs h
        · exact absurd (er1.trans er2.symm) c_31
      · refine lv_tableIn (tgt := 250) hx hb d_L_law_43 (by decide) (by decide) rfl (by decide) ?_
        refine lv_aload_n hx hb d_L_law_250 rfl (lv_at hl 2 rfl) ?_
        refine mx_ci (cV (As := []) (rest := []) G h (m_D_power Y ) k_267 k_268 k_269 k_1 k_270 hd_D_power rfl rfl ⟨Nat.le_of_ble_eq_true rfl, Nat.le_of_ble_eq_true rfl⟩ hfk rfl rfl hl.1 rfl (Nat.le_of_ble_eq_true rfl) d_L_law_251 ⟨Nat.le_of_ble_eq_true rfl, Nat.le_of_ble_eq_true rfl⟩) h (fun r_33 w_32 H locs h hcp => ?_)
        obtain ⟨er1, Y1, hf1⟩ := hcp
        have M1 := M0.frame (w' := w_32) (fun y9 hy9 => hf1 y9 (fun z9 => by have := z9.2; omega))
        obtain ⟨fsq1, hfq1⟩ := M1.cell
        refine lv_aload_n hx hb d_L_law_254 rfl (lv_at hl 3 rfl) ?_
        refine mx_ci (cV (As := []) (rest := [.int r_33]) G h (m_M_power M1 (by omega) ) k_466 k_467 k_468 k_7 k_469 hd_M_power rfl rfl ⟨Nat.le_of_ble_eq_true rfl, Nat.le_of_ble_eq_true rfl⟩ hfq1 rfl rfl hl.1 rfl (Nat.le_of_ble_eq_true rfl) d_L_law_255 ⟨Nat.le_of_ble_eq_true rfl, Nat.le_of_ble_eq_true rfl⟩) h (fun r_35 w_34 H locs h hcp => ?_)
        obtain ⟨er2, M2, hf2⟩ := hcp
        have Y2 := Y1.frame (w' := w_34) (fun y9 hy9 => hf2 y9 (fun z9 => by have z8 : ρ y9 = 7 := z9; have := hy9.2; omega))
        refine lv_icmp_eq (tgt := 443) hx hb d_L_law_258 (by decide) (fun c_36 => ?_) (fun c_36 => ?_)
        · exact cont _ _ Y2 (M2.mono (Nat.le_succ t)) H locs h
        · exact absurd (er1.trans er2.symm) c_36
      · refine lv_tableIn (tgt := 263) hx hb d_L_law_43 (by decide) (by decide) rfl (by decide) ?_
        refine lv_aload_n hx hb d_L_law_263 rfl (lv_at hl 2 rfl) ?_
        refine lv_aload_n hx hb d_L_law_264 rfl (lv_at hl 1 rfl) ?_
        refine lv_iload_n hx hb d_L_law_265 rfl (lv_at hl 0 rfl) ?_
        refine lv_iconst (v := 1) hx hb d_L_law_266 (by decide) ?_
        refine lv_iadd hx hb d_L_law_267 ?_
        refine ax_s G h hX hbl hbA hL31 (i + 1) (nI_add i 1) (by omega) d_L_law_268 ?_
        refine lv_aload_n hx hb d_L_law_269 rfl (lv_at hl 1 rfl) ?_
        refine lv_iload_n hx hb d_L_law_270 rfl (lv_at hl 0 rfl) ?_
        refine lv_iconst (v := 2) hx hb d_L_law_271 (by decide) ?_
        refine lv_iadd hx hb d_L_law_272 ?_
        refine ax_s G h hX hbl hbA hL31 (i + 2) (nI_add i 2) (by omega) d_L_law_273 ?_
        refine lv_aload_n hx hb d_L_law_274 rfl (lv_at hl 1 rfl) ?_
        refine lv_iload_n hx hb d_L_law_275 rfl (lv_at hl 0 rfl) ?_
        refine lv_iconst (v := 3) hx hb d_L_law_276 (by decide) ?_
        refine lv_iadd hx hb d_L_law_277 ?_
        refine ax_s G h hX hbl hbA hL31 (i + 3) (nI_add i 3) (by omega) d_L_law_278 ?_
        refine mx_ci (cV (As := [.int (xs (i + 1)), .int (xs (i + 2)), .int (xs (i + 3))]) (rest := []) G h (m_D_powerDuring Y (q := xs (i + 1)) (x := xs (i + 2)) (y := xs (i + 3))) k_275 k_276 k_277 k_1 k_278 hd_D_powerDuring rfl rfl ⟨Nat.le_of_ble_eq_true rfl, Nat.le_of_ble_eq_true rfl⟩ hfk rfl rfl hl.1 rfl (Nat.le_of_ble_eq_true rfl) d_L_law_279 ⟨Nat.le_of_ble_eq_true rfl, Nat.le_of_ble_eq_true rfl⟩) h (fun r_38 w_37 H locs h hcp => ?_)
        obtain ⟨er1, Y1, hf1⟩ := hcp
        have M1 := M0.frame (w' := w_37) (fun y9 hy9 => hf1 y9 (fun z9 => by have := z9.2; omega))
        obtain ⟨fsq1, hfq1⟩ := M1.cell
        refine lv_aload_n hx hb d_L_law_282 rfl (lv_at hl 3 rfl) ?_
        refine lv_aload_n hx hb d_L_law_283 rfl (lv_at hl 1 rfl) ?_
        refine lv_iload_n hx hb d_L_law_284 rfl (lv_at hl 0 rfl) ?_
        refine lv_iconst (v := 1) hx hb d_L_law_285 (by decide) ?_
        refine lv_iadd hx hb d_L_law_286 ?_
        refine ax_s G h hX hbl hbA hL31 (i + 1) (nI_add i 1) (by omega) d_L_law_287 ?_
        refine lv_aload_n hx hb d_L_law_288 rfl (lv_at hl 1 rfl) ?_
        refine lv_iload_n hx hb d_L_law_289 rfl (lv_at hl 0 rfl) ?_
        refine lv_iconst (v := 2) hx hb d_L_law_290 (by decide) ?_
        refine lv_iadd hx hb d_L_law_291 ?_
        refine ax_s G h hX hbl hbA hL31 (i + 2) (nI_add i 2) (by omega) d_L_law_292 ?_
        refine lv_aload_n hx hb d_L_law_293 rfl (lv_at hl 1 rfl) ?_
        refine lv_iload_n hx hb d_L_law_294 rfl (lv_at hl 0 rfl) ?_
        refine lv_iconst (v := 3) hx hb d_L_law_295 (by decide) ?_
        refine lv_iadd hx hb d_L_law_296 ?_
        refine ax_s G h hX hbl hbA hL31 (i + 3) (nI_add i 3) (by omega) d_L_law_297 ?_
        refine mx_ci (cV (As := [.int (xs (i + 1)), .int (xs (i + 2)), .int (xs (i + 3))]) (rest := [.int r_38]) G h (m_M_powerDuring M1 (by omega) h6.2 (qu := xs (i + 1)) (x := xs (i + 2)) (y := xs (i + 3))) k_471 k_472 k_473 k_7 k_474 hd_M_powerDuring rfl rfl ⟨Nat.le_of_ble_eq_true rfl, Nat.le_of_ble_eq_true rfl⟩ hfq1 rfl rfl hl.1 rfl (Nat.le_of_ble_eq_true rfl) d_L_law_298 ⟨Nat.le_of_ble_eq_true rfl, Nat.le_of_ble_eq_true rfl⟩) h (fun r_40 w_39 H locs h hcp => ?_)
        obtain ⟨er2, M2, hf2⟩ := hcp
        have Y2 := Y1.frame (w' := w_39) (fun y9 hy9 => hf2 y9 (fun z9 => by have z8 : ρ y9 = 7 := z9; have := hy9.2; omega))
        refine lv_icmp_eq (tgt := 443) hx hb d_L_law_301 (by decide) (fun c_41 => ?_) (fun c_41 => ?_)
        · exact cont _ _ Y2 M2 H locs h
        · exact absurd (er1.trans er2.symm) c_41
      · refine lv_tableIn (tgt := 306) hx hb d_L_law_43 (by decide) (by decide) rfl (by decide) ?_
        refine lv_aload_n hx hb d_L_law_306 rfl (lv_at hl 2 rfl) ?_
        refine lv_aload_n hx hb d_L_law_307 rfl (lv_at hl 1 rfl) ?_
        refine lv_iload_n hx hb d_L_law_308 rfl (lv_at hl 0 rfl) ?_
        refine lv_iconst (v := 1) hx hb d_L_law_309 (by decide) ?_
        refine lv_iadd hx hb d_L_law_310 ?_
        refine ax_s G h hX hbl hbA hL31 (i + 1) (nI_add i 1) (by omega) d_L_law_311 ?_
        refine mx_cl (cV (As := [.int (xs (i + 1))]) (rest := []) G h (m_D_word Y (x := xs (i + 1))) k_279 k_280 k_281 k_1 k_282 hd_D_word rfl rfl ⟨Nat.le_of_ble_eq_true rfl, Nat.le_of_ble_eq_true rfl⟩ hfk rfl rfl hl.1 rfl (Nat.le_of_ble_eq_true rfl) d_L_law_312 ⟨Nat.le_of_ble_eq_true rfl, Nat.le_of_ble_eq_true rfl⟩) h (fun r_43 w_42 H locs h hcp => ?_)
        obtain ⟨er_44, ew_45⟩ := hcp
        subst er_44
        rw [ew_45] at h
        refine lv_aload_n hx hb d_L_law_315 rfl (lv_at hl 3 rfl) ?_
        refine lv_aload_n hx hb d_L_law_316 rfl (lv_at hl 1 rfl) ?_
        refine lv_iload_n hx hb d_L_law_317 rfl (lv_at hl 0 rfl) ?_
        refine lv_iconst (v := 1) hx hb d_L_law_318 (by decide) ?_
        refine lv_iadd hx hb d_L_law_319 ?_
        refine ax_s G h hX hbl hbA hL31 (i + 1) (nI_add i 1) (by omega) d_L_law_320 ?_
        refine mx_cl (cV (As := [.int (xs (i + 1))]) (rest := [.long (wordS (fl, us, sn, pw, pq, cq, ln, tn, tr) (xs (i + 1)))]) G h (m_M_word M0 (by omega) (x := xs (i + 1))) k_476 k_477 k_478 k_7 k_479 hd_M_word rfl rfl ⟨Nat.le_of_ble_eq_true rfl, Nat.le_of_ble_eq_true rfl⟩ hfq rfl rfl hl.1 rfl (Nat.le_of_ble_eq_true rfl) d_L_law_321 ⟨Nat.le_of_ble_eq_true rfl, Nat.le_of_ble_eq_true rfl⟩) h (fun r_47 w_46 H locs h hcp => ?_)
        obtain ⟨er_48, ew_49⟩ := hcp
        subst er_48
        rw [ew_49] at h
        refine W.lcmp hx hb d_L_law_324 ?_
        refine lv_if_eq (tgt := 443) hx hb d_L_law_325 (by decide) (fun c_50 => ?_) (fun c_50 => ?_)
        · exact cont _ v Y (M0.mono (Nat.le_succ t)) H locs h
        · exact absurd ((lg_cmp_eq _ _).mpr rfl) c_50
      · refine lv_tableIn (tgt := 330) hx hb d_L_law_43 (by decide) (by decide) rfl (by decide) ?_
        refine lv_aload_n hx hb d_L_law_330 rfl (lv_at hl 2 rfl) ?_
        refine lv_aload_n hx hb d_L_law_331 rfl (lv_at hl 1 rfl) ?_
        refine lv_iload_n hx hb d_L_law_332 rfl (lv_at hl 0 rfl) ?_
        refine lv_iconst (v := 1) hx hb d_L_law_333 (by decide) ?_
        refine lv_iadd hx hb d_L_law_334 ?_
        refine ax_s G h hX hbl hbA hL31 (i + 1) (nI_add i 1) (by omega) d_L_law_335 ?_
        refine mx_cl (cV (As := [.int (xs (i + 1))]) (rest := []) G h (m_D_flash Y (x := xs (i + 1))) k_286 k_287 k_288 k_1 k_289 hd_D_flash rfl rfl ⟨Nat.le_of_ble_eq_true rfl, Nat.le_of_ble_eq_true rfl⟩ hfk rfl rfl hl.1 rfl (Nat.le_of_ble_eq_true rfl) d_L_law_336 ⟨Nat.le_of_ble_eq_true rfl, Nat.le_of_ble_eq_true rfl⟩) h (fun r_52 w_51 H locs h hcp => ?_)
        obtain ⟨er_53, ew_54⟩ := hcp
        subst er_53
        rw [ew_54] at h
        refine lv_aload_n hx hb d_L_law_339 rfl (lv_at hl 3 rfl) ?_
        refine lv_aload_n hx hb d_L_law_340 rfl (lv_at hl 1 rfl) ?_
        refine lv_iload_n hx hb d_L_law_341 rfl (lv_at hl 0 rfl) ?_
        refine lv_iconst (v := 1) hx hb d_L_law_342 (by decide) ?_
        refine lv_iadd hx hb d_L_law_343 ?_
        refine ax_s G h hX hbl hbA hL31 (i + 1) (nI_add i 1) (by omega) d_L_law_344 ?_
        refine mx_cl (cV (As := [.int (xs (i + 1))]) (rest := [.long (flashS (fl, us, sn, pw, pq, cq, ln, tn, tr) (xs (i + 1)))]) G h (m_M_flash M0 (by omega) (x := xs (i + 1))) k_480 k_481 k_482 k_7 k_483 hd_M_flash rfl rfl ⟨Nat.le_of_ble_eq_true rfl, Nat.le_of_ble_eq_true rfl⟩ hfq rfl rfl hl.1 rfl (Nat.le_of_ble_eq_true rfl) d_L_law_345 ⟨Nat.le_of_ble_eq_true rfl, Nat.le_of_ble_eq_true rfl⟩) h (fun r_56 w_55 H locs h hcp => ?_)
        obtain ⟨er_57, ew_58⟩ := hcp
        subst er_57
        rw [ew_58] at h
        refine W.lcmp hx hb d_L_law_348 ?_
        refine lv_if_eq (tgt := 443) hx hb d_L_law_349 (by decide) (fun c_59 => ?_) (fun c_59 => ?_)
        · exact cont _ v Y (M0.mono (Nat.le_succ t)) H locs h
        · exact absurd ((lg_cmp_eq _ _).mpr rfl) c_59
      · refine lv_tableIn (tgt := 354) hx hb d_L_law_43 (by decide) (by decide) rfl (by decide) ?_
        refine lv_aload_n hx hb d_L_law_354 rfl (lv_at hl 2 rfl) ?_
        refine lv_aload_n hx hb d_L_law_355 rfl (lv_at hl 1 rfl) ?_
        refine lv_iload_n hx hb d_L_law_356 rfl (lv_at hl 0 rfl) ?_
        refine lv_iconst (v := 1) hx hb d_L_law_357 (by decide) ?_
        refine lv_iadd hx hb d_L_law_358 ?_
        refine ax_s G h hX hbl hbA hL31 (i + 1) (nI_add i 1) (by omega) d_L_law_359 ?_
        refine lv_aload_n hx hb d_L_law_360 rfl (lv_at hl 1 rfl) ?_
        refine lv_iload_n hx hb d_L_law_361 rfl (lv_at hl 0 rfl) ?_
        refine lv_iconst (v := 2) hx hb d_L_law_362 (by decide) ?_
        refine lv_iadd hx hb d_L_law_363 ?_
        refine ax_s G h hX hbl hbA hL31 (i + 2) (nI_add i 2) (by omega) d_L_law_364 ?_
        refine mx_ci (cV (As := [.int (xs (i + 1)), .int (xs (i + 2))]) (rest := []) G h (m_D_queue Y (q := xs (i + 1)) (x := xs (i + 2))) k_290 k_291 k_292 k_1 k_293 hd_D_queue rfl rfl ⟨Nat.le_of_ble_eq_true rfl, Nat.le_of_ble_eq_true rfl⟩ hfk rfl rfl hl.1 rfl (Nat.le_of_ble_eq_true rfl) d_L_law_365 ⟨Nat.le_of_ble_eq_true rfl, Nat.le_of_ble_eq_true rfl⟩) h (fun r_61 w_60 H locs h hcp => ?_)
        obtain ⟨er_62, ew_63⟩ := hcp
        subst er_62
        rw [ew_63] at h
        refine lv_aload_n hx hb d_L_law_368 rfl (lv_at hl 3 rfl) ?_
        refine lv_aload_n hx hb d_L_law_369 rfl (lv_at hl 1 rfl) ?_
        refine lv_iload_n hx hb d_L_law_370 rfl (lv_at hl 0 rfl) ?_
        refine lv_iconst (v := 1) hx hb d_L_law_371 (by decide) ?_
        refine lv_iadd hx hb d_L_law_372 ?_
        refine ax_s G h hX hbl hbA hL31 (i + 1) (nI_add i 1) (by omega) d_L_law_373 ?_
        refine lv_aload_n hx hb d_L_law_374 rfl (lv_at hl 1 rfl) ?_
        refine lv_iload_n hx hb d_L_law_375 rfl (lv_at hl 0 rfl) ?_
        refine lv_iconst (v := 2) hx hb d_L_law_376 (by decide) ?_
        refine lv_iadd hx hb d_L_law_377 ?_
        refine ax_s G h hX hbl hbA hL31 (i + 2) (nI_add i 2) (by omega) d_L_law_378 ?_
        refine mx_ci (cV (As := [.int (xs (i + 1)), .int (xs (i + 2))]) (rest := [.int (queueS (fl, us, sn, pw, pq, cq, ln, tn, tr) (xs (i + 1)) (xs (i + 2)))]) G h (m_M_queue M0 (by omega) (qu := xs (i + 1)) (x := xs (i + 2))) k_484 k_485 k_486 k_7 k_487 hd_M_queue rfl rfl ⟨Nat.le_of_ble_eq_true rfl, Nat.le_of_ble_eq_true rfl⟩ hfq rfl rfl hl.1 rfl (Nat.le_of_ble_eq_true rfl) d_L_law_379 ⟨Nat.le_of_ble_eq_true rfl, Nat.le_of_ble_eq_true rfl⟩) h (fun r_65 w_64 H locs h hcp => ?_)
        obtain ⟨er_66, ew_67⟩ := hcp
        subst er_66
        rw [ew_67] at h
        refine lv_icmp_eq (tgt := 443) hx hb d_L_law_382 (by decide) (fun c_68 => ?_) (fun c_68 => ?_)
        · exact cont _ v Y (M0.mono (Nat.le_succ t)) H locs h
        · exact absurd rfl c_68
      · refine lv_tableIn (tgt := 387) hx hb d_L_law_43 (by decide) (by decide) rfl (by decide) ?_
        refine lv_aload_n hx hb d_L_law_387 rfl (lv_at hl 2 rfl) ?_
        refine lv_aload_n hx hb d_L_law_388 rfl (lv_at hl 1 rfl) ?_
        refine lv_iload_n hx hb d_L_law_389 rfl (lv_at hl 0 rfl) ?_
        refine lv_iconst (v := 1) hx hb d_L_law_390 (by decide) ?_
        refine lv_iadd hx hb d_L_law_391 ?_
        refine ax_s G h hX hbl hbA hL31 (i + 1) (nI_add i 1) (by omega) d_L_law_392 ?_
        refine lv_aload_n hx hb d_L_law_393 rfl (lv_at hl 1 rfl) ?_
        refine lv_iload_n hx hb d_L_law_394 rfl (lv_at hl 0 rfl) ?_
        refine lv_iconst (v := 2) hx hb d_L_law_395 (by decide) ?_
        refine lv_iadd hx hb d_L_law_396 ?_
        refine ax_s G h hX hbl hbA hL31 (i + 2) (nI_add i 2) (by omega) d_L_law_397 ?_
        refine mx_ci (cV (As := [.int (xs (i + 1)), .int (xs (i + 2))]) (rest := []) G h (m_D_unit Y (y := xs (i + 1)) (x := xs (i + 2))) k_294 k_295 k_296 k_1 k_297 hd_D_unit rfl rfl ⟨Nat.le_of_ble_eq_true rfl, Nat.le_of_ble_eq_true rfl⟩ hfk rfl rfl hl.1 rfl (Nat.le_of_ble_eq_true rfl) d_L_law_398 ⟨Nat.le_of_ble_eq_true rfl, Nat.le_of_ble_eq_true rfl⟩) h (fun r_70 w_69 H locs h hcp => ?_)
        obtain ⟨er_71, ew_72⟩ := hcp
        subst er_71
        rw [ew_72] at h
        refine lv_aload_n hx hb d_L_law_401 rfl (lv_at hl 3 rfl) ?_
        refine lv_aload_n hx hb d_L_law_402 rfl (lv_at hl 1 rfl) ?_
        refine lv_iload_n hx hb d_L_law_403 rfl (lv_at hl 0 rfl) ?_
        refine lv_iconst (v := 1) hx hb d_L_law_404 (by decide) ?_
        refine lv_iadd hx hb d_L_law_405 ?_
        refine ax_s G h hX hbl hbA hL31 (i + 1) (nI_add i 1) (by omega) d_L_law_406 ?_
        refine lv_aload_n hx hb d_L_law_407 rfl (lv_at hl 1 rfl) ?_
        refine lv_iload_n hx hb d_L_law_408 rfl (lv_at hl 0 rfl) ?_
        refine lv_iconst (v := 2) hx hb d_L_law_409 (by decide) ?_
        refine lv_iadd hx hb d_L_law_410 ?_
        refine ax_s G h hX hbl hbA hL31 (i + 2) (nI_add i 2) (by omega) d_L_law_411 ?_
        refine mx_ci (cV (As := [.int (xs (i + 1)), .int (xs (i + 2))]) (rest := [.int (unitS (fl, us, sn, pw, pq, cq, ln, tn, tr) (xs (i + 1)) (xs (i + 2)))]) G h (m_M_unit M0 (by omega) (Nat.le_trans h6.1 h6.2) (y := xs (i + 1)) (x := xs (i + 2))) k_488 k_489 k_490 k_7 k_491 hd_M_unit rfl rfl ⟨Nat.le_of_ble_eq_true rfl, Nat.le_of_ble_eq_true rfl⟩ hfq rfl rfl hl.1 rfl (Nat.le_of_ble_eq_true rfl) d_L_law_412 ⟨Nat.le_of_ble_eq_true rfl, Nat.le_of_ble_eq_true rfl⟩) h (fun r_74 w_73 H locs h hcp => ?_)
        obtain ⟨er_75, ew_76⟩ := hcp
        subst er_75
        rw [ew_76] at h
        refine lv_icmp_eq (tgt := 443) hx hb d_L_law_415 (by decide) (fun c_77 => ?_) (fun c_77 => ?_)
        · exact cont _ v Y (M0.mono (Nat.le_succ t)) H locs h
        · exact absurd rfl c_77
      · refine lv_tableIn (tgt := 420) hx hb d_L_law_43 (by decide) (by decide) rfl (by decide) ?_
        refine lv_aload_n hx hb d_L_law_420 rfl (lv_at hl 2 rfl) ?_
        refine lv_aload_n hx hb d_L_law_421 rfl (lv_at hl 1 rfl) ?_
        refine lv_iload_n hx hb d_L_law_422 rfl (lv_at hl 0 rfl) ?_
        refine lv_iconst (v := 1) hx hb d_L_law_423 (by decide) ?_
        refine lv_iadd hx hb d_L_law_424 ?_
        refine ax_s G h hX hbl hbA hL31 (i + 1) (nI_add i 1) (by omega) d_L_law_425 ?_
        refine mx_ci (cV (As := [.int (xs (i + 1))]) (rest := []) G h (m_D_count Y (x := xs (i + 1))) k_298 k_299 k_300 k_1 k_301 hd_D_count rfl rfl ⟨Nat.le_of_ble_eq_true rfl, Nat.le_of_ble_eq_true rfl⟩ hfk rfl rfl hl.1 rfl (Nat.le_of_ble_eq_true rfl) d_L_law_426 ⟨Nat.le_of_ble_eq_true rfl, Nat.le_of_ble_eq_true rfl⟩) h (fun r_79 w_78 H locs h hcp => ?_)
        obtain ⟨er_80, ew_81⟩ := hcp
        subst er_80
        rw [ew_81] at h
        refine lv_aload_n hx hb d_L_law_429 rfl (lv_at hl 3 rfl) ?_
        refine lv_aload_n hx hb d_L_law_430 rfl (lv_at hl 1 rfl) ?_
        refine lv_iload_n hx hb d_L_law_431 rfl (lv_at hl 0 rfl) ?_
        refine lv_iconst (v := 1) hx hb d_L_law_432 (by decide) ?_
        refine lv_iadd hx hb d_L_law_433 ?_
        refine ax_s G h hX hbl hbA hL31 (i + 1) (nI_add i 1) (by omega) d_L_law_434 ?_
        refine mx_ci (cV (As := [.int (xs (i + 1))]) (rest := [.int (countS (fl, us, sn, pw, pq, cq, ln, tn, tr) (xs (i + 1)))]) G h (m_M_count M0 (by omega) (x := xs (i + 1))) k_492 k_493 k_494 k_7 k_495 hd_M_count rfl rfl ⟨Nat.le_of_ble_eq_true rfl, Nat.le_of_ble_eq_true rfl⟩ hfq rfl rfl hl.1 rfl (Nat.le_of_ble_eq_true rfl) d_L_law_435 ⟨Nat.le_of_ble_eq_true rfl, Nat.le_of_ble_eq_true rfl⟩) h (fun r_83 w_82 H locs h hcp => ?_)
        obtain ⟨er_84, ew_85⟩ := hcp
        subst er_84
        rw [ew_85] at h
        refine lv_icmp_eq (tgt := 443) hx hb d_L_law_438 (by decide) (fun c_86 => ?_) (fun c_86 => ?_)
        · exact cont _ v Y (M0.mono (Nat.le_succ t)) H locs h
        · exact absurd rfl c_86
      · refine lv_tableOut (tgt := 443) hx hb d_L_law_43 (Or.inr (by decide)) (by decide) ?_
        exact cont _ v Y (M0.mono (Nat.le_succ t)) H locs h
      · refine lv_tableOut (tgt := 443) hx hb d_L_law_43 (Or.inr (by decide)) (by decide) ?_
        exact cont _ v Y (M0.mono (Nat.le_succ t)) H locs h
      · refine lv_tableOut (tgt := 443) hx hb d_L_law_43 (Or.inr (by decide)) (by decide) ?_
        exact cont _ v Y (M0.mono (Nat.le_succ t)) H locs h
      · refine lv_tableOut (tgt := 443) hx hb d_L_law_43 (Or.inr (by decide)) (by decide) ?_
        exact cont _ v Y (M0.mono (Nat.le_succ t)) H locs h
