def Lc (x : Int32) : Nat := if x < 1 then 1 else if 6 < x then 6 else x.toNatClampNeg
theorem Lc_1 (x : Int32) : 1 ≤ Lc x ∧ Lc x ≤ 6 ∧ (¬ x < 1 → ¬ 6 < x → x = nI (Lc x)) := by
  unfold Lc
  by_cases h1 : x < 1
  · rw [if_pos h1]; exact ⟨by decide, by decide, fun z => absurd h1 z⟩
  · rw [if_neg h1]
    by_cases h6 : 6 < x
    · rw [if_pos h6]; exact ⟨by decide, by decide, fun _ z => absurd h6 z⟩
    · rw [if_neg h6]
      obtain ⟨j, hj, e⟩ := ixL (q := x) 6 rfl (by decide) (Int32.le_trans (by decide) (Int32.not_lt.mp h1)) (Int32.not_lt.mp h6)
      have hj1 : 1 ≤ j := by
        rcases Nat.eq_zero_or_pos j with z | z
        · rw [e, z] at h1; exact absurd (by decide) h1
        · exact z
      rw [e, nI_c (by omega)]
      exact ⟨hj1, hj, fun _ _ => rfl⟩
def ixQ9 : List Nat := 0 :: 19 :: (ixI ++ ixZ)
theorem MX.re {cA : Nat → ClassId} {w : mw} {ρ ρ' q : Nat → Nat} {lim un sn pg bd cm cp : Nat} {tk : Int32} {rs : Int64} {F : Nat → Nat → Int32} {R : Nat → Int64} (h : MX cA w ρ q lim un sn pg bd cm cp tk rs F R) (e : ∀ i ∈ ixQ9, ρ' (q i) = 7) : MX cA w ρ' q lim un sn pg bd cm cp tk rs F R := by
  obtain ⟨h1, h2, h3, h4, h5, -⟩ := h
  exact ⟨h1, h2, h3, h4, h5, e 0 List.mem_cons_self, fun i hi => e i (List.mem_cons_of_mem _ (List.mem_cons_of_mem _ hi)), e 19 (List.mem_cons_of_mem _ List.mem_cons_self)⟩
theorem d_M_init_0 : decode b_M_init 0 = .ok (.aload_n 0, 1) := by decide +kernel
theorem d_M_init_1 : decode b_M_init 1 = .ok (.invokespecial 1, 3) := by decide +kernel
theorem d_M_init_4 : decode b_M_init 4 = .ok (.aload_n 0, 1) := by decide +kernel
theorem d_M_init_5 : decode b_M_init 5 = .ok (.sipush 520, 3) := by decide +kernel
theorem d_M_init_8 : decode b_M_init 8 = .ok (.newarray .int, 2) := by decide +kernel
theorem d_M_init_10 : decode b_M_init 10 = .ok (.putfield 7, 3) := by decide +kernel
theorem d_M_init_13 : decode b_M_init 13 = .ok (.aload_n 0, 1) := by decide +kernel
theorem d_M_init_14 : decode b_M_init 14 = .ok (.sipush 520, 3) := by decide +kernel
theorem d_M_init_17 : decode b_M_init 17 = .ok (.newarray .int, 2) := by decide +kernel
theorem d_M_init_19 : decode b_M_init 19 = .ok (.putfield 13, 3) := by decide +kernel
theorem d_M_init_22 : decode b_M_init 22 = .ok (.aload_n 0, 1) := by decide +kernel
theorem d_M_init_23 : decode b_M_init 23 = .ok (.sipush 520, 3) := by decide +kernel
theorem d_M_init_26 : decode b_M_init 26 = .ok (.newarray .int, 2) := by decide +kernel
theorem d_M_init_28 : decode b_M_init 28 = .ok (.putfield 16, 3) := by decide +kernel
theorem d_M_init_31 : decode b_M_init 31 = .ok (.aload_n 0, 1) := by decide +kernel
theorem d_M_init_32 : decode b_M_init 32 = .ok (.sipush 520, 3) := by decide +kernel
theorem d_M_init_35 : decode b_M_init 35 = .ok (.newarray .boolean, 2) := by decide +kernel
theorem d_M_init_37 : decode b_M_init 37 = .ok (.putfield 19, 3) := by decide +kernel
theorem d_M_init_40 : decode b_M_init 40 = .ok (.aload_n 0, 1) := by decide +kernel
theorem d_M_init_41 : decode b_M_init 41 = .ok (.sipush 520, 3) := by decide +kernel
theorem d_M_init_44 : decode b_M_init 44 = .ok (.newarray .int, 2) := by decide +kernel
theorem d_M_init_46 : decode b_M_init 46 = .ok (.putfield 23, 3) := by decide +kernel
theorem d_M_init_49 : decode b_M_init 49 = .ok (.aload_n 0, 1) := by decide +kernel
theorem d_M_init_50 : decode b_M_init 50 = .ok (.sipush 520, 3) := by decide +kernel
theorem d_M_init_53 : decode b_M_init 53 = .ok (.newarray .boolean, 2) := by decide +kernel
theorem d_M_init_55 : decode b_M_init 55 = .ok (.putfield 26, 3) := by decide +kernel
theorem d_M_init_58 : decode b_M_init 58 = .ok (.aload_n 0, 1) := by decide +kernel
theorem d_M_init_59 : decode b_M_init 59 = .ok (.sipush 520, 3) := by decide +kernel
theorem d_M_init_62 : decode b_M_init 62 = .ok (.newarray .int, 2) := by decide +kernel
theorem d_M_init_64 : decode b_M_init 64 = .ok (.putfield 29, 3) := by decide +kernel
theorem d_M_init_67 : decode b_M_init 67 = .ok (.aload_n 0, 1) := by decide +kernel
theorem d_M_init_68 : decode b_M_init 68 = .ok (.sipush 520, 3) := by decide +kernel
theorem d_M_init_71 : decode b_M_init 71 = .ok (.newarray .int, 2) := by decide +kernel
theorem d_M_init_73 : decode b_M_init 73 = .ok (.putfield 32, 3) := by decide +kernel
theorem d_M_init_76 : decode b_M_init 76 = .ok (.aload_n 0, 1) := by decide +kernel
theorem d_M_init_77 : decode b_M_init 77 = .ok (.sipush 520, 3) := by decide +kernel
theorem d_M_init_80 : decode b_M_init 80 = .ok (.newarray .int, 2) := by decide +kernel
theorem d_M_init_82 : decode b_M_init 82 = .ok (.putfield 35, 3) := by decide +kernel
theorem d_M_init_85 : decode b_M_init 85 = .ok (.aload_n 0, 1) := by decide +kernel
theorem d_M_init_86 : decode b_M_init 86 = .ok (.sipush 520, 3) := by decide +kernel
theorem d_M_init_89 : decode b_M_init 89 = .ok (.newarray .int, 2) := by decide +kernel
theorem d_M_init_91 : decode b_M_init 91 = .ok (.putfield 38, 3) := by decide +kernel
theorem d_M_init_94 : decode b_M_init 94 = .ok (.aload_n 0, 1) := by decide +kernel
theorem d_M_init_95 : decode b_M_init 95 = .ok (.sipush 520, 3) := by decide +kernel
theorem d_M_init_98 : decode b_M_init 98 = .ok (.newarray .int, 2) := by decide +kernel
theorem d_M_init_100 : decode b_M_init 100 = .ok (.putfield 41, 3) := by decide +kernel
theorem d_M_init_103 : decode b_M_init 103 = .ok (.aload_n 0, 1) := by decide +kernel
theorem d_M_init_104 : decode b_M_init 104 = .ok (.sipush 520, 3) := by decide +kernel
theorem d_M_init_107 : decode b_M_init 107 = .ok (.newarray .int, 2) := by decide +kernel
theorem d_M_init_109 : decode b_M_init 109 = .ok (.putfield 44, 3) := by decide +kernel
theorem d_M_init_112 : decode b_M_init 112 = .ok (.aload_n 0, 1) := by decide +kernel
theorem d_M_init_113 : decode b_M_init 113 = .ok (.sipush 520, 3) := by decide +kernel
theorem d_M_init_116 : decode b_M_init 116 = .ok (.newarray .int, 2) := by decide +kernel
theorem d_M_init_118 : decode b_M_init 118 = .ok (.putfield 47, 3) := by decide +kernel
theorem d_M_init_121 : decode b_M_init 121 = .ok (.aload_n 0, 1) := by decide +kernel
theorem d_M_init_122 : decode b_M_init 122 = .ok (.sipush 520, 3) := by decide +kernel
theorem d_M_init_125 : decode b_M_init 125 = .ok (.newarray .long, 2) := by decide +kernel
theorem d_M_init_127 : decode b_M_init 127 = .ok (.putfield 50, 3) := by decide +kernel
theorem d_M_init_130 : decode b_M_init 130 = .ok (.aload_n 0, 1) := by decide +kernel
theorem d_M_init_131 : decode b_M_init 131 = .ok (.ldc2_w 54, 3) := by decide +kernel
theorem d_M_init_134 : decode b_M_init 134 = .ok (.putfield 56, 3) := by decide +kernel
theorem d_M_init_137 : decode b_M_init 137 = .ok (.aload_n 0, 1) := by decide +kernel
theorem d_M_init_138 : decode b_M_init 138 = .ok (.iload_n 1, 1) := by decide +kernel
theorem d_M_init_139 : decode b_M_init 139 = .ok (.iconst 1, 1) := by decide +kernel
theorem d_M_init_140 : decode b_M_init 140 = .ok (.if_icmp .ge 7, 3) := by decide +kernel
theorem d_M_init_143 : decode b_M_init 143 = .ok (.iconst 1, 1) := by decide +kernel
theorem d_M_init_144 : decode b_M_init 144 = .ok (.goto 15, 3) := by decide +kernel
theorem d_M_init_147 : decode b_M_init 147 = .ok (.iload_n 1, 1) := by decide +kernel
theorem d_M_init_148 : decode b_M_init 148 = .ok (.bipush 6, 2) := by decide +kernel
theorem d_M_init_150 : decode b_M_init 150 = .ok (.if_icmp .le 8, 3) := by decide +kernel
theorem d_M_init_153 : decode b_M_init 153 = .ok (.bipush 6, 2) := by decide +kernel
theorem d_M_init_155 : decode b_M_init 155 = .ok (.goto 4, 3) := by decide +kernel
theorem d_M_init_158 : decode b_M_init 158 = .ok (.iload_n 1, 1) := by decide +kernel
theorem d_M_init_159 : decode b_M_init 159 = .ok (.putfield 60, 3) := by decide +kernel
theorem d_M_init_162 : decode b_M_init 162 = .ok (.return_, 1) := by decide +kernel
set_option maxHeartbeats 4000000 in
set_option maxRecDepth 100000 in
theorem m_M_init {l : Launch} {D : va_G} {cA : Nat → ClassId} {n0 : Nat} {w : mw} {a : Nat} {x : Int32} (ha : w a = some (.inr (5, [.int 0, .null, .null, .null, .null, .null, .null, .int 0, .int 0, .int 0, .int 0, .null, .null, .null, .null, .null, .int 0, .null, .null, .null, .int 0, .int 0, .long 0]))) :
    Mc l D cA n0 y_M_init c_M_init 1 14 7280 [.ref a, .int x] w (fun w' => ∃ q, q 0 = a ∧ MX cA w' (fun _ => 7) q (Lc x) 0 0 0 0 0 0 0 NN (fun _ _ => 0) (fun _ => 0) ∧ FR w w' (fun y => ∃ i, i ∈ ixQ9 ∧ y = q i) ∧ ∀ y, (∃ i, i ∈ ixQ9 ∧ y = q i) → y = a ∨ w y = none) := by
  refine mw_met (cc := b_M_init) (maxL := 2) (ret := (none)) (by decide) rfl (Nat.le_of_ble_eq_true rfl) ?_
  intro p e s m below meth c ls G hrt hlocks hname h hl
  have G : mw_G p m c b_M_init 2 s _ (c_M_init :: TB) R_M D cl (tys cA) n0 := G
  have hx := G.1.1
  have hb := G.1.2.1
  have hl : lv_has ls 2 [(0, .ref a), (1, .int x)] := hl
  refine lv_aload_n hx hb d_M_init_0 rfl (lv_at hl 0 rfl) ?_
  refine W.objInit hx hb G.1.2.2.2.1 (G.1.2.2.2.2 _ (tb_c k_310)) (G.1.2.2.2.2 _ (tb_c k_14)) (G.1.2.2.2.2 _ (tb_c k_15)) rfl (by rw [G.1.2.2.1]; exact hl.1) rfl d_M_init_1 (Nat.le_of_ble_eq_true rfl) (Nat.le_of_ble_eq_true rfl) ?_
  refine W.eq (g2 := F0 m 4 ls []) rfl ?_
  have B0 : ∀ y, y ≠ a → w y = w y := fun _ _ => rfl
  refine lv_aload_n hx hb d_M_init_4 rfl (lv_at hl 0 rfl) ?_
  refine lv_sipush (v := 520) hx hb d_M_init_5 (by decide) ?_
  refine mx_newa (atype := .int) (ty := .int) (a0 := (520, .inl (fun _ => 0))) G h (tb_c k_116) rfl 0 rfl (fun _ => rfl) (by decide) (N' := 520) (by decide) (by decide) (by show _ ≤ 14; omega) (by show _ ≤ 7280; omega) d_M_init_8 (fun r1 H hf1 h => ?_)
  have na1 : a ≠ r1 := mw_fresh ha hf1
  have g1 : w r1 = none := by rw [← B0 r1 (Ne.symm na1)]; exact hf1
  have h : mw_H n0 D cl s (mw_up w r1 (.inl (cA 0, 520, .inl (fun _ => 0)))) H _ := h
  obtain ⟨w_1, ew_1⟩ : ∃ xx : mw, mw_up w r1 (.inl (cA 0, 520, .inl (fun _ => 0))) = xx := ⟨_, rfl⟩
  rw [ew_1] at h
  have f_2 : w_1 a = some (.inr (5, [.int 0, .null, .null, .null, .null, .null, .null, .int 0, .int 0, .int 0, .int 0, .null, .null, .null, .null, .null, .int 0, .null, .null, .null, .int 0, .int 0, .long 0])) := by rw [← ew_1, mw_ne (mw_fresh ha hf1)]; exact ha
  have f_3 : w_1 r1 = some (.inl (cA 0, 520, .inl (fun _ => 0))) := by rw [← ew_1]; exact mw_self
  refine mx_putF G h hname f_2 rfl 1 (by decide) (tb_in in_M) t_M t_M_ok n_M (tb_c k_313) rfl rfl rfl rfl rfl rfl (Nat.le_of_ble_eq_true rfl) d_M_init_10 (fun H locs h => ?_)
  have h : mw_H n0 D cl s (mw_up w_1 a (.inr (5, [.int 0, .ref r1, .null, .null, .null, .null, .null, .int 0, .int 0, .int 0, .int 0, .null, .null, .null, .null, .null, .int 0, .null, .null, .null, .int 0, .int 0, .long 0]))) H _ := h
  obtain ⟨w_4, ew_4⟩ : ∃ xx : mw, mw_up w_1 a (.inr (5, [.int 0, .ref r1, .null, .null, .null, .null, .null, .int 0, .int 0, .int 0, .int 0, .null, .null, .null, .null, .null, .int 0, .null, .null, .null, .int 0, .int 0, .long 0])) = xx := ⟨_, rfl⟩
  rw [ew_4] at h
  have f_5 : w_4 r1 = some (.inl (cA 0, 520, .inl (fun _ => 0))) := by rw [← ew_4, mw_ne (mw_apart f_3 f_2 (by simp))]; exact f_3
  have f_6 : w_4 a = some (.inr (5, [.int 0, .ref r1, .null, .null, .null, .null, .null, .int 0, .int 0, .int 0, .int 0, .null, .null, .null, .null, .null, .int 0, .null, .null, .null, .int 0, .int 0, .long 0])) := by rw [← ew_4]; exact mw_self
  have B1 : ∀ y, y ≠ a → y ≠ r1 → w_4 y = w y := fun y h0 h1 => by rw [← ew_4, mw_ne h0, ← ew_1, mw_ne h1]; 
  refine lv_aload_n hx hb d_M_init_13 rfl (lv_at hl 0 rfl) ?_
  refine lv_sipush (v := 520) hx hb d_M_init_14 (by decide) ?_
  refine mx_newa (atype := .int) (ty := .int) (a0 := (520, .inl (fun _ => 0))) G h (tb_c k_116) rfl 0 rfl (fun _ => rfl) (by decide) (N' := 520) (by decide) (by decide) (by show _ ≤ 14; omega) (by show _ ≤ 7280; omega) d_M_init_17 (fun r2 H hf2 h => ?_)
  have n1_2 : r1 ≠ r2 := mw_fresh f_5 hf2
  have na2 : a ≠ r2 := mw_fresh f_6 hf2
  have g2 : w r2 = none := by rw [← B1 r2 (Ne.symm na2) (Ne.symm n1_2)]; exact hf2
  have h : mw_H n0 D cl s (mw_up w_4 r2 (.inl (cA 0, 520, .inl (fun _ => 0)))) H _ := h
  obtain ⟨w_7, ew_7⟩ : ∃ xx : mw, mw_up w_4 r2 (.inl (cA 0, 520, .inl (fun _ => 0))) = xx := ⟨_, rfl⟩
  rw [ew_7] at h
  have f_8 : w_7 r1 = some (.inl (cA 0, 520, .inl (fun _ => 0))) := by rw [← ew_7, mw_ne (mw_fresh f_5 hf2)]; exact f_5
  have f_9 : w_7 a = some (.inr (5, [.int 0, .ref r1, .null, .null, .null, .null, .null, .int 0, .int 0, .int 0, .int 0, .null, .null, .null, .null, .null, .int 0, .null, .null, .null, .int 0, .int 0, .long 0])) := by rw [← ew_7, mw_ne (mw_fresh f_6 hf2)]; exact f_6
  have f_10 : w_7 r2 = some (.inl (cA 0, 520, .inl (fun _ => 0))) := by rw [← ew_7]; exact mw_self
  refine mx_putF G h hname f_9 rfl 2 (by decide) (tb_in in_M) t_M t_M_ok n_M (tb_c k_314) rfl rfl rfl rfl rfl rfl (Nat.le_of_ble_eq_true rfl) d_M_init_19 (fun H locs h => ?_)
  have h : mw_H n0 D cl s (mw_up w_7 a (.inr (5, [.int 0, .ref r1, .ref r2, .null, .null, .null, .null, .int 0, .int 0, .int 0, .int 0, .null, .null, .null, .null, .null, .int 0, .null, .null, .null, .int 0, .int 0, .long 0]))) H _ := h
  obtain ⟨w_11, ew_11⟩ : ∃ xx : mw, mw_up w_7 a (.inr (5, [.int 0, .ref r1, .ref r2, .null, .null, .null, .null, .int 0, .int 0, .int 0, .int 0, .null, .null, .null, .null, .null, .int 0, .null, .null, .null, .int 0, .int 0, .long 0])) = xx := ⟨_, rfl⟩
  rw [ew_11] at h
  have f_12 : w_11 r1 = some (.inl (cA 0, 520, .inl (fun _ => 0))) := by rw [← ew_11, mw_ne (mw_apart f_8 f_9 (by simp))]; exact f_8
  have f_13 : w_11 r2 = some (.inl (cA 0, 520, .inl (fun _ => 0))) := by rw [← ew_11, mw_ne (mw_apart f_10 f_9 (by simp))]; exact f_10
  have f_14 : w_11 a = some (.inr (5, [.int 0, .ref r1, .ref r2, .null, .null, .null, .null, .int 0, .int 0, .int 0, .int 0, .null, .null, .null, .null, .null, .int 0, .null, .null, .null, .int 0, .int 0, .long 0])) := by rw [← ew_11]; exact mw_self
  have B2 : ∀ y, y ≠ a → y ≠ r1 → y ≠ r2 → w_11 y = w y := fun y h0 h1 h2 => by rw [← ew_11, mw_ne h0, ← ew_7, mw_ne h2]; exact B1 y h0 h1
  refine lv_aload_n hx hb d_M_init_22 rfl (lv_at hl 0 rfl) ?_
  refine lv_sipush (v := 520) hx hb d_M_init_23 (by decide) ?_
  refine mx_newa (atype := .int) (ty := .int) (a0 := (520, .inl (fun _ => 0))) G h (tb_c k_116) rfl 0 rfl (fun _ => rfl) (by decide) (N' := 520) (by decide) (by decide) (by show _ ≤ 14; omega) (by show _ ≤ 7280; omega) d_M_init_26 (fun r3 H hf3 h => ?_)
  have n1_3 : r1 ≠ r3 := mw_fresh f_12 hf3
  have n2_3 : r2 ≠ r3 := mw_fresh f_13 hf3
  have na3 : a ≠ r3 := mw_fresh f_14 hf3
  have g3 : w r3 = none := by rw [← B2 r3 (Ne.symm na3) (Ne.symm n1_3) (Ne.symm n2_3)]; exact hf3
  have h : mw_H n0 D cl s (mw_up w_11 r3 (.inl (cA 0, 520, .inl (fun _ => 0)))) H _ := h
  obtain ⟨w_15, ew_15⟩ : ∃ xx : mw, mw_up w_11 r3 (.inl (cA 0, 520, .inl (fun _ => 0))) = xx := ⟨_, rfl⟩
  rw [ew_15] at h
  have f_16 : w_15 r1 = some (.inl (cA 0, 520, .inl (fun _ => 0))) := by rw [← ew_15, mw_ne (mw_fresh f_12 hf3)]; exact f_12
  have f_17 : w_15 r2 = some (.inl (cA 0, 520, .inl (fun _ => 0))) := by rw [← ew_15, mw_ne (mw_fresh f_13 hf3)]; exact f_13
  have f_18 : w_15 a = some (.inr (5, [.int 0, .ref r1, .ref r2, .null, .null, .null, .null, .int 0, .int 0, .int 0, .int 0, .null, .null, .null, .null, .null, .int 0, .null, .null, .null, .int 0, .int 0, .long 0])) := by rw [← ew_15, mw_ne (mw_fresh f_14 hf3)]; exact f_14
  have f_19 : w_15 r3 = some (.inl (cA 0, 520, .inl (fun _ => 0))) := by rw [← ew_15]; exact mw_self
  refine mx_putF G h hname f_18 rfl 3 (by decide) (tb_in in_M) t_M t_M_ok n_M (tb_c k_315) rfl rfl rfl rfl rfl rfl (Nat.le_of_ble_eq_true rfl) d_M_init_28 (fun H locs h => ?_)
  have h : mw_H n0 D cl s (mw_up w_15 a (.inr (5, [.int 0, .ref r1, .ref r2, .ref r3, .null, .null, .null, .int 0, .int 0, .int 0, .int 0, .null, .null, .null, .null, .null, .int 0, .null, .null, .null, .int 0, .int 0, .long 0]))) H _ := h
  obtain ⟨w_20, ew_20⟩ : ∃ xx : mw, mw_up w_15 a (.inr (5, [.int 0, .ref r1, .ref r2, .ref r3, .null, .null, .null, .int 0, .int 0, .int 0, .int 0, .null, .null, .null, .null, .null, .int 0, .null, .null, .null, .int 0, .int 0, .long 0])) = xx := ⟨_, rfl⟩
  rw [ew_20] at h
  have f_21 : w_20 r1 = some (.inl (cA 0, 520, .inl (fun _ => 0))) := by rw [← ew_20, mw_ne (mw_apart f_16 f_18 (by simp))]; exact f_16
  have f_22 : w_20 r2 = some (.inl (cA 0, 520, .inl (fun _ => 0))) := by rw [← ew_20, mw_ne (mw_apart f_17 f_18 (by simp))]; exact f_17
  have f_23 : w_20 r3 = some (.inl (cA 0, 520, .inl (fun _ => 0))) := by rw [← ew_20, mw_ne (mw_apart f_19 f_18 (by simp))]; exact f_19
  have f_24 : w_20 a = some (.inr (5, [.int 0, .ref r1, .ref r2, .ref r3, .null, .null, .null, .int 0, .int 0, .int 0, .int 0, .null, .null, .null, .null, .null, .int 0, .null, .null, .null, .int 0, .int 0, .long 0])) := by rw [← ew_20]; exact mw_self
  have B3 : ∀ y, y ≠ a → y ≠ r1 → y ≠ r2 → y ≠ r3 → w_20 y = w y := fun y h0 h1 h2 h3 => by rw [← ew_20, mw_ne h0, ← ew_15, mw_ne h3]; exact B2 y h0 h1 h2
  refine lv_aload_n hx hb d_M_init_31 rfl (lv_at hl 0 rfl) ?_
  refine lv_sipush (v := 520) hx hb d_M_init_32 (by decide) ?_
  refine mx_newa (atype := .boolean) (ty := .boolean) (a0 := (520, .inl (fun _ => 0))) G h (tb_c k_382) rfl 2 rfl (fun _ => rfl) (by decide) (N' := 520) (by decide) (by decide) (by show _ ≤ 14; omega) (by show _ ≤ 7280; omega) d_M_init_35 (fun r4 H hf4 h => ?_)
  have n1_4 : r1 ≠ r4 := mw_fresh f_21 hf4
  have n2_4 : r2 ≠ r4 := mw_fresh f_22 hf4
  have n3_4 : r3 ≠ r4 := mw_fresh f_23 hf4
  have na4 : a ≠ r4 := mw_fresh f_24 hf4
  have g4 : w r4 = none := by rw [← B3 r4 (Ne.symm na4) (Ne.symm n1_4) (Ne.symm n2_4) (Ne.symm n3_4)]; exact hf4
  have h : mw_H n0 D cl s (mw_up w_20 r4 (.inl (cA 2, 520, .inl (fun _ => 0)))) H _ := h
  obtain ⟨w_25, ew_25⟩ : ∃ xx : mw, mw_up w_20 r4 (.inl (cA 2, 520, .inl (fun _ => 0))) = xx := ⟨_, rfl⟩
  rw [ew_25] at h
  have f_26 : w_25 r1 = some (.inl (cA 0, 520, .inl (fun _ => 0))) := by rw [← ew_25, mw_ne (mw_fresh f_21 hf4)]; exact f_21
  have f_27 : w_25 r2 = some (.inl (cA 0, 520, .inl (fun _ => 0))) := by rw [← ew_25, mw_ne (mw_fresh f_22 hf4)]; exact f_22
  have f_28 : w_25 r3 = some (.inl (cA 0, 520, .inl (fun _ => 0))) := by rw [← ew_25, mw_ne (mw_fresh f_23 hf4)]; exact f_23
  have f_29 : w_25 a = some (.inr (5, [.int 0, .ref r1, .ref r2, .ref r3, .null, .null, .null, .int 0, .int 0, .int 0, .int 0, .null, .null, .null, .null, .null, .int 0, .null, .null, .null, .int 0, .int 0, .long 0])) := by rw [← ew_25, mw_ne (mw_fresh f_24 hf4)]; exact f_24
  have f_30 : w_25 r4 = some (.inl (cA 2, 520, .inl (fun _ => 0))) := by rw [← ew_25]; exact mw_self
  refine mx_putF G h hname f_29 rfl 4 (by decide) (tb_in in_M) t_M t_M_ok n_M (tb_c k_316) rfl rfl rfl rfl rfl rfl (Nat.le_of_ble_eq_true rfl) d_M_init_37 (fun H locs h => ?_)
  have h : mw_H n0 D cl s (mw_up w_25 a (.inr (5, [.int 0, .ref r1, .ref r2, .ref r3, .ref r4, .null, .null, .int 0, .int 0, .int 0, .int 0, .null, .null, .null, .null, .null, .int 0, .null, .null, .null, .int 0, .int 0, .long 0]))) H _ := h
  obtain ⟨w_31, ew_31⟩ : ∃ xx : mw, mw_up w_25 a (.inr (5, [.int 0, .ref r1, .ref r2, .ref r3, .ref r4, .null, .null, .int 0, .int 0, .int 0, .int 0, .null, .null, .null, .null, .null, .int 0, .null, .null, .null, .int 0, .int 0, .long 0])) = xx := ⟨_, rfl⟩
  rw [ew_31] at h
  have f_32 : w_31 r1 = some (.inl (cA 0, 520, .inl (fun _ => 0))) := by rw [← ew_31, mw_ne (mw_apart f_26 f_29 (by simp))]; exact f_26
  have f_33 : w_31 r2 = some (.inl (cA 0, 520, .inl (fun _ => 0))) := by rw [← ew_31, mw_ne (mw_apart f_27 f_29 (by simp))]; exact f_27
  have f_34 : w_31 r3 = some (.inl (cA 0, 520, .inl (fun _ => 0))) := by rw [← ew_31, mw_ne (mw_apart f_28 f_29 (by simp))]; exact f_28
  have f_35 : w_31 r4 = some (.inl (cA 2, 520, .inl (fun _ => 0))) := by rw [← ew_31, mw_ne (mw_apart f_30 f_29 (by simp))]; exact f_30
  have f_36 : w_31 a = some (.inr (5, [.int 0, .ref r1, .ref r2, .ref r3, .ref r4, .null, .null, .int 0, .int 0, .int 0, .int 0, .null, .null, .null, .null, .null, .int 0, .null, .null, .null, .int 0, .int 0, .long 0])) := by rw [← ew_31]; exact mw_self
  have B4 : ∀ y, y ≠ a → y ≠ r1 → y ≠ r2 → y ≠ r3 → y ≠ r4 → w_31 y = w y := fun y h0 h1 h2 h3 h4 => by rw [← ew_31, mw_ne h0, ← ew_25, mw_ne h4]; exact B3 y h0 h1 h2 h3
  refine lv_aload_n hx hb d_M_init_40 rfl (lv_at hl 0 rfl) ?_
  refine lv_sipush (v := 520) hx hb d_M_init_41 (by decide) ?_
  refine mx_newa (atype := .int) (ty := .int) (a0 := (520, .inl (fun _ => 0))) G h (tb_c k_116) rfl 0 rfl (fun _ => rfl) (by decide) (N' := 520) (by decide) (by decide) (by show _ ≤ 14; omega) (by show _ ≤ 7280; omega) d_M_init_44 (fun r5 H hf5 h => ?_)
  have n1_5 : r1 ≠ r5 := mw_fresh f_32 hf5
  have n2_5 : r2 ≠ r5 := mw_fresh f_33 hf5
  have n3_5 : r3 ≠ r5 := mw_fresh f_34 hf5
  have n4_5 : r4 ≠ r5 := mw_fresh f_35 hf5
  have na5 : a ≠ r5 := mw_fresh f_36 hf5
  have g5 : w r5 = none := by rw [← B4 r5 (Ne.symm na5) (Ne.symm n1_5) (Ne.symm n2_5) (Ne.symm n3_5) (Ne.symm n4_5)]; exact hf5
  have h : mw_H n0 D cl s (mw_up w_31 r5 (.inl (cA 0, 520, .inl (fun _ => 0)))) H _ := h
  obtain ⟨w_37, ew_37⟩ : ∃ xx : mw, mw_up w_31 r5 (.inl (cA 0, 520, .inl (fun _ => 0))) = xx := ⟨_, rfl⟩
  rw [ew_37] at h
  have f_38 : w_37 r1 = some (.inl (cA 0, 520, .inl (fun _ => 0))) := by rw [← ew_37, mw_ne (mw_fresh f_32 hf5)]; exact f_32
  have f_39 : w_37 r2 = some (.inl (cA 0, 520, .inl (fun _ => 0))) := by rw [← ew_37, mw_ne (mw_fresh f_33 hf5)]; exact f_33
  have f_40 : w_37 r3 = some (.inl (cA 0, 520, .inl (fun _ => 0))) := by rw [← ew_37, mw_ne (mw_fresh f_34 hf5)]; exact f_34
  have f_41 : w_37 r4 = some (.inl (cA 2, 520, .inl (fun _ => 0))) := by rw [← ew_37, mw_ne (mw_fresh f_35 hf5)]; exact f_35
  have f_42 : w_37 a = some (.inr (5, [.int 0, .ref r1, .ref r2, .ref r3, .ref r4, .null, .null, .int 0, .int 0, .int 0, .int 0, .null, .null, .null, .null, .null, .int 0, .null, .null, .null, .int 0, .int 0, .long 0])) := by rw [← ew_37, mw_ne (mw_fresh f_36 hf5)]; exact f_36
  have f_43 : w_37 r5 = some (.inl (cA 0, 520, .inl (fun _ => 0))) := by rw [← ew_37]; exact mw_self
  refine mx_putF G h hname f_42 rfl 5 (by decide) (tb_in in_M) t_M t_M_ok n_M (tb_c k_317) rfl rfl rfl rfl rfl rfl (Nat.le_of_ble_eq_true rfl) d_M_init_46 (fun H locs h => ?_)
  have h : mw_H n0 D cl s (mw_up w_37 a (.inr (5, [.int 0, .ref r1, .ref r2, .ref r3, .ref r4, .ref r5, .null, .int 0, .int 0, .int 0, .int 0, .null, .null, .null, .null, .null, .int 0, .null, .null, .null, .int 0, .int 0, .long 0]))) H _ := h
  obtain ⟨w_44, ew_44⟩ : ∃ xx : mw, mw_up w_37 a (.inr (5, [.int 0, .ref r1, .ref r2, .ref r3, .ref r4, .ref r5, .null, .int 0, .int 0, .int 0, .int 0, .null, .null, .null, .null, .null, .int 0, .null, .null, .null, .int 0, .int 0, .long 0])) = xx := ⟨_, rfl⟩
  rw [ew_44] at h
  have f_45 : w_44 r1 = some (.inl (cA 0, 520, .inl (fun _ => 0))) := by rw [← ew_44, mw_ne (mw_apart f_38 f_42 (by simp))]; exact f_38
  have f_46 : w_44 r2 = some (.inl (cA 0, 520, .inl (fun _ => 0))) := by rw [← ew_44, mw_ne (mw_apart f_39 f_42 (by simp))]; exact f_39
  have f_47 : w_44 r3 = some (.inl (cA 0, 520, .inl (fun _ => 0))) := by rw [← ew_44, mw_ne (mw_apart f_40 f_42 (by simp))]; exact f_40
  have f_48 : w_44 r4 = some (.inl (cA 2, 520, .inl (fun _ => 0))) := by rw [← ew_44, mw_ne (mw_apart f_41 f_42 (by simp))]; exact f_41
  have f_49 : w_44 r5 = some (.inl (cA 0, 520, .inl (fun _ => 0))) := by rw [← ew_44, mw_ne (mw_apart f_43 f_42 (by simp))]; exact f_43
  have f_50 : w_44 a = some (.inr (5, [.int 0, .ref r1, .ref r2, .ref r3, .ref r4, .ref r5, .null, .int 0, .int 0, .int 0, .int 0, .null, .null, .null, .null, .null, .int 0, .null, .null, .null, .int 0, .int 0, .long 0])) := by rw [← ew_44]; exact mw_self
  have B5 : ∀ y, y ≠ a → y ≠ r1 → y ≠ r2 → y ≠ r3 → y ≠ r4 → y ≠ r5 → w_44 y = w y := fun y h0 h1 h2 h3 h4 h5 => by rw [← ew_44, mw_ne h0, ← ew_37, mw_ne h5]; exact B4 y h0 h1 h2 h3 h4
  refine lv_aload_n hx hb d_M_init_49 rfl (lv_at hl 0 rfl) ?_
  refine lv_sipush (v := 520) hx hb d_M_init_50 (by decide) ?_
  refine mx_newa (atype := .boolean) (ty := .boolean) (a0 := (520, .inl (fun _ => 0))) G h (tb_c k_382) rfl 2 rfl (fun _ => rfl) (by decide) (N' := 520) (by decide) (by decide) (by show _ ≤ 14; omega) (by show _ ≤ 7280; omega) d_M_init_53 (fun r6 H hf6 h => ?_)
  have n1_6 : r1 ≠ r6 := mw_fresh f_45 hf6
  have n2_6 : r2 ≠ r6 := mw_fresh f_46 hf6
  have n3_6 : r3 ≠ r6 := mw_fresh f_47 hf6
  have n4_6 : r4 ≠ r6 := mw_fresh f_48 hf6
  have n5_6 : r5 ≠ r6 := mw_fresh f_49 hf6
  have na6 : a ≠ r6 := mw_fresh f_50 hf6
  have g6 : w r6 = none := by rw [← B5 r6 (Ne.symm na6) (Ne.symm n1_6) (Ne.symm n2_6) (Ne.symm n3_6) (Ne.symm n4_6) (Ne.symm n5_6)]; exact hf6
  have h : mw_H n0 D cl s (mw_up w_44 r6 (.inl (cA 2, 520, .inl (fun _ => 0)))) H _ := h
  obtain ⟨w_51, ew_51⟩ : ∃ xx : mw, mw_up w_44 r6 (.inl (cA 2, 520, .inl (fun _ => 0))) = xx := ⟨_, rfl⟩
  rw [ew_51] at h
  have f_52 : w_51 r1 = some (.inl (cA 0, 520, .inl (fun _ => 0))) := by rw [← ew_51, mw_ne (mw_fresh f_45 hf6)]; exact f_45
  have f_53 : w_51 r2 = some (.inl (cA 0, 520, .inl (fun _ => 0))) := by rw [← ew_51, mw_ne (mw_fresh f_46 hf6)]; exact f_46
  have f_54 : w_51 r3 = some (.inl (cA 0, 520, .inl (fun _ => 0))) := by rw [← ew_51, mw_ne (mw_fresh f_47 hf6)]; exact f_47
  have f_55 : w_51 r4 = some (.inl (cA 2, 520, .inl (fun _ => 0))) := by rw [← ew_51, mw_ne (mw_fresh f_48 hf6)]; exact f_48
  have f_56 : w_51 r5 = some (.inl (cA 0, 520, .inl (fun _ => 0))) := by rw [← ew_51, mw_ne (mw_fresh f_49 hf6)]; exact f_49
  have f_57 : w_51 a = some (.inr (5, [.int 0, .ref r1, .ref r2, .ref r3, .ref r4, .ref r5, .null, .int 0, .int 0, .int 0, .int 0, .null, .null, .null, .null, .null, .int 0, .null, .null, .null, .int 0, .int 0, .long 0])) := by rw [← ew_51, mw_ne (mw_fresh f_50 hf6)]; exact f_50
  have f_58 : w_51 r6 = some (.inl (cA 2, 520, .inl (fun _ => 0))) := by rw [← ew_51]; exact mw_self
  refine mx_putF G h hname f_57 rfl 6 (by decide) (tb_in in_M) t_M t_M_ok n_M (tb_c k_318) rfl rfl rfl rfl rfl rfl (Nat.le_of_ble_eq_true rfl) d_M_init_55 (fun H locs h => ?_)
  have h : mw_H n0 D cl s (mw_up w_51 a (.inr (5, [.int 0, .ref r1, .ref r2, .ref r3, .ref r4, .ref r5, .ref r6, .int 0, .int 0, .int 0, .int 0, .null, .null, .null, .null, .null, .int 0, .null, .null, .null, .int 0, .int 0, .long 0]))) H _ := h
  obtain ⟨w_59, ew_59⟩ : ∃ xx : mw, mw_up w_51 a (.inr (5, [.int 0, .ref r1, .ref r2, .ref r3, .ref r4, .ref r5, .ref r6, .int 0, .int 0, .int 0, .int 0, .null, .null, .null, .null, .null, .int 0, .null, .null, .null, .int 0, .int 0, .long 0])) = xx := ⟨_, rfl⟩
  rw [ew_59] at h
  have f_60 : w_59 r1 = some (.inl (cA 0, 520, .inl (fun _ => 0))) := by rw [← ew_59, mw_ne (mw_apart f_52 f_57 (by simp))]; exact f_52
  have f_61 : w_59 r2 = some (.inl (cA 0, 520, .inl (fun _ => 0))) := by rw [← ew_59, mw_ne (mw_apart f_53 f_57 (by simp))]; exact f_53
  have f_62 : w_59 r3 = some (.inl (cA 0, 520, .inl (fun _ => 0))) := by rw [← ew_59, mw_ne (mw_apart f_54 f_57 (by simp))]; exact f_54
  have f_63 : w_59 r4 = some (.inl (cA 2, 520, .inl (fun _ => 0))) := by rw [← ew_59, mw_ne (mw_apart f_55 f_57 (by simp))]; exact f_55
  have f_64 : w_59 r5 = some (.inl (cA 0, 520, .inl (fun _ => 0))) := by rw [← ew_59, mw_ne (mw_apart f_56 f_57 (by simp))]; exact f_56
  have f_65 : w_59 r6 = some (.inl (cA 2, 520, .inl (fun _ => 0))) := by rw [← ew_59, mw_ne (mw_apart f_58 f_57 (by simp))]; exact f_58
  have f_66 : w_59 a = some (.inr (5, [.int 0, .ref r1, .ref r2, .ref r3, .ref r4, .ref r5, .ref r6, .int 0, .int 0, .int 0, .int 0, .null, .null, .null, .null, .null, .int 0, .null, .null, .null, .int 0, .int 0, .long 0])) := by rw [← ew_59]; exact mw_self
  have B6 : ∀ y, y ≠ a → y ≠ r1 → y ≠ r2 → y ≠ r3 → y ≠ r4 → y ≠ r5 → y ≠ r6 → w_59 y = w y := fun y h0 h1 h2 h3 h4 h5 h6 => by rw [← ew_59, mw_ne h0, ← ew_51, mw_ne h6]; exact B5 y h0 h1 h2 h3 h4 h5
  refine lv_aload_n hx hb d_M_init_58 rfl (lv_at hl 0 rfl) ?_
  refine lv_sipush (v := 520) hx hb d_M_init_59 (by decide) ?_
  refine mx_newa (atype := .int) (ty := .int) (a0 := (520, .inl (fun _ => 0))) G h (tb_c k_116) rfl 0 rfl (fun _ => rfl) (by decide) (N' := 520) (by decide) (by decide) (by show _ ≤ 14; omega) (by show _ ≤ 7280; omega) d_M_init_62 (fun r11 H hf11 h => ?_)
  have n1_11 : r1 ≠ r11 := mw_fresh f_60 hf11
  have n2_11 : r2 ≠ r11 := mw_fresh f_61 hf11
  have n3_11 : r3 ≠ r11 := mw_fresh f_62 hf11
  have n4_11 : r4 ≠ r11 := mw_fresh f_63 hf11
  have n5_11 : r5 ≠ r11 := mw_fresh f_64 hf11
  have n6_11 : r6 ≠ r11 := mw_fresh f_65 hf11
  have na11 : a ≠ r11 := mw_fresh f_66 hf11
  have g11 : w r11 = none := by rw [← B6 r11 (Ne.symm na11) (Ne.symm n1_11) (Ne.symm n2_11) (Ne.symm n3_11) (Ne.symm n4_11) (Ne.symm n5_11) (Ne.symm n6_11)]; exact hf11
  have h : mw_H n0 D cl s (mw_up w_59 r11 (.inl (cA 0, 520, .inl (fun _ => 0)))) H _ := h
  obtain ⟨w_67, ew_67⟩ : ∃ xx : mw, mw_up w_59 r11 (.inl (cA 0, 520, .inl (fun _ => 0))) = xx := ⟨_, rfl⟩
  rw [ew_67] at h
  have f_68 : w_67 r1 = some (.inl (cA 0, 520, .inl (fun _ => 0))) := by rw [← ew_67, mw_ne (mw_fresh f_60 hf11)]; exact f_60
  have f_69 : w_67 r2 = some (.inl (cA 0, 520, .inl (fun _ => 0))) := by rw [← ew_67, mw_ne (mw_fresh f_61 hf11)]; exact f_61
  have f_70 : w_67 r3 = some (.inl (cA 0, 520, .inl (fun _ => 0))) := by rw [← ew_67, mw_ne (mw_fresh f_62 hf11)]; exact f_62
  have f_71 : w_67 r4 = some (.inl (cA 2, 520, .inl (fun _ => 0))) := by rw [← ew_67, mw_ne (mw_fresh f_63 hf11)]; exact f_63
  have f_72 : w_67 r5 = some (.inl (cA 0, 520, .inl (fun _ => 0))) := by rw [← ew_67, mw_ne (mw_fresh f_64 hf11)]; exact f_64
  have f_73 : w_67 r6 = some (.inl (cA 2, 520, .inl (fun _ => 0))) := by rw [← ew_67, mw_ne (mw_fresh f_65 hf11)]; exact f_65
  have f_74 : w_67 a = some (.inr (5, [.int 0, .ref r1, .ref r2, .ref r3, .ref r4, .ref r5, .ref r6, .int 0, .int 0, .int 0, .int 0, .null, .null, .null, .null, .null, .int 0, .null, .null, .null, .int 0, .int 0, .long 0])) := by rw [← ew_67, mw_ne (mw_fresh f_66 hf11)]; exact f_66
  have f_75 : w_67 r11 = some (.inl (cA 0, 520, .inl (fun _ => 0))) := by rw [← ew_67]; exact mw_self
  refine mx_putF G h hname f_74 rfl 11 (by decide) (tb_in in_M) t_M t_M_ok n_M (tb_c k_323) rfl rfl rfl rfl rfl rfl (Nat.le_of_ble_eq_true rfl) d_M_init_64 (fun H locs h => ?_)
  have h : mw_H n0 D cl s (mw_up w_67 a (.inr (5, [.int 0, .ref r1, .ref r2, .ref r3, .ref r4, .ref r5, .ref r6, .int 0, .int 0, .int 0, .int 0, .ref r11, .null, .null, .null, .null, .int 0, .null, .null, .null, .int 0, .int 0, .long 0]))) H _ := h
  obtain ⟨w_76, ew_76⟩ : ∃ xx : mw, mw_up w_67 a (.inr (5, [.int 0, .ref r1, .ref r2, .ref r3, .ref r4, .ref r5, .ref r6, .int 0, .int 0, .int 0, .int 0, .ref r11, .null, .null, .null, .null, .int 0, .null, .null, .null, .int 0, .int 0, .long 0])) = xx := ⟨_, rfl⟩
  rw [ew_76] at h
  have f_77 : w_76 r1 = some (.inl (cA 0, 520, .inl (fun _ => 0))) := by rw [← ew_76, mw_ne (mw_apart f_68 f_74 (by simp))]; exact f_68
  have f_78 : w_76 r2 = some (.inl (cA 0, 520, .inl (fun _ => 0))) := by rw [← ew_76, mw_ne (mw_apart f_69 f_74 (by simp))]; exact f_69
  have f_79 : w_76 r3 = some (.inl (cA 0, 520, .inl (fun _ => 0))) := by rw [← ew_76, mw_ne (mw_apart f_70 f_74 (by simp))]; exact f_70
  have f_80 : w_76 r4 = some (.inl (cA 2, 520, .inl (fun _ => 0))) := by rw [← ew_76, mw_ne (mw_apart f_71 f_74 (by simp))]; exact f_71
  have f_81 : w_76 r5 = some (.inl (cA 0, 520, .inl (fun _ => 0))) := by rw [← ew_76, mw_ne (mw_apart f_72 f_74 (by simp))]; exact f_72
  have f_82 : w_76 r6 = some (.inl (cA 2, 520, .inl (fun _ => 0))) := by rw [← ew_76, mw_ne (mw_apart f_73 f_74 (by simp))]; exact f_73
  have f_83 : w_76 r11 = some (.inl (cA 0, 520, .inl (fun _ => 0))) := by rw [← ew_76, mw_ne (mw_apart f_75 f_74 (by simp))]; exact f_75
  have f_84 : w_76 a = some (.inr (5, [.int 0, .ref r1, .ref r2, .ref r3, .ref r4, .ref r5, .ref r6, .int 0, .int 0, .int 0, .int 0, .ref r11, .null, .null, .null, .null, .int 0, .null, .null, .null, .int 0, .int 0, .long 0])) := by rw [← ew_76]; exact mw_self
  have B7 : ∀ y, y ≠ a → y ≠ r1 → y ≠ r2 → y ≠ r3 → y ≠ r4 → y ≠ r5 → y ≠ r6 → y ≠ r11 → w_76 y = w y := fun y h0 h1 h2 h3 h4 h5 h6 h7 => by rw [← ew_76, mw_ne h0, ← ew_67, mw_ne h7]; exact B6 y h0 h1 h2 h3 h4 h5 h6
  refine lv_aload_n hx hb d_M_init_67 rfl (lv_at hl 0 rfl) ?_
  refine lv_sipush (v := 520) hx hb d_M_init_68 (by decide) ?_
  refine mx_newa (atype := .int) (ty := .int) (a0 := (520, .inl (fun _ => 0))) G h (tb_c k_116) rfl 0 rfl (fun _ => rfl) (by decide) (N' := 520) (by decide) (by decide) (by show _ ≤ 14; omega) (by show _ ≤ 7280; omega) d_M_init_71 (fun r12 H hf12 h => ?_)
  have n1_12 : r1 ≠ r12 := mw_fresh f_77 hf12
  have n2_12 : r2 ≠ r12 := mw_fresh f_78 hf12
  have n3_12 : r3 ≠ r12 := mw_fresh f_79 hf12
  have n4_12 : r4 ≠ r12 := mw_fresh f_80 hf12
  have n5_12 : r5 ≠ r12 := mw_fresh f_81 hf12
  have n6_12 : r6 ≠ r12 := mw_fresh f_82 hf12
  have n11_12 : r11 ≠ r12 := mw_fresh f_83 hf12
  have na12 : a ≠ r12 := mw_fresh f_84 hf12
  have g12 : w r12 = none := by rw [← B7 r12 (Ne.symm na12) (Ne.symm n1_12) (Ne.symm n2_12) (Ne.symm n3_12) (Ne.symm n4_12) (Ne.symm n5_12) (Ne.symm n6_12) (Ne.symm n11_12)]; exact hf12
  have h : mw_H n0 D cl s (mw_up w_76 r12 (.inl (cA 0, 520, .inl (fun _ => 0)))) H _ := h
  obtain ⟨w_85, ew_85⟩ : ∃ xx : mw, mw_up w_76 r12 (.inl (cA 0, 520, .inl (fun _ => 0))) = xx := ⟨_, rfl⟩
  rw [ew_85] at h
  have f_86 : w_85 r1 = some (.inl (cA 0, 520, .inl (fun _ => 0))) := by rw [← ew_85, mw_ne (mw_fresh f_77 hf12)]; exact f_77
  have f_87 : w_85 r2 = some (.inl (cA 0, 520, .inl (fun _ => 0))) := by rw [← ew_85, mw_ne (mw_fresh f_78 hf12)]; exact f_78
  have f_88 : w_85 r3 = some (.inl (cA 0, 520, .inl (fun _ => 0))) := by rw [← ew_85, mw_ne (mw_fresh f_79 hf12)]; exact f_79
  have f_89 : w_85 r4 = some (.inl (cA 2, 520, .inl (fun _ => 0))) := by rw [← ew_85, mw_ne (mw_fresh f_80 hf12)]; exact f_80
  have f_90 : w_85 r5 = some (.inl (cA 0, 520, .inl (fun _ => 0))) := by rw [← ew_85, mw_ne (mw_fresh f_81 hf12)]; exact f_81
  have f_91 : w_85 r6 = some (.inl (cA 2, 520, .inl (fun _ => 0))) := by rw [← ew_85, mw_ne (mw_fresh f_82 hf12)]; exact f_82
  have f_92 : w_85 r11 = some (.inl (cA 0, 520, .inl (fun _ => 0))) := by rw [← ew_85, mw_ne (mw_fresh f_83 hf12)]; exact f_83
  have f_93 : w_85 a = some (.inr (5, [.int 0, .ref r1, .ref r2, .ref r3, .ref r4, .ref r5, .ref r6, .int 0, .int 0, .int 0, .int 0, .ref r11, .null, .null, .null, .null, .int 0, .null, .null, .null, .int 0, .int 0, .long 0])) := by rw [← ew_85, mw_ne (mw_fresh f_84 hf12)]; exact f_84
  have f_94 : w_85 r12 = some (.inl (cA 0, 520, .inl (fun _ => 0))) := by rw [← ew_85]; exact mw_self
  refine mx_putF G h hname f_93 rfl 12 (by decide) (tb_in in_M) t_M t_M_ok n_M (tb_c k_324) rfl rfl rfl rfl rfl rfl (Nat.le_of_ble_eq_true rfl) d_M_init_73 (fun H locs h => ?_)
  have h : mw_H n0 D cl s (mw_up w_85 a (.inr (5, [.int 0, .ref r1, .ref r2, .ref r3, .ref r4, .ref r5, .ref r6, .int 0, .int 0, .int 0, .int 0, .ref r11, .ref r12, .null, .null, .null, .int 0, .null, .null, .null, .int 0, .int 0, .long 0]))) H _ := h
  obtain ⟨w_95, ew_95⟩ : ∃ xx : mw, mw_up w_85 a (.inr (5, [.int 0, .ref r1, .ref r2, .ref r3, .ref r4, .ref r5, .ref r6, .int 0, .int 0, .int 0, .int 0, .ref r11, .ref r12, .null, .null, .null, .int 0, .null, .null, .null, .int 0, .int 0, .long 0])) = xx := ⟨_, rfl⟩
  rw [ew_95] at h
  have f_96 : w_95 r1 = some (.inl (cA 0, 520, .inl (fun _ => 0))) := by rw [← ew_95, mw_ne (mw_apart f_86 f_93 (by simp))]; exact f_86
  have f_97 : w_95 r2 = some (.inl (cA 0, 520, .inl (fun _ => 0))) := by rw [← ew_95, mw_ne (mw_apart f_87 f_93 (by simp))]; exact f_87
  have f_98 : w_95 r3 = some (.inl (cA 0, 520, .inl (fun _ => 0))) := by rw [← ew_95, mw_ne (mw_apart f_88 f_93 (by simp))]; exact f_88
  have f_99 : w_95 r4 = some (.inl (cA 2, 520, .inl (fun _ => 0))) := by rw [← ew_95, mw_ne (mw_apart f_89 f_93 (by simp))]; exact f_89
  have f_100 : w_95 r5 = some (.inl (cA 0, 520, .inl (fun _ => 0))) := by rw [← ew_95, mw_ne (mw_apart f_90 f_93 (by simp))]; exact f_90
  have f_101 : w_95 r6 = some (.inl (cA 2, 520, .inl (fun _ => 0))) := by rw [← ew_95, mw_ne (mw_apart f_91 f_93 (by simp))]; exact f_91
  have f_102 : w_95 r11 = some (.inl (cA 0, 520, .inl (fun _ => 0))) := by rw [← ew_95, mw_ne (mw_apart f_92 f_93 (by simp))]; exact f_92
  have f_103 : w_95 r12 = some (.inl (cA 0, 520, .inl (fun _ => 0))) := by rw [← ew_95, mw_ne (mw_apart f_94 f_93 (by simp))]; exact f_94
  have f_104 : w_95 a = some (.inr (5, [.int 0, .ref r1, .ref r2, .ref r3, .ref r4, .ref r5, .ref r6, .int 0, .int 0, .int 0, .int 0, .ref r11, .ref r12, .null, .null, .null, .int 0, .null, .null, .null, .int 0, .int 0, .long 0])) := by rw [← ew_95]; exact mw_self
  have B8 : ∀ y, y ≠ a → y ≠ r1 → y ≠ r2 → y ≠ r3 → y ≠ r4 → y ≠ r5 → y ≠ r6 → y ≠ r11 → y ≠ r12 → w_95 y = w y := fun y h0 h1 h2 h3 h4 h5 h6 h7 h8 => by rw [← ew_95, mw_ne h0, ← ew_85, mw_ne h8]; exact B7 y h0 h1 h2 h3 h4 h5 h6 h7
  refine lv_aload_n hx hb d_M_init_76 rfl (lv_at hl 0 rfl) ?_
  refine lv_sipush (v := 520) hx hb d_M_init_77 (by decide) ?_
  refine mx_newa (atype := .int) (ty := .int) (a0 := (520, .inl (fun _ => 0))) G h (tb_c k_116) rfl 0 rfl (fun _ => rfl) (by decide) (N' := 520) (by decide) (by decide) (by show _ ≤ 14; omega) (by show _ ≤ 7280; omega) d_M_init_80 (fun r13 H hf13 h => ?_)
  have n1_13 : r1 ≠ r13 := mw_fresh f_96 hf13
  have n2_13 : r2 ≠ r13 := mw_fresh f_97 hf13
  have n3_13 : r3 ≠ r13 := mw_fresh f_98 hf13
  have n4_13 : r4 ≠ r13 := mw_fresh f_99 hf13
  have n5_13 : r5 ≠ r13 := mw_fresh f_100 hf13
  have n6_13 : r6 ≠ r13 := mw_fresh f_101 hf13
  have n11_13 : r11 ≠ r13 := mw_fresh f_102 hf13
  have n12_13 : r12 ≠ r13 := mw_fresh f_103 hf13
  have na13 : a ≠ r13 := mw_fresh f_104 hf13
  have g13 : w r13 = none := by rw [← B8 r13 (Ne.symm na13) (Ne.symm n1_13) (Ne.symm n2_13) (Ne.symm n3_13) (Ne.symm n4_13) (Ne.symm n5_13) (Ne.symm n6_13) (Ne.symm n11_13) (Ne.symm n12_13)]; exact hf13
  have h : mw_H n0 D cl s (mw_up w_95 r13 (.inl (cA 0, 520, .inl (fun _ => 0)))) H _ := h
  obtain ⟨w_105, ew_105⟩ : ∃ xx : mw, mw_up w_95 r13 (.inl (cA 0, 520, .inl (fun _ => 0))) = xx := ⟨_, rfl⟩
  rw [ew_105] at h
  have f_106 : w_105 r1 = some (.inl (cA 0, 520, .inl (fun _ => 0))) := by rw [← ew_105, mw_ne (mw_fresh f_96 hf13)]; exact f_96
  have f_107 : w_105 r2 = some (.inl (cA 0, 520, .inl (fun _ => 0))) := by rw [← ew_105, mw_ne (mw_fresh f_97 hf13)]; exact f_97
  have f_108 : w_105 r3 = some (.inl (cA 0, 520, .inl (fun _ => 0))) := by rw [← ew_105, mw_ne (mw_fresh f_98 hf13)]; exact f_98
  have f_109 : w_105 r4 = some (.inl (cA 2, 520, .inl (fun _ => 0))) := by rw [← ew_105, mw_ne (mw_fresh f_99 hf13)]; exact f_99
  have f_110 : w_105 r5 = some (.inl (cA 0, 520, .inl (fun _ => 0))) := by rw [← ew_105, mw_ne (mw_fresh f_100 hf13)]; exact f_100
  have f_111 : w_105 r6 = some (.inl (cA 2, 520, .inl (fun _ => 0))) := by rw [← ew_105, mw_ne (mw_fresh f_101 hf13)]; exact f_101
  have f_112 : w_105 r11 = some (.inl (cA 0, 520, .inl (fun _ => 0))) := by rw [← ew_105, mw_ne (mw_fresh f_102 hf13)]; exact f_102
  have f_113 : w_105 r12 = some (.inl (cA 0, 520, .inl (fun _ => 0))) := by rw [← ew_105, mw_ne (mw_fresh f_103 hf13)]; exact f_103
  have f_114 : w_105 a = some (.inr (5, [.int 0, .ref r1, .ref r2, .ref r3, .ref r4, .ref r5, .ref r6, .int 0, .int 0, .int 0, .int 0, .ref r11, .ref r12, .null, .null, .null, .int 0, .null, .null, .null, .int 0, .int 0, .long 0])) := by rw [← ew_105, mw_ne (mw_fresh f_104 hf13)]; exact f_104
  have f_115 : w_105 r13 = some (.inl (cA 0, 520, .inl (fun _ => 0))) := by rw [← ew_105]; exact mw_self
  refine mx_putF G h hname f_114 rfl 13 (by decide) (tb_in in_M) t_M t_M_ok n_M (tb_c k_325) rfl rfl rfl rfl rfl rfl (Nat.le_of_ble_eq_true rfl) d_M_init_82 (fun H locs h => ?_)
  have h : mw_H n0 D cl s (mw_up w_105 a (.inr (5, [.int 0, .ref r1, .ref r2, .ref r3, .ref r4, .ref r5, .ref r6, .int 0, .int 0, .int 0, .int 0, .ref r11, .ref r12, .ref r13, .null, .null, .int 0, .null, .null, .null, .int 0, .int 0, .long 0]))) H _ := h
  obtain ⟨w_116, ew_116⟩ : ∃ xx : mw, mw_up w_105 a (.inr (5, [.int 0, .ref r1, .ref r2, .ref r3, .ref r4, .ref r5, .ref r6, .int 0, .int 0, .int 0, .int 0, .ref r11, .ref r12, .ref r13, .null, .null, .int 0, .null, .null, .null, .int 0, .int 0, .long 0])) = xx := ⟨_, rfl⟩
  rw [ew_116] at h
  have f_117 : w_116 r1 = some (.inl (cA 0, 520, .inl (fun _ => 0))) := by rw [← ew_116, mw_ne (mw_apart f_106 f_114 (by simp))]; exact f_106
  have f_118 : w_116 r2 = some (.inl (cA 0, 520, .inl (fun _ => 0))) := by rw [← ew_116, mw_ne (mw_apart f_107 f_114 (by simp))]; exact f_107
  have f_119 : w_116 r3 = some (.inl (cA 0, 520, .inl (fun _ => 0))) := by rw [← ew_116, mw_ne (mw_apart f_108 f_114 (by simp))]; exact f_108
  have f_120 : w_116 r4 = some (.inl (cA 2, 520, .inl (fun _ => 0))) := by rw [← ew_116, mw_ne (mw_apart f_109 f_114 (by simp))]; exact f_109
  have f_121 : w_116 r5 = some (.inl (cA 0, 520, .inl (fun _ => 0))) := by rw [← ew_116, mw_ne (mw_apart f_110 f_114 (by simp))]; exact f_110
  have f_122 : w_116 r6 = some (.inl (cA 2, 520, .inl (fun _ => 0))) := by rw [← ew_116, mw_ne (mw_apart f_111 f_114 (by simp))]; exact f_111
  have f_123 : w_116 r11 = some (.inl (cA 0, 520, .inl (fun _ => 0))) := by rw [← ew_116, mw_ne (mw_apart f_112 f_114 (by simp))]; exact f_112
  have f_124 : w_116 r12 = some (.inl (cA 0, 520, .inl (fun _ => 0))) := by rw [← ew_116, mw_ne (mw_apart f_113 f_114 (by simp))]; exact f_113
  have f_125 : w_116 r13 = some (.inl (cA 0, 520, .inl (fun _ => 0))) := by rw [← ew_116, mw_ne (mw_apart f_115 f_114 (by simp))]; exact f_115
  have f_126 : w_116 a = some (.inr (5, [.int 0, .ref r1, .ref r2, .ref r3, .ref r4, .ref r5, .ref r6, .int 0, .int 0, .int 0, .int 0, .ref r11, .ref r12, .ref r13, .null, .null, .int 0, .null, .null, .null, .int 0, .int 0, .long 0])) := by rw [← ew_116]; exact mw_self
  have B9 : ∀ y, y ≠ a → y ≠ r1 → y ≠ r2 → y ≠ r3 → y ≠ r4 → y ≠ r5 → y ≠ r6 → y ≠ r11 → y ≠ r12 → y ≠ r13 → w_116 y = w y := fun y h0 h1 h2 h3 h4 h5 h6 h7 h8 h9 => by rw [← ew_116, mw_ne h0, ← ew_105, mw_ne h9]; exact B8 y h0 h1 h2 h3 h4 h5 h6 h7 h8
  refine lv_aload_n hx hb d_M_init_85 rfl (lv_at hl 0 rfl) ?_
  refine lv_sipush (v := 520) hx hb d_M_init_86 (by decide) ?_
  refine mx_newa (atype := .int) (ty := .int) (a0 := (520, .inl (fun _ => 0))) G h (tb_c k_116) rfl 0 rfl (fun _ => rfl) (by decide) (N' := 520) (by decide) (by decide) (by show _ ≤ 14; omega) (by show _ ≤ 7280; omega) d_M_init_89 (fun r14 H hf14 h => ?_)
  have n1_14 : r1 ≠ r14 := mw_fresh f_117 hf14
  have n2_14 : r2 ≠ r14 := mw_fresh f_118 hf14
  have n3_14 : r3 ≠ r14 := mw_fresh f_119 hf14
  have n4_14 : r4 ≠ r14 := mw_fresh f_120 hf14
  have n5_14 : r5 ≠ r14 := mw_fresh f_121 hf14
  have n6_14 : r6 ≠ r14 := mw_fresh f_122 hf14
  have n11_14 : r11 ≠ r14 := mw_fresh f_123 hf14
  have n12_14 : r12 ≠ r14 := mw_fresh f_124 hf14
  have n13_14 : r13 ≠ r14 := mw_fresh f_125 hf14
  have na14 : a ≠ r14 := mw_fresh f_126 hf14
  have g14 : w r14 = none := by rw [← B9 r14 (Ne.symm na14) (Ne.symm n1_14) (Ne.symm n2_14) (Ne.symm n3_14) (Ne.symm n4_14) (Ne.symm n5_14) (Ne.symm n6_14) (Ne.symm n11_14) (Ne.symm n12_14) (Ne.symm n13_14)]; exact hf14
  have h : mw_H n0 D cl s (mw_up w_116 r14 (.inl (cA 0, 520, .inl (fun _ => 0)))) H _ := h
  obtain ⟨w_127, ew_127⟩ : ∃ xx : mw, mw_up w_116 r14 (.inl (cA 0, 520, .inl (fun _ => 0))) = xx := ⟨_, rfl⟩
  rw [ew_127] at h
  have f_128 : w_127 r1 = some (.inl (cA 0, 520, .inl (fun _ => 0))) := by rw [← ew_127, mw_ne (mw_fresh f_117 hf14)]; exact f_117
  have f_129 : w_127 r2 = some (.inl (cA 0, 520, .inl (fun _ => 0))) := by rw [← ew_127, mw_ne (mw_fresh f_118 hf14)]; exact f_118
  have f_130 : w_127 r3 = some (.inl (cA 0, 520, .inl (fun _ => 0))) := by rw [← ew_127, mw_ne (mw_fresh f_119 hf14)]; exact f_119
  have f_131 : w_127 r4 = some (.inl (cA 2, 520, .inl (fun _ => 0))) := by rw [← ew_127, mw_ne (mw_fresh f_120 hf14)]; exact f_120
  have f_132 : w_127 r5 = some (.inl (cA 0, 520, .inl (fun _ => 0))) := by rw [← ew_127, mw_ne (mw_fresh f_121 hf14)]; exact f_121
  have f_133 : w_127 r6 = some (.inl (cA 2, 520, .inl (fun _ => 0))) := by rw [← ew_127, mw_ne (mw_fresh f_122 hf14)]; exact f_122
  have f_134 : w_127 r11 = some (.inl (cA 0, 520, .inl (fun _ => 0))) := by rw [← ew_127, mw_ne (mw_fresh f_123 hf14)]; exact f_123
  have f_135 : w_127 r12 = some (.inl (cA 0, 520, .inl (fun _ => 0))) := by rw [← ew_127, mw_ne (mw_fresh f_124 hf14)]; exact f_124
  have f_136 : w_127 r13 = some (.inl (cA 0, 520, .inl (fun _ => 0))) := by rw [← ew_127, mw_ne (mw_fresh f_125 hf14)]; exact f_125
  have f_137 : w_127 a = some (.inr (5, [.int 0, .ref r1, .ref r2, .ref r3, .ref r4, .ref r5, .ref r6, .int 0, .int 0, .int 0, .int 0, .ref r11, .ref r12, .ref r13, .null, .null, .int 0, .null, .null, .null, .int 0, .int 0, .long 0])) := by rw [← ew_127, mw_ne (mw_fresh f_126 hf14)]; exact f_126
  have f_138 : w_127 r14 = some (.inl (cA 0, 520, .inl (fun _ => 0))) := by rw [← ew_127]; exact mw_self
  refine mx_putF G h hname f_137 rfl 14 (by decide) (tb_in in_M) t_M t_M_ok n_M (tb_c k_326) rfl rfl rfl rfl rfl rfl (Nat.le_of_ble_eq_true rfl) d_M_init_91 (fun H locs h => ?_)
  have h : mw_H n0 D cl s (mw_up w_127 a (.inr (5, [.int 0, .ref r1, .ref r2, .ref r3, .ref r4, .ref r5, .ref r6, .int 0, .int 0, .int 0, .int 0, .ref r11, .ref r12, .ref r13, .ref r14, .null, .int 0, .null, .null, .null, .int 0, .int 0, .long 0]))) H _ := h
  obtain ⟨w_139, ew_139⟩ : ∃ xx : mw, mw_up w_127 a (.inr (5, [.int 0, .ref r1, .ref r2, .ref r3, .ref r4, .ref r5, .ref r6, .int 0, .int 0, .int 0, .int 0, .ref r11, .ref r12, .ref r13, .ref r14, .null, .int 0, .null, .null, .null, .int 0, .int 0, .long 0])) = xx := ⟨_, rfl⟩
  rw [ew_139] at h
  have f_140 : w_139 r1 = some (.inl (cA 0, 520, .inl (fun _ => 0))) := by rw [← ew_139, mw_ne (mw_apart f_128 f_137 (by simp))]; exact f_128
  have f_141 : w_139 r2 = some (.inl (cA 0, 520, .inl (fun _ => 0))) := by rw [← ew_139, mw_ne (mw_apart f_129 f_137 (by simp))]; exact f_129
  have f_142 : w_139 r3 = some (.inl (cA 0, 520, .inl (fun _ => 0))) := by rw [← ew_139, mw_ne (mw_apart f_130 f_137 (by simp))]; exact f_130
  have f_143 : w_139 r4 = some (.inl (cA 2, 520, .inl (fun _ => 0))) := by rw [← ew_139, mw_ne (mw_apart f_131 f_137 (by simp))]; exact f_131
  have f_144 : w_139 r5 = some (.inl (cA 0, 520, .inl (fun _ => 0))) := by rw [← ew_139, mw_ne (mw_apart f_132 f_137 (by simp))]; exact f_132
  have f_145 : w_139 r6 = some (.inl (cA 2, 520, .inl (fun _ => 0))) := by rw [← ew_139, mw_ne (mw_apart f_133 f_137 (by simp))]; exact f_133
  have f_146 : w_139 r11 = some (.inl (cA 0, 520, .inl (fun _ => 0))) := by rw [← ew_139, mw_ne (mw_apart f_134 f_137 (by simp))]; exact f_134
  have f_147 : w_139 r12 = some (.inl (cA 0, 520, .inl (fun _ => 0))) := by rw [← ew_139, mw_ne (mw_apart f_135 f_137 (by simp))]; exact f_135
  have f_148 : w_139 r13 = some (.inl (cA 0, 520, .inl (fun _ => 0))) := by rw [← ew_139, mw_ne (mw_apart f_136 f_137 (by simp))]; exact f_136
  have f_149 : w_139 r14 = some (.inl (cA 0, 520, .inl (fun _ => 0))) := by rw [← ew_139, mw_ne (mw_apart f_138 f_137 (by simp))]; exact f_138
  have f_150 : w_139 a = some (.inr (5, [.int 0, .ref r1, .ref r2, .ref r3, .ref r4, .ref r5, .ref r6, .int 0, .int 0, .int 0, .int 0, .ref r11, .ref r12, .ref r13, .ref r14, .null, .int 0, .null, .null, .null, .int 0, .int 0, .long 0])) := by rw [← ew_139]; exact mw_self
  have B10 : ∀ y, y ≠ a → y ≠ r1 → y ≠ r2 → y ≠ r3 → y ≠ r4 → y ≠ r5 → y ≠ r6 → y ≠ r11 → y ≠ r12 → y ≠ r13 → y ≠ r14 → w_139 y = w y := fun y h0 h1 h2 h3 h4 h5 h6 h7 h8 h9 h10 => by rw [← ew_139, mw_ne h0, ← ew_127, mw_ne h10]; exact B9 y h0 h1 h2 h3 h4 h5 h6 h7 h8 h9
  refine lv_aload_n hx hb d_M_init_94 rfl (lv_at hl 0 rfl) ?_
  refine lv_sipush (v := 520) hx hb d_M_init_95 (by decide) ?_
  refine mx_newa (atype := .int) (ty := .int) (a0 := (520, .inl (fun _ => 0))) G h (tb_c k_116) rfl 0 rfl (fun _ => rfl) (by decide) (N' := 520) (by decide) (by decide) (by show _ ≤ 14; omega) (by show _ ≤ 7280; omega) d_M_init_98 (fun r15 H hf15 h => ?_)
  have n1_15 : r1 ≠ r15 := mw_fresh f_140 hf15
  have n2_15 : r2 ≠ r15 := mw_fresh f_141 hf15
  have n3_15 : r3 ≠ r15 := mw_fresh f_142 hf15
  have n4_15 : r4 ≠ r15 := mw_fresh f_143 hf15
  have n5_15 : r5 ≠ r15 := mw_fresh f_144 hf15
  have n6_15 : r6 ≠ r15 := mw_fresh f_145 hf15
  have n11_15 : r11 ≠ r15 := mw_fresh f_146 hf15
  have n12_15 : r12 ≠ r15 := mw_fresh f_147 hf15
  have n13_15 : r13 ≠ r15 := mw_fresh f_148 hf15
  have n14_15 : r14 ≠ r15 := mw_fresh f_149 hf15
  have na15 : a ≠ r15 := mw_fresh f_150 hf15
  have g15 : w r15 = none := by rw [← B10 r15 (Ne.symm na15) (Ne.symm n1_15) (Ne.symm n2_15) (Ne.symm n3_15) (Ne.symm n4_15) (Ne.symm n5_15) (Ne.symm n6_15) (Ne.symm n11_15) (Ne.symm n12_15) (Ne.symm n13_15) (Ne.symm n14_15)]; exact hf15
  have h : mw_H n0 D cl s (mw_up w_139 r15 (.inl (cA 0, 520, .inl (fun _ => 0)))) H _ := h
  obtain ⟨w_151, ew_151⟩ : ∃ xx : mw, mw_up w_139 r15 (.inl (cA 0, 520, .inl (fun _ => 0))) = xx := ⟨_, rfl⟩
  rw [ew_151] at h
  have f_152 : w_151 r1 = some (.inl (cA 0, 520, .inl (fun _ => 0))) := by rw [← ew_151, mw_ne (mw_fresh f_140 hf15)]; exact f_140
  have f_153 : w_151 r2 = some (.inl (cA 0, 520, .inl (fun _ => 0))) := by rw [← ew_151, mw_ne (mw_fresh f_141 hf15)]; exact f_141
  have f_154 : w_151 r3 = some (.inl (cA 0, 520, .inl (fun _ => 0))) := by rw [← ew_151, mw_ne (mw_fresh f_142 hf15)]; exact f_142
  have f_155 : w_151 r4 = some (.inl (cA 2, 520, .inl (fun _ => 0))) := by rw [← ew_151, mw_ne (mw_fresh f_143 hf15)]; exact f_143
  have f_156 : w_151 r5 = some (.inl (cA 0, 520, .inl (fun _ => 0))) := by rw [← ew_151, mw_ne (mw_fresh f_144 hf15)]; exact f_144
  have f_157 : w_151 r6 = some (.inl (cA 2, 520, .inl (fun _ => 0))) := by rw [← ew_151, mw_ne (mw_fresh f_145 hf15)]; exact f_145
  have f_158 : w_151 r11 = some (.inl (cA 0, 520, .inl (fun _ => 0))) := by rw [← ew_151, mw_ne (mw_fresh f_146 hf15)]; exact f_146
  have f_159 : w_151 r12 = some (.inl (cA 0, 520, .inl (fun _ => 0))) := by rw [← ew_151, mw_ne (mw_fresh f_147 hf15)]; exact f_147
  have f_160 : w_151 r13 = some (.inl (cA 0, 520, .inl (fun _ => 0))) := by rw [← ew_151, mw_ne (mw_fresh f_148 hf15)]; exact f_148
  have f_161 : w_151 r14 = some (.inl (cA 0, 520, .inl (fun _ => 0))) := by rw [← ew_151, mw_ne (mw_fresh f_149 hf15)]; exact f_149
  have f_162 : w_151 a = some (.inr (5, [.int 0, .ref r1, .ref r2, .ref r3, .ref r4, .ref r5, .ref r6, .int 0, .int 0, .int 0, .int 0, .ref r11, .ref r12, .ref r13, .ref r14, .null, .int 0, .null, .null, .null, .int 0, .int 0, .long 0])) := by rw [← ew_151, mw_ne (mw_fresh f_150 hf15)]; exact f_150
  have f_163 : w_151 r15 = some (.inl (cA 0, 520, .inl (fun _ => 0))) := by rw [← ew_151]; exact mw_self
  refine mx_putF G h hname f_162 rfl 15 (by decide) (tb_in in_M) t_M t_M_ok n_M (tb_c k_327) rfl rfl rfl rfl rfl rfl (Nat.le_of_ble_eq_true rfl) d_M_init_100 (fun H locs h => ?_)
  have h : mw_H n0 D cl s (mw_up w_151 a (.inr (5, [.int 0, .ref r1, .ref r2, .ref r3, .ref r4, .ref r5, .ref r6, .int 0, .int 0, .int 0, .int 0, .ref r11, .ref r12, .ref r13, .ref r14, .ref r15, .int 0, .null, .null, .null, .int 0, .int 0, .long 0]))) H _ := h
  obtain ⟨w_164, ew_164⟩ : ∃ xx : mw, mw_up w_151 a (.inr (5, [.int 0, .ref r1, .ref r2, .ref r3, .ref r4, .ref r5, .ref r6, .int 0, .int 0, .int 0, .int 0, .ref r11, .ref r12, .ref r13, .ref r14, .ref r15, .int 0, .null, .null, .null, .int 0, .int 0, .long 0])) = xx := ⟨_, rfl⟩
  rw [ew_164] at h
  have f_165 : w_164 r1 = some (.inl (cA 0, 520, .inl (fun _ => 0))) := by rw [← ew_164, mw_ne (mw_apart f_152 f_162 (by simp))]; exact f_152
  have f_166 : w_164 r2 = some (.inl (cA 0, 520, .inl (fun _ => 0))) := by rw [← ew_164, mw_ne (mw_apart f_153 f_162 (by simp))]; exact f_153
  have f_167 : w_164 r3 = some (.inl (cA 0, 520, .inl (fun _ => 0))) := by rw [← ew_164, mw_ne (mw_apart f_154 f_162 (by simp))]; exact f_154
  have f_168 : w_164 r4 = some (.inl (cA 2, 520, .inl (fun _ => 0))) := by rw [← ew_164, mw_ne (mw_apart f_155 f_162 (by simp))]; exact f_155
  have f_169 : w_164 r5 = some (.inl (cA 0, 520, .inl (fun _ => 0))) := by rw [← ew_164, mw_ne (mw_apart f_156 f_162 (by simp))]; exact f_156
  have f_170 : w_164 r6 = some (.inl (cA 2, 520, .inl (fun _ => 0))) := by rw [← ew_164, mw_ne (mw_apart f_157 f_162 (by simp))]; exact f_157
  have f_171 : w_164 r11 = some (.inl (cA 0, 520, .inl (fun _ => 0))) := by rw [← ew_164, mw_ne (mw_apart f_158 f_162 (by simp))]; exact f_158
  have f_172 : w_164 r12 = some (.inl (cA 0, 520, .inl (fun _ => 0))) := by rw [← ew_164, mw_ne (mw_apart f_159 f_162 (by simp))]; exact f_159
  have f_173 : w_164 r13 = some (.inl (cA 0, 520, .inl (fun _ => 0))) := by rw [← ew_164, mw_ne (mw_apart f_160 f_162 (by simp))]; exact f_160
  have f_174 : w_164 r14 = some (.inl (cA 0, 520, .inl (fun _ => 0))) := by rw [← ew_164, mw_ne (mw_apart f_161 f_162 (by simp))]; exact f_161
  have f_175 : w_164 r15 = some (.inl (cA 0, 520, .inl (fun _ => 0))) := by rw [← ew_164, mw_ne (mw_apart f_163 f_162 (by simp))]; exact f_163
  have f_176 : w_164 a = some (.inr (5, [.int 0, .ref r1, .ref r2, .ref r3, .ref r4, .ref r5, .ref r6, .int 0, .int 0, .int 0, .int 0, .ref r11, .ref r12, .ref r13, .ref r14, .ref r15, .int 0, .null, .null, .null, .int 0, .int 0, .long 0])) := by rw [← ew_164]; exact mw_self
  have B11 : ∀ y, y ≠ a → y ≠ r1 → y ≠ r2 → y ≠ r3 → y ≠ r4 → y ≠ r5 → y ≠ r6 → y ≠ r11 → y ≠ r12 → y ≠ r13 → y ≠ r14 → y ≠ r15 → w_164 y = w y := fun y h0 h1 h2 h3 h4 h5 h6 h7 h8 h9 h10 h11 => by rw [← ew_164, mw_ne h0, ← ew_151, mw_ne h11]; exact B10 y h0 h1 h2 h3 h4 h5 h6 h7 h8 h9 h10
  refine lv_aload_n hx hb d_M_init_103 rfl (lv_at hl 0 rfl) ?_
  refine lv_sipush (v := 520) hx hb d_M_init_104 (by decide) ?_
  refine mx_newa (atype := .int) (ty := .int) (a0 := (520, .inl (fun _ => 0))) G h (tb_c k_116) rfl 0 rfl (fun _ => rfl) (by decide) (N' := 520) (by decide) (by decide) (by show _ ≤ 14; omega) (by show _ ≤ 7280; omega) d_M_init_107 (fun r17 H hf17 h => ?_)
  have n1_17 : r1 ≠ r17 := mw_fresh f_165 hf17
  have n2_17 : r2 ≠ r17 := mw_fresh f_166 hf17
  have n3_17 : r3 ≠ r17 := mw_fresh f_167 hf17
  have n4_17 : r4 ≠ r17 := mw_fresh f_168 hf17
  have n5_17 : r5 ≠ r17 := mw_fresh f_169 hf17
  have n6_17 : r6 ≠ r17 := mw_fresh f_170 hf17
  have n11_17 : r11 ≠ r17 := mw_fresh f_171 hf17
  have n12_17 : r12 ≠ r17 := mw_fresh f_172 hf17
  have n13_17 : r13 ≠ r17 := mw_fresh f_173 hf17
  have n14_17 : r14 ≠ r17 := mw_fresh f_174 hf17
  have n15_17 : r15 ≠ r17 := mw_fresh f_175 hf17
  have na17 : a ≠ r17 := mw_fresh f_176 hf17
  have g17 : w r17 = none := by rw [← B11 r17 (Ne.symm na17) (Ne.symm n1_17) (Ne.symm n2_17) (Ne.symm n3_17) (Ne.symm n4_17) (Ne.symm n5_17) (Ne.symm n6_17) (Ne.symm n11_17) (Ne.symm n12_17) (Ne.symm n13_17) (Ne.symm n14_17) (Ne.symm n15_17)]; exact hf17
  have h : mw_H n0 D cl s (mw_up w_164 r17 (.inl (cA 0, 520, .inl (fun _ => 0)))) H _ := h
  obtain ⟨w_177, ew_177⟩ : ∃ xx : mw, mw_up w_164 r17 (.inl (cA 0, 520, .inl (fun _ => 0))) = xx := ⟨_, rfl⟩
  rw [ew_177] at h
  have f_178 : w_177 r1 = some (.inl (cA 0, 520, .inl (fun _ => 0))) := by rw [← ew_177, mw_ne (mw_fresh f_165 hf17)]; exact f_165
  have f_179 : w_177 r2 = some (.inl (cA 0, 520, .inl (fun _ => 0))) := by rw [← ew_177, mw_ne (mw_fresh f_166 hf17)]; exact f_166
  have f_180 : w_177 r3 = some (.inl (cA 0, 520, .inl (fun _ => 0))) := by rw [← ew_177, mw_ne (mw_fresh f_167 hf17)]; exact f_167
  have f_181 : w_177 r4 = some (.inl (cA 2, 520, .inl (fun _ => 0))) := by rw [← ew_177, mw_ne (mw_fresh f_168 hf17)]; exact f_168
  have f_182 : w_177 r5 = some (.inl (cA 0, 520, .inl (fun _ => 0))) := by rw [← ew_177, mw_ne (mw_fresh f_169 hf17)]; exact f_169
  have f_183 : w_177 r6 = some (.inl (cA 2, 520, .inl (fun _ => 0))) := by rw [← ew_177, mw_ne (mw_fresh f_170 hf17)]; exact f_170
  have f_184 : w_177 r11 = some (.inl (cA 0, 520, .inl (fun _ => 0))) := by rw [← ew_177, mw_ne (mw_fresh f_171 hf17)]; exact f_171
  have f_185 : w_177 r12 = some (.inl (cA 0, 520, .inl (fun _ => 0))) := by rw [← ew_177, mw_ne (mw_fresh f_172 hf17)]; exact f_172
  have f_186 : w_177 r13 = some (.inl (cA 0, 520, .inl (fun _ => 0))) := by rw [← ew_177, mw_ne (mw_fresh f_173 hf17)]; exact f_173
  have f_187 : w_177 r14 = some (.inl (cA 0, 520, .inl (fun _ => 0))) := by rw [← ew_177, mw_ne (mw_fresh f_174 hf17)]; exact f_174
  have f_188 : w_177 r15 = some (.inl (cA 0, 520, .inl (fun _ => 0))) := by rw [← ew_177, mw_ne (mw_fresh f_175 hf17)]; exact f_175
  have f_189 : w_177 a = some (.inr (5, [.int 0, .ref r1, .ref r2, .ref r3, .ref r4, .ref r5, .ref r6, .int 0, .int 0, .int 0, .int 0, .ref r11, .ref r12, .ref r13, .ref r14, .ref r15, .int 0, .null, .null, .null, .int 0, .int 0, .long 0])) := by rw [← ew_177, mw_ne (mw_fresh f_176 hf17)]; exact f_176
  have f_190 : w_177 r17 = some (.inl (cA 0, 520, .inl (fun _ => 0))) := by rw [← ew_177]; exact mw_self
  refine mx_putF G h hname f_189 rfl 17 (by decide) (tb_in in_M) t_M t_M_ok n_M (tb_c k_329) rfl rfl rfl rfl rfl rfl (Nat.le_of_ble_eq_true rfl) d_M_init_109 (fun H locs h => ?_)
  have h : mw_H n0 D cl s (mw_up w_177 a (.inr (5, [.int 0, .ref r1, .ref r2, .ref r3, .ref r4, .ref r5, .ref r6, .int 0, .int 0, .int 0, .int 0, .ref r11, .ref r12, .ref r13, .ref r14, .ref r15, .int 0, .ref r17, .null, .null, .int 0, .int 0, .long 0]))) H _ := h
  obtain ⟨w_191, ew_191⟩ : ∃ xx : mw, mw_up w_177 a (.inr (5, [.int 0, .ref r1, .ref r2, .ref r3, .ref r4, .ref r5, .ref r6, .int 0, .int 0, .int 0, .int 0, .ref r11, .ref r12, .ref r13, .ref r14, .ref r15, .int 0, .ref r17, .null, .null, .int 0, .int 0, .long 0])) = xx := ⟨_, rfl⟩
  rw [ew_191] at h
  have f_192 : w_191 r1 = some (.inl (cA 0, 520, .inl (fun _ => 0))) := by rw [← ew_191, mw_ne (mw_apart f_178 f_189 (by simp))]; exact f_178
  have f_193 : w_191 r2 = some (.inl (cA 0, 520, .inl (fun _ => 0))) := by rw [← ew_191, mw_ne (mw_apart f_179 f_189 (by simp))]; exact f_179
  have f_194 : w_191 r3 = some (.inl (cA 0, 520, .inl (fun _ => 0))) := by rw [← ew_191, mw_ne (mw_apart f_180 f_189 (by simp))]; exact f_180
  have f_195 : w_191 r4 = some (.inl (cA 2, 520, .inl (fun _ => 0))) := by rw [← ew_191, mw_ne (mw_apart f_181 f_189 (by simp))]; exact f_181
  have f_196 : w_191 r5 = some (.inl (cA 0, 520, .inl (fun _ => 0))) := by rw [← ew_191, mw_ne (mw_apart f_182 f_189 (by simp))]; exact f_182
  have f_197 : w_191 r6 = some (.inl (cA 2, 520, .inl (fun _ => 0))) := by rw [← ew_191, mw_ne (mw_apart f_183 f_189 (by simp))]; exact f_183
  have f_198 : w_191 r11 = some (.inl (cA 0, 520, .inl (fun _ => 0))) := by rw [← ew_191, mw_ne (mw_apart f_184 f_189 (by simp))]; exact f_184
  have f_199 : w_191 r12 = some (.inl (cA 0, 520, .inl (fun _ => 0))) := by rw [← ew_191, mw_ne (mw_apart f_185 f_189 (by simp))]; exact f_185
  have f_200 : w_191 r13 = some (.inl (cA 0, 520, .inl (fun _ => 0))) := by rw [← ew_191, mw_ne (mw_apart f_186 f_189 (by simp))]; exact f_186
  have f_201 : w_191 r14 = some (.inl (cA 0, 520, .inl (fun _ => 0))) := by rw [← ew_191, mw_ne (mw_apart f_187 f_189 (by simp))]; exact f_187
  have f_202 : w_191 r15 = some (.inl (cA 0, 520, .inl (fun _ => 0))) := by rw [← ew_191, mw_ne (mw_apart f_188 f_189 (by simp))]; exact f_188
  have f_203 : w_191 r17 = some (.inl (cA 0, 520, .inl (fun _ => 0))) := by rw [← ew_191, mw_ne (mw_apart f_190 f_189 (by simp))]; exact f_190
  have f_204 : w_191 a = some (.inr (5, [.int 0, .ref r1, .ref r2, .ref r3, .ref r4, .ref r5, .ref r6, .int 0, .int 0, .int 0, .int 0, .ref r11, .ref r12, .ref r13, .ref r14, .ref r15, .int 0, .ref r17, .null, .null, .int 0, .int 0, .long 0])) := by rw [← ew_191]; exact mw_self
  have B12 : ∀ y, y ≠ a → y ≠ r1 → y ≠ r2 → y ≠ r3 → y ≠ r4 → y ≠ r5 → y ≠ r6 → y ≠ r11 → y ≠ r12 → y ≠ r13 → y ≠ r14 → y ≠ r15 → y ≠ r17 → w_191 y = w y := fun y h0 h1 h2 h3 h4 h5 h6 h7 h8 h9 h10 h11 h12 => by rw [← ew_191, mw_ne h0, ← ew_177, mw_ne h12]; exact B11 y h0 h1 h2 h3 h4 h5 h6 h7 h8 h9 h10 h11
  refine lv_aload_n hx hb d_M_init_112 rfl (lv_at hl 0 rfl) ?_
  refine lv_sipush (v := 520) hx hb d_M_init_113 (by decide) ?_
  refine mx_newa (atype := .int) (ty := .int) (a0 := (520, .inl (fun _ => 0))) G h (tb_c k_116) rfl 0 rfl (fun _ => rfl) (by decide) (N' := 520) (by decide) (by decide) (by show _ ≤ 14; omega) (by show _ ≤ 7280; omega) d_M_init_116 (fun r18 H hf18 h => ?_)
  have n1_18 : r1 ≠ r18 := mw_fresh f_192 hf18
  have n2_18 : r2 ≠ r18 := mw_fresh f_193 hf18
  have n3_18 : r3 ≠ r18 := mw_fresh f_194 hf18
  have n4_18 : r4 ≠ r18 := mw_fresh f_195 hf18
  have n5_18 : r5 ≠ r18 := mw_fresh f_196 hf18
  have n6_18 : r6 ≠ r18 := mw_fresh f_197 hf18
  have n11_18 : r11 ≠ r18 := mw_fresh f_198 hf18
  have n12_18 : r12 ≠ r18 := mw_fresh f_199 hf18
  have n13_18 : r13 ≠ r18 := mw_fresh f_200 hf18
  have n14_18 : r14 ≠ r18 := mw_fresh f_201 hf18
  have n15_18 : r15 ≠ r18 := mw_fresh f_202 hf18
  have n17_18 : r17 ≠ r18 := mw_fresh f_203 hf18
  have na18 : a ≠ r18 := mw_fresh f_204 hf18
  have g18 : w r18 = none := by rw [← B12 r18 (Ne.symm na18) (Ne.symm n1_18) (Ne.symm n2_18) (Ne.symm n3_18) (Ne.symm n4_18) (Ne.symm n5_18) (Ne.symm n6_18) (Ne.symm n11_18) (Ne.symm n12_18) (Ne.symm n13_18) (Ne.symm n14_18) (Ne.symm n15_18) (Ne.symm n17_18)]; exact hf18
  have h : mw_H n0 D cl s (mw_up w_191 r18 (.inl (cA 0, 520, .inl (fun _ => 0)))) H _ := h
  obtain ⟨w_205, ew_205⟩ : ∃ xx : mw, mw_up w_191 r18 (.inl (cA 0, 520, .inl (fun _ => 0))) = xx := ⟨_, rfl⟩
  rw [ew_205] at h
  have f_206 : w_205 r1 = some (.inl (cA 0, 520, .inl (fun _ => 0))) := by rw [← ew_205, mw_ne (mw_fresh f_192 hf18)]; exact f_192
  have f_207 : w_205 r2 = some (.inl (cA 0, 520, .inl (fun _ => 0))) := by rw [← ew_205, mw_ne (mw_fresh f_193 hf18)]; exact f_193
  have f_208 : w_205 r3 = some (.inl (cA 0, 520, .inl (fun _ => 0))) := by rw [← ew_205, mw_ne (mw_fresh f_194 hf18)]; exact f_194
  have f_209 : w_205 r4 = some (.inl (cA 2, 520, .inl (fun _ => 0))) := by rw [← ew_205, mw_ne (mw_fresh f_195 hf18)]; exact f_195
  have f_210 : w_205 r5 = some (.inl (cA 0, 520, .inl (fun _ => 0))) := by rw [← ew_205, mw_ne (mw_fresh f_196 hf18)]; exact f_196
  have f_211 : w_205 r6 = some (.inl (cA 2, 520, .inl (fun _ => 0))) := by rw [← ew_205, mw_ne (mw_fresh f_197 hf18)]; exact f_197
  have f_212 : w_205 r11 = some (.inl (cA 0, 520, .inl (fun _ => 0))) := by rw [← ew_205, mw_ne (mw_fresh f_198 hf18)]; exact f_198
  have f_213 : w_205 r12 = some (.inl (cA 0, 520, .inl (fun _ => 0))) := by rw [← ew_205, mw_ne (mw_fresh f_199 hf18)]; exact f_199
  have f_214 : w_205 r13 = some (.inl (cA 0, 520, .inl (fun _ => 0))) := by rw [← ew_205, mw_ne (mw_fresh f_200 hf18)]; exact f_200
  have f_215 : w_205 r14 = some (.inl (cA 0, 520, .inl (fun _ => 0))) := by rw [← ew_205, mw_ne (mw_fresh f_201 hf18)]; exact f_201
  have f_216 : w_205 r15 = some (.inl (cA 0, 520, .inl (fun _ => 0))) := by rw [← ew_205, mw_ne (mw_fresh f_202 hf18)]; exact f_202
  have f_217 : w_205 r17 = some (.inl (cA 0, 520, .inl (fun _ => 0))) := by rw [← ew_205, mw_ne (mw_fresh f_203 hf18)]; exact f_203
  have f_218 : w_205 a = some (.inr (5, [.int 0, .ref r1, .ref r2, .ref r3, .ref r4, .ref r5, .ref r6, .int 0, .int 0, .int 0, .int 0, .ref r11, .ref r12, .ref r13, .ref r14, .ref r15, .int 0, .ref r17, .null, .null, .int 0, .int 0, .long 0])) := by rw [← ew_205, mw_ne (mw_fresh f_204 hf18)]; exact f_204
  have f_219 : w_205 r18 = some (.inl (cA 0, 520, .inl (fun _ => 0))) := by rw [← ew_205]; exact mw_self
  refine mx_putF G h hname f_218 rfl 18 (by decide) (tb_in in_M) t_M t_M_ok n_M (tb_c k_330) rfl rfl rfl rfl rfl rfl (Nat.le_of_ble_eq_true rfl) d_M_init_118 (fun H locs h => ?_)
  have h : mw_H n0 D cl s (mw_up w_205 a (.inr (5, [.int 0, .ref r1, .ref r2, .ref r3, .ref r4, .ref r5, .ref r6, .int 0, .int 0, .int 0, .int 0, .ref r11, .ref r12, .ref r13, .ref r14, .ref r15, .int 0, .ref r17, .ref r18, .null, .int 0, .int 0, .long 0]))) H _ := h
  obtain ⟨w_220, ew_220⟩ : ∃ xx : mw, mw_up w_205 a (.inr (5, [.int 0, .ref r1, .ref r2, .ref r3, .ref r4, .ref r5, .ref r6, .int 0, .int 0, .int 0, .int 0, .ref r11, .ref r12, .ref r13, .ref r14, .ref r15, .int 0, .ref r17, .ref r18, .null, .int 0, .int 0, .long 0])) = xx := ⟨_, rfl⟩
  rw [ew_220] at h
  have f_221 : w_220 r1 = some (.inl (cA 0, 520, .inl (fun _ => 0))) := by rw [← ew_220, mw_ne (mw_apart f_206 f_218 (by simp))]; exact f_206
  have f_222 : w_220 r2 = some (.inl (cA 0, 520, .inl (fun _ => 0))) := by rw [← ew_220, mw_ne (mw_apart f_207 f_218 (by simp))]; exact f_207
  have f_223 : w_220 r3 = some (.inl (cA 0, 520, .inl (fun _ => 0))) := by rw [← ew_220, mw_ne (mw_apart f_208 f_218 (by simp))]; exact f_208
  have f_224 : w_220 r4 = some (.inl (cA 2, 520, .inl (fun _ => 0))) := by rw [← ew_220, mw_ne (mw_apart f_209 f_218 (by simp))]; exact f_209
  have f_225 : w_220 r5 = some (.inl (cA 0, 520, .inl (fun _ => 0))) := by rw [← ew_220, mw_ne (mw_apart f_210 f_218 (by simp))]; exact f_210
  have f_226 : w_220 r6 = some (.inl (cA 2, 520, .inl (fun _ => 0))) := by rw [← ew_220, mw_ne (mw_apart f_211 f_218 (by simp))]; exact f_211
  have f_227 : w_220 r11 = some (.inl (cA 0, 520, .inl (fun _ => 0))) := by rw [← ew_220, mw_ne (mw_apart f_212 f_218 (by simp))]; exact f_212
  have f_228 : w_220 r12 = some (.inl (cA 0, 520, .inl (fun _ => 0))) := by rw [← ew_220, mw_ne (mw_apart f_213 f_218 (by simp))]; exact f_213
  have f_229 : w_220 r13 = some (.inl (cA 0, 520, .inl (fun _ => 0))) := by rw [← ew_220, mw_ne (mw_apart f_214 f_218 (by simp))]; exact f_214
  have f_230 : w_220 r14 = some (.inl (cA 0, 520, .inl (fun _ => 0))) := by rw [← ew_220, mw_ne (mw_apart f_215 f_218 (by simp))]; exact f_215
  have f_231 : w_220 r15 = some (.inl (cA 0, 520, .inl (fun _ => 0))) := by rw [← ew_220, mw_ne (mw_apart f_216 f_218 (by simp))]; exact f_216
  have f_232 : w_220 r17 = some (.inl (cA 0, 520, .inl (fun _ => 0))) := by rw [← ew_220, mw_ne (mw_apart f_217 f_218 (by simp))]; exact f_217
  have f_233 : w_220 r18 = some (.inl (cA 0, 520, .inl (fun _ => 0))) := by rw [← ew_220, mw_ne (mw_apart f_219 f_218 (by simp))]; exact f_219
  have f_234 : w_220 a = some (.inr (5, [.int 0, .ref r1, .ref r2, .ref r3, .ref r4, .ref r5, .ref r6, .int 0, .int 0, .int 0, .int 0, .ref r11, .ref r12, .ref r13, .ref r14, .ref r15, .int 0, .ref r17, .ref r18, .null, .int 0, .int 0, .long 0])) := by rw [← ew_220]; exact mw_self
  have B13 : ∀ y, y ≠ a → y ≠ r1 → y ≠ r2 → y ≠ r3 → y ≠ r4 → y ≠ r5 → y ≠ r6 → y ≠ r11 → y ≠ r12 → y ≠ r13 → y ≠ r14 → y ≠ r15 → y ≠ r17 → y ≠ r18 → w_220 y = w y := fun y h0 h1 h2 h3 h4 h5 h6 h7 h8 h9 h10 h11 h12 h13 => by rw [← ew_220, mw_ne h0, ← ew_205, mw_ne h13]; exact B12 y h0 h1 h2 h3 h4 h5 h6 h7 h8 h9 h10 h11 h12
  refine lv_aload_n hx hb d_M_init_121 rfl (lv_at hl 0 rfl) ?_
  refine lv_sipush (v := 520) hx hb d_M_init_122 (by decide) ?_
  refine mx_newa (atype := .long) (ty := .long) (a0 := (520, .inr (.inl (fun _ => 0)))) G h (tb_c k_56) rfl 1 rfl (fun _ => rfl) (by decide) (N' := 520) (by decide) (by decide) (by show _ ≤ 14; omega) (by show _ ≤ 7280; omega) d_M_init_125 (fun r19 H hf19 h => ?_)
  have n1_19 : r1 ≠ r19 := mw_fresh f_221 hf19
  have n2_19 : r2 ≠ r19 := mw_fresh f_222 hf19
  have n3_19 : r3 ≠ r19 := mw_fresh f_223 hf19
  have n4_19 : r4 ≠ r19 := mw_fresh f_224 hf19
  have n5_19 : r5 ≠ r19 := mw_fresh f_225 hf19
  have n6_19 : r6 ≠ r19 := mw_fresh f_226 hf19
  have n11_19 : r11 ≠ r19 := mw_fresh f_227 hf19
  have n12_19 : r12 ≠ r19 := mw_fresh f_228 hf19
  have n13_19 : r13 ≠ r19 := mw_fresh f_229 hf19
  have n14_19 : r14 ≠ r19 := mw_fresh f_230 hf19
  have n15_19 : r15 ≠ r19 := mw_fresh f_231 hf19
  have n17_19 : r17 ≠ r19 := mw_fresh f_232 hf19
  have n18_19 : r18 ≠ r19 := mw_fresh f_233 hf19
  have na19 : a ≠ r19 := mw_fresh f_234 hf19
  have g19 : w r19 = none := by rw [← B13 r19 (Ne.symm na19) (Ne.symm n1_19) (Ne.symm n2_19) (Ne.symm n3_19) (Ne.symm n4_19) (Ne.symm n5_19) (Ne.symm n6_19) (Ne.symm n11_19) (Ne.symm n12_19) (Ne.symm n13_19) (Ne.symm n14_19) (Ne.symm n15_19) (Ne.symm n17_19) (Ne.symm n18_19)]; exact hf19
  have h : mw_H n0 D cl s (mw_up w_220 r19 (.inl (cA 1, 520, .inr (.inl (fun _ => 0))))) H _ := h
  obtain ⟨w_235, ew_235⟩ : ∃ xx : mw, mw_up w_220 r19 (.inl (cA 1, 520, .inr (.inl (fun _ => 0)))) = xx := ⟨_, rfl⟩
  rw [ew_235] at h
  have f_236 : w_235 r1 = some (.inl (cA 0, 520, .inl (fun _ => 0))) := by rw [← ew_235, mw_ne (mw_fresh f_221 hf19)]; exact f_221
  have f_237 : w_235 r2 = some (.inl (cA 0, 520, .inl (fun _ => 0))) := by rw [← ew_235, mw_ne (mw_fresh f_222 hf19)]; exact f_222
  have f_238 : w_235 r3 = some (.inl (cA 0, 520, .inl (fun _ => 0))) := by rw [← ew_235, mw_ne (mw_fresh f_223 hf19)]; exact f_223
  have f_239 : w_235 r4 = some (.inl (cA 2, 520, .inl (fun _ => 0))) := by rw [← ew_235, mw_ne (mw_fresh f_224 hf19)]; exact f_224
  have f_240 : w_235 r5 = some (.inl (cA 0, 520, .inl (fun _ => 0))) := by rw [← ew_235, mw_ne (mw_fresh f_225 hf19)]; exact f_225
  have f_241 : w_235 r6 = some (.inl (cA 2, 520, .inl (fun _ => 0))) := by rw [← ew_235, mw_ne (mw_fresh f_226 hf19)]; exact f_226
  have f_242 : w_235 r11 = some (.inl (cA 0, 520, .inl (fun _ => 0))) := by rw [← ew_235, mw_ne (mw_fresh f_227 hf19)]; exact f_227
  have f_243 : w_235 r12 = some (.inl (cA 0, 520, .inl (fun _ => 0))) := by rw [← ew_235, mw_ne (mw_fresh f_228 hf19)]; exact f_228
  have f_244 : w_235 r13 = some (.inl (cA 0, 520, .inl (fun _ => 0))) := by rw [← ew_235, mw_ne (mw_fresh f_229 hf19)]; exact f_229
  have f_245 : w_235 r14 = some (.inl (cA 0, 520, .inl (fun _ => 0))) := by rw [← ew_235, mw_ne (mw_fresh f_230 hf19)]; exact f_230
  have f_246 : w_235 r15 = some (.inl (cA 0, 520, .inl (fun _ => 0))) := by rw [← ew_235, mw_ne (mw_fresh f_231 hf19)]; exact f_231
  have f_247 : w_235 r17 = some (.inl (cA 0, 520, .inl (fun _ => 0))) := by rw [← ew_235, mw_ne (mw_fresh f_232 hf19)]; exact f_232
  have f_248 : w_235 r18 = some (.inl (cA 0, 520, .inl (fun _ => 0))) := by rw [← ew_235, mw_ne (mw_fresh f_233 hf19)]; exact f_233
  have f_249 : w_235 a = some (.inr (5, [.int 0, .ref r1, .ref r2, .ref r3, .ref r4, .ref r5, .ref r6, .int 0, .int 0, .int 0, .int 0, .ref r11, .ref r12, .ref r13, .ref r14, .ref r15, .int 0, .ref r17, .ref r18, .null, .int 0, .int 0, .long 0])) := by rw [← ew_235, mw_ne (mw_fresh f_234 hf19)]; exact f_234
  have f_250 : w_235 r19 = some (.inl (cA 1, 520, .inr (.inl (fun _ => 0)))) := by rw [← ew_235]; exact mw_self
  refine mx_putF G h hname f_249 rfl 19 (by decide) (tb_in in_M) t_M t_M_ok n_M (tb_c k_331) rfl rfl rfl rfl rfl rfl (Nat.le_of_ble_eq_true rfl) d_M_init_127 (fun H locs h => ?_)
  have h : mw_H n0 D cl s (mw_up w_235 a (.inr (5, [.int 0, .ref r1, .ref r2, .ref r3, .ref r4, .ref r5, .ref r6, .int 0, .int 0, .int 0, .int 0, .ref r11, .ref r12, .ref r13, .ref r14, .ref r15, .int 0, .ref r17, .ref r18, .ref r19, .int 0, .int 0, .long 0]))) H _ := h
  obtain ⟨w_251, ew_251⟩ : ∃ xx : mw, mw_up w_235 a (.inr (5, [.int 0, .ref r1, .ref r2, .ref r3, .ref r4, .ref r5, .ref r6, .int 0, .int 0, .int 0, .int 0, .ref r11, .ref r12, .ref r13, .ref r14, .ref r15, .int 0, .ref r17, .ref r18, .ref r19, .int 0, .int 0, .long 0])) = xx := ⟨_, rfl⟩
  rw [ew_251] at h
  have f_252 : w_251 r1 = some (.inl (cA 0, 520, .inl (fun _ => 0))) := by rw [← ew_251, mw_ne (mw_apart f_236 f_249 (by simp))]; exact f_236
  have f_253 : w_251 r2 = some (.inl (cA 0, 520, .inl (fun _ => 0))) := by rw [← ew_251, mw_ne (mw_apart f_237 f_249 (by simp))]; exact f_237
  have f_254 : w_251 r3 = some (.inl (cA 0, 520, .inl (fun _ => 0))) := by rw [← ew_251, mw_ne (mw_apart f_238 f_249 (by simp))]; exact f_238
  have f_255 : w_251 r4 = some (.inl (cA 2, 520, .inl (fun _ => 0))) := by rw [← ew_251, mw_ne (mw_apart f_239 f_249 (by simp))]; exact f_239
  have f_256 : w_251 r5 = some (.inl (cA 0, 520, .inl (fun _ => 0))) := by rw [← ew_251, mw_ne (mw_apart f_240 f_249 (by simp))]; exact f_240
  have f_257 : w_251 r6 = some (.inl (cA 2, 520, .inl (fun _ => 0))) := by rw [← ew_251, mw_ne (mw_apart f_241 f_249 (by simp))]; exact f_241
  have f_258 : w_251 r11 = some (.inl (cA 0, 520, .inl (fun _ => 0))) := by rw [← ew_251, mw_ne (mw_apart f_242 f_249 (by simp))]; exact f_242
  have f_259 : w_251 r12 = some (.inl (cA 0, 520, .inl (fun _ => 0))) := by rw [← ew_251, mw_ne (mw_apart f_243 f_249 (by simp))]; exact f_243
  have f_260 : w_251 r13 = some (.inl (cA 0, 520, .inl (fun _ => 0))) := by rw [← ew_251, mw_ne (mw_apart f_244 f_249 (by simp))]; exact f_244
  have f_261 : w_251 r14 = some (.inl (cA 0, 520, .inl (fun _ => 0))) := by rw [← ew_251, mw_ne (mw_apart f_245 f_249 (by simp))]; exact f_245
  have f_262 : w_251 r15 = some (.inl (cA 0, 520, .inl (fun _ => 0))) := by rw [← ew_251, mw_ne (mw_apart f_246 f_249 (by simp))]; exact f_246
  have f_263 : w_251 r17 = some (.inl (cA 0, 520, .inl (fun _ => 0))) := by rw [← ew_251, mw_ne (mw_apart f_247 f_249 (by simp))]; exact f_247
  have f_264 : w_251 r18 = some (.inl (cA 0, 520, .inl (fun _ => 0))) := by rw [← ew_251, mw_ne (mw_apart f_248 f_249 (by simp))]; exact f_248
  have f_265 : w_251 r19 = some (.inl (cA 1, 520, .inr (.inl (fun _ => 0)))) := by rw [← ew_251, mw_ne (mw_apart f_250 f_249 (by simp))]; exact f_250
  have f_266 : w_251 a = some (.inr (5, [.int 0, .ref r1, .ref r2, .ref r3, .ref r4, .ref r5, .ref r6, .int 0, .int 0, .int 0, .int 0, .ref r11, .ref r12, .ref r13, .ref r14, .ref r15, .int 0, .ref r17, .ref r18, .ref r19, .int 0, .int 0, .long 0])) := by rw [← ew_251]; exact mw_self
  have B14 : ∀ y, y ≠ a → y ≠ r1 → y ≠ r2 → y ≠ r3 → y ≠ r4 → y ≠ r5 → y ≠ r6 → y ≠ r11 → y ≠ r12 → y ≠ r13 → y ≠ r14 → y ≠ r15 → y ≠ r17 → y ≠ r18 → y ≠ r19 → w_251 y = w y := fun y h0 h1 h2 h3 h4 h5 h6 h7 h8 h9 h10 h11 h12 h13 h14 => by rw [← ew_251, mw_ne h0, ← ew_235, mw_ne h14]; exact B13 y h0 h1 h2 h3 h4 h5 h6 h7 h8 h9 h10 h11 h12 h13
  refine lv_aload_n hx hb d_M_init_130 rfl (lv_at hl 0 rfl) ?_
  refine lv_ldc2 (v := NN) hx hb G.1.2.2.2.1 (G.1.2.2.2.2 _ (tb_c k_311)) d_M_init_131 ?_
  refine mx_put G h f_266 rfl 22 (by decide) (tb_in in_M) t_M t_M_ok n_M (tb_c k_334) rfl rfl rfl rfl rfl (Nat.le_of_ble_eq_true rfl) d_M_init_134 (fun H locs h => ?_)
  have h : mw_H n0 D cl s (mw_up w_251 a (.inr (5, [.int 0, .ref r1, .ref r2, .ref r3, .ref r4, .ref r5, .ref r6, .int 0, .int 0, .int 0, .int 0, .ref r11, .ref r12, .ref r13, .ref r14, .ref r15, .int 0, .ref r17, .ref r18, .ref r19, .int 0, .int 0, .long NN]))) H _ := h
  obtain ⟨w_267, ew_267⟩ : ∃ xx : mw, mw_up w_251 a (.inr (5, [.int 0, .ref r1, .ref r2, .ref r3, .ref r4, .ref r5, .ref r6, .int 0, .int 0, .int 0, .int 0, .ref r11, .ref r12, .ref r13, .ref r14, .ref r15, .int 0, .ref r17, .ref r18, .ref r19, .int 0, .int 0, .long NN])) = xx := ⟨_, rfl⟩
  rw [ew_267] at h
  have f_268 : w_267 r1 = some (.inl (cA 0, 520, .inl (fun _ => 0))) := by rw [← ew_267, mw_ne (mw_apart f_252 f_266 (by simp))]; exact f_252
  have f_269 : w_267 r2 = some (.inl (cA 0, 520, .inl (fun _ => 0))) := by rw [← ew_267, mw_ne (mw_apart f_253 f_266 (by simp))]; exact f_253
  have f_270 : w_267 r3 = some (.inl (cA 0, 520, .inl (fun _ => 0))) := by rw [← ew_267, mw_ne (mw_apart f_254 f_266 (by simp))]; exact f_254
  have f_271 : w_267 r4 = some (.inl (cA 2, 520, .inl (fun _ => 0))) := by rw [← ew_267, mw_ne (mw_apart f_255 f_266 (by simp))]; exact f_255
  have f_272 : w_267 r5 = some (.inl (cA 0, 520, .inl (fun _ => 0))) := by rw [← ew_267, mw_ne (mw_apart f_256 f_266 (by simp))]; exact f_256
  have f_273 : w_267 r6 = some (.inl (cA 2, 520, .inl (fun _ => 0))) := by rw [← ew_267, mw_ne (mw_apart f_257 f_266 (by simp))]; exact f_257
  have f_274 : w_267 r11 = some (.inl (cA 0, 520, .inl (fun _ => 0))) := by rw [← ew_267, mw_ne (mw_apart f_258 f_266 (by simp))]; exact f_258
  have f_275 : w_267 r12 = some (.inl (cA 0, 520, .inl (fun _ => 0))) := by rw [← ew_267, mw_ne (mw_apart f_259 f_266 (by simp))]; exact f_259
  have f_276 : w_267 r13 = some (.inl (cA 0, 520, .inl (fun _ => 0))) := by rw [← ew_267, mw_ne (mw_apart f_260 f_266 (by simp))]; exact f_260
  have f_277 : w_267 r14 = some (.inl (cA 0, 520, .inl (fun _ => 0))) := by rw [← ew_267, mw_ne (mw_apart f_261 f_266 (by simp))]; exact f_261
  have f_278 : w_267 r15 = some (.inl (cA 0, 520, .inl (fun _ => 0))) := by rw [← ew_267, mw_ne (mw_apart f_262 f_266 (by simp))]; exact f_262
  have f_279 : w_267 r17 = some (.inl (cA 0, 520, .inl (fun _ => 0))) := by rw [← ew_267, mw_ne (mw_apart f_263 f_266 (by simp))]; exact f_263
  have f_280 : w_267 r18 = some (.inl (cA 0, 520, .inl (fun _ => 0))) := by rw [← ew_267, mw_ne (mw_apart f_264 f_266 (by simp))]; exact f_264
  have f_281 : w_267 r19 = some (.inl (cA 1, 520, .inr (.inl (fun _ => 0)))) := by rw [← ew_267, mw_ne (mw_apart f_265 f_266 (by simp))]; exact f_265
  have f_282 : w_267 a = some (.inr (5, [.int 0, .ref r1, .ref r2, .ref r3, .ref r4, .ref r5, .ref r6, .int 0, .int 0, .int 0, .int 0, .ref r11, .ref r12, .ref r13, .ref r14, .ref r15, .int 0, .ref r17, .ref r18, .ref r19, .int 0, .int 0, .long NN])) := by rw [← ew_267]; exact mw_self
  refine lv_aload_n hx hb d_M_init_137 rfl (lv_at hl 0 rfl) ?_
  have B98 : ∀ y, y ≠ a → y ≠ r1 → y ≠ r2 → y ≠ r3 → y ≠ r4 → y ≠ r5 → y ≠ r6 → y ≠ r11 → y ≠ r12 → y ≠ r13 → y ≠ r14 → y ≠ r15 → y ≠ r17 → y ≠ r18 → y ≠ r19 → w_267 y = w y := fun y h0 h1 h2 h3 h4 h5 h6 h7 h8 h9 h10 h11 h12 h13 h14 => by rw [← ew_267, mw_ne h0]; exact B14 y h0 h1 h2 h3 h4 h5 h6 h7 h8 h9 h10 h11 h12 h13 h14
  refine lv_iload_n hx hb d_M_init_138 rfl (lv_at hl 1 rfl) ?_
  refine lv_iconst (v := 1) hx hb d_M_init_139 (by decide) ?_
  have hinj : ∀ i ∈ ixI ++ ixZ, ∀ j ∈ ixI ++ ixZ, (fun i => ([a, r1, r2, r3, r4, r5, r6, 0, 0, 0, 0, r11, r12, r13, r14, r15, 0, r17, r18, r19] : List Nat).getD i 0) i = (fun i => ([a, r1, r2, r3, r4, r5, r6, 0, 0, 0, 0, r11, r12, r13, r14, r15, 0, r17, r18, r19] : List Nat).getD i 0) j → i = j := by
    intro i hi j hj h9
    simp only [ixI, ixZ, List.mem_append, List.mem_cons, List.not_mem_nil, or_false] at hi hj
    rcases hi with (rfl | rfl | rfl | rfl | rfl | rfl | rfl | rfl | rfl | rfl | rfl) | (rfl | rfl) <;> rcases hj with (rfl | rfl | rfl | rfl | rfl | rfl | rfl | rfl | rfl | rfl | rfl) | (rfl | rfl) <;> first | rfl | (exact absurd h9 (by assumption)) | (exact absurd h9.symm (by assumption))
  have hfre : ∀ y, (∃ i, i ∈ ixQ9 ∧ y = (fun i => ([a, r1, r2, r3, r4, r5, r6, 0, 0, 0, 0, r11, r12, r13, r14, r15, 0, r17, r18, r19] : List Nat).getD i 0) i) → y = a ∨ w y = none := by
    rintro y ⟨i, hi, rfl⟩
    simp only [ixQ9, ixI, ixZ, List.mem_append, List.mem_cons, List.not_mem_nil, or_false] at hi
    rcases hi with rfl | rfl | (rfl | rfl | rfl | rfl | rfl | rfl | rfl | rfl | rfl | rfl | rfl) | (rfl | rfl)
    · exact Or.inl rfl
    · exact Or.inr g19
    · exact Or.inr g1
    · exact Or.inr g2
    · exact Or.inr g3
    · exact Or.inr g5
    · exact Or.inr g11
    · exact Or.inr g12
    · exact Or.inr g13
    · exact Or.inr g14
    · exact Or.inr g15
    · exact Or.inr g17
    · exact Or.inr g18
    · exact Or.inr g4
    · exact Or.inr g6
  have hLc := Lc_1 x
  refine lv_icmp_ge (tgt := 147) hx hb d_M_init_140 (by decide) (fun c_283 => ?_) (fun c_283 => ?_)
  · refine lv_iload_n hx hb d_M_init_147 rfl (lv_at hl 1 rfl) ?_
    refine lv_bipush (v := 6) hx hb d_M_init_148 (by decide) ?_
    refine lv_icmp_le (tgt := 158) hx hb d_M_init_150 (by decide) (fun c_284 => ?_) (fun c_284 => ?_)
    · refine lv_iload_n hx hb d_M_init_158 rfl (lv_at hl 1 rfl) ?_
      refine mx_putF G h hname f_282 rfl 0 (by decide) (tb_in in_M) t_M t_M_ok n_M (tb_c k_312) rfl rfl rfl rfl rfl rfl (Nat.le_of_ble_eq_true rfl) d_M_init_159 (fun H locs h => ?_)
      have h : mw_H n0 D cl s (mw_up w_267 a (.inr (5, [.int x, .ref r1, .ref r2, .ref r3, .ref r4, .ref r5, .ref r6, .int 0, .int 0, .int 0, .int 0, .ref r11, .ref r12, .ref r13, .ref r14, .ref r15, .int 0, .ref r17, .ref r18, .ref r19, .int 0, .int 0, .long NN]))) H _ := h
      obtain ⟨w_285, ew_285⟩ : ∃ xx : mw, mw_up w_267 a (.inr (5, [.int x, .ref r1, .ref r2, .ref r3, .ref r4, .ref r5, .ref r6, .int 0, .int 0, .int 0, .int 0, .ref r11, .ref r12, .ref r13, .ref r14, .ref r15, .int 0, .ref r17, .ref r18, .ref r19, .int 0, .int 0, .long NN])) = xx := ⟨_, rfl⟩
      rw [ew_285] at h
      have f_286 : w_285 r1 = some (.inl (cA 0, 520, .inl (fun _ => 0))) := by rw [← ew_285, mw_ne (mw_apart f_268 f_282 (by simp))]; exact f_268
      have f_287 : w_285 r2 = some (.inl (cA 0, 520, .inl (fun _ => 0))) := by rw [← ew_285, mw_ne (mw_apart f_269 f_282 (by simp))]; exact f_269
      have f_288 : w_285 r3 = some (.inl (cA 0, 520, .inl (fun _ => 0))) := by rw [← ew_285, mw_ne (mw_apart f_270 f_282 (by simp))]; exact f_270
      have f_289 : w_285 r4 = some (.inl (cA 2, 520, .inl (fun _ => 0))) := by rw [← ew_285, mw_ne (mw_apart f_271 f_282 (by simp))]; exact f_271
      have f_290 : w_285 r5 = some (.inl (cA 0, 520, .inl (fun _ => 0))) := by rw [← ew_285, mw_ne (mw_apart f_272 f_282 (by simp))]; exact f_272
      have f_291 : w_285 r6 = some (.inl (cA 2, 520, .inl (fun _ => 0))) := by rw [← ew_285, mw_ne (mw_apart f_273 f_282 (by simp))]; exact f_273
      have f_292 : w_285 r11 = some (.inl (cA 0, 520, .inl (fun _ => 0))) := by rw [← ew_285, mw_ne (mw_apart f_274 f_282 (by simp))]; exact f_274
      have f_293 : w_285 r12 = some (.inl (cA 0, 520, .inl (fun _ => 0))) := by rw [← ew_285, mw_ne (mw_apart f_275 f_282 (by simp))]; exact f_275
      have f_294 : w_285 r13 = some (.inl (cA 0, 520, .inl (fun _ => 0))) := by rw [← ew_285, mw_ne (mw_apart f_276 f_282 (by simp))]; exact f_276
      have f_295 : w_285 r14 = some (.inl (cA 0, 520, .inl (fun _ => 0))) := by rw [← ew_285, mw_ne (mw_apart f_277 f_282 (by simp))]; exact f_277
      have f_296 : w_285 r15 = some (.inl (cA 0, 520, .inl (fun _ => 0))) := by rw [← ew_285, mw_ne (mw_apart f_278 f_282 (by simp))]; exact f_278
      have f_297 : w_285 r17 = some (.inl (cA 0, 520, .inl (fun _ => 0))) := by rw [← ew_285, mw_ne (mw_apart f_279 f_282 (by simp))]; exact f_279
      have f_298 : w_285 r18 = some (.inl (cA 0, 520, .inl (fun _ => 0))) := by rw [← ew_285, mw_ne (mw_apart f_280 f_282 (by simp))]; exact f_280
      have f_299 : w_285 r19 = some (.inl (cA 1, 520, .inr (.inl (fun _ => 0)))) := by rw [← ew_285, mw_ne (mw_apart f_281 f_282 (by simp))]; exact f_281
      have f_300 : w_285 a = some (.inr (5, [.int x, .ref r1, .ref r2, .ref r3, .ref r4, .ref r5, .ref r6, .int 0, .int 0, .int 0, .int 0, .ref r11, .ref r12, .ref r13, .ref r14, .ref r15, .int 0, .ref r17, .ref r18, .ref r19, .int 0, .int 0, .long NN])) := by rw [← ew_285]; exact mw_self
      have hxl : x = nI (Lc x) := hLc.2.2 (fun z => absurd c_283 (Int32.not_le.mpr z)) (fun z => absurd c_284 (Int32.not_le.mpr z))
      have hcl := f_300
      rw [hxl] at hcl
      have hI : ∀ i ∈ ixI, w_285 ((fun i => ([a, r1, r2, r3, r4, r5, r6, 0, 0, 0, 0, r11, r12, r13, r14, r15, 0, r17, r18, r19] : List Nat).getD i 0) i) = some (ints cA 520 (fun _ => 0)) := by
        intro i hi
        simp only [ixI, List.mem_cons, List.not_mem_nil, or_false] at hi
        rcases hi with rfl | rfl | rfl | rfl | rfl | rfl | rfl | rfl | rfl | rfl | rfl
        · exact f_286
        · exact f_287
        · exact f_288
        · exact f_290
        · exact f_292
        · exact f_293
        · exact f_294
        · exact f_295
        · exact f_296
        · exact f_297
        · exact f_298
      have hZ : ∀ i ∈ ixZ, w_285 ((fun i => ([a, r1, r2, r3, r4, r5, r6, 0, 0, 0, 0, r11, r12, r13, r14, r15, 0, r17, r18, r19] : List Nat).getD i 0) i) = some (bools cA 520 (fun _ => 0)) := by
        intro i hi
        simp only [ixZ, List.mem_cons, List.not_mem_nil, or_false] at hi
        rcases hi with rfl | rfl
        · exact f_289
        · exact f_291
      have hX : MX cA w_285 (fun _ => 7) (fun i => ([a, r1, r2, r3, r4, r5, r6, 0, 0, 0, 0, r11, r12, r13, r14, r15, 0, r17, r18, r19] : List Nat).getD i 0) (Lc x) 0 0 0 0 0 0 0 NN (fun _ _ => 0) (fun _ => 0) := ⟨hcl, hI, hZ, f_299, hinj, rfl, fun _ _ => rfl, rfl⟩
      refine W.widen (k := 14) (n := 7280) (by omega) (by omega) ?_
      refine mx_retv G h hrt hlocks d_M_init_162 ⟨(fun i => ([a, r1, r2, r3, r4, r5, r6, 0, 0, 0, 0, r11, r12, r13, r14, r15, 0, r17, r18, r19] : List Nat).getD i 0), rfl, hX, fun y hy => ?_, hfre⟩
      have hya : y ≠ a := fun z => hy ⟨0, by decide, z⟩
      rw [← ew_285, mw_ne hya]
      exact B98 y hya (fun z => hy ⟨1, by decide, z⟩) (fun z => hy ⟨2, by decide, z⟩) (fun z => hy ⟨3, by decide, z⟩) (fun z => hy ⟨4, by decide, z⟩) (fun z => hy ⟨5, by decide, z⟩) (fun z => hy ⟨6, by decide, z⟩) (fun z => hy ⟨11, by decide, z⟩) (fun z => hy ⟨12, by decide, z⟩) (fun z => hy ⟨13, by decide, z⟩) (fun z => hy ⟨14, by decide, z⟩) (fun z => hy ⟨15, by decide, z⟩) (fun z => hy ⟨17, by decide, z⟩) (fun z => hy ⟨18, by decide, z⟩) (fun z => hy ⟨19, by decide, z⟩)
    · refine lv_bipush (v := 6) hx hb d_M_init_153 (by decide) ?_
      refine lv_goto (tgt := 159) hx hb d_M_init_155 (by decide) ?_
      have et_301 : 6 = nI (Lc x) := by rw [Lc, if_neg (fun z => absurd c_283 (Int32.not_le.mpr z)), if_pos (Int32.not_le.mp c_284)]; rfl
      rw [et_301]
      refine mx_putF G h hname f_282 rfl 0 (by decide) (tb_in in_M) t_M t_M_ok n_M (tb_c k_312) rfl rfl rfl rfl rfl rfl (Nat.le_of_ble_eq_true rfl) d_M_init_159 (fun H locs h => ?_)
      have h : mw_H n0 D cl s (mw_up w_267 a (.inr (5, [.int (nI (Lc x)), .ref r1, .ref r2, .ref r3, .ref r4, .ref r5, .ref r6, .int 0, .int 0, .int 0, .int 0, .ref r11, .ref r12, .ref r13, .ref r14, .ref r15, .int 0, .ref r17, .ref r18, .ref r19, .int 0, .int 0, .long NN]))) H _ := h
      obtain ⟨w_302, ew_302⟩ : ∃ xx : mw, mw_up w_267 a (.inr (5, [.int (nI (Lc x)), .ref r1, .ref r2, .ref r3, .ref r4, .ref r5, .ref r6, .int 0, .int 0, .int 0, .int 0, .ref r11, .ref r12, .ref r13, .ref r14, .ref r15, .int 0, .ref r17, .ref r18, .ref r19, .int 0, .int 0, .long NN])) = xx := ⟨_, rfl⟩
      rw [ew_302] at h
      have f_303 : w_302 r1 = some (.inl (cA 0, 520, .inl (fun _ => 0))) := by rw [← ew_302, mw_ne (mw_apart f_268 f_282 (by simp))]; exact f_268
      have f_304 : w_302 r2 = some (.inl (cA 0, 520, .inl (fun _ => 0))) := by rw [← ew_302, mw_ne (mw_apart f_269 f_282 (by simp))]; exact f_269
      have f_305 : w_302 r3 = some (.inl (cA 0, 520, .inl (fun _ => 0))) := by rw [← ew_302, mw_ne (mw_apart f_270 f_282 (by simp))]; exact f_270
      have f_306 : w_302 r4 = some (.inl (cA 2, 520, .inl (fun _ => 0))) := by rw [← ew_302, mw_ne (mw_apart f_271 f_282 (by simp))]; exact f_271
      have f_307 : w_302 r5 = some (.inl (cA 0, 520, .inl (fun _ => 0))) := by rw [← ew_302, mw_ne (mw_apart f_272 f_282 (by simp))]; exact f_272
      have f_308 : w_302 r6 = some (.inl (cA 2, 520, .inl (fun _ => 0))) := by rw [← ew_302, mw_ne (mw_apart f_273 f_282 (by simp))]; exact f_273
      have f_309 : w_302 r11 = some (.inl (cA 0, 520, .inl (fun _ => 0))) := by rw [← ew_302, mw_ne (mw_apart f_274 f_282 (by simp))]; exact f_274
      have f_310 : w_302 r12 = some (.inl (cA 0, 520, .inl (fun _ => 0))) := by rw [← ew_302, mw_ne (mw_apart f_275 f_282 (by simp))]; exact f_275
      have f_311 : w_302 r13 = some (.inl (cA 0, 520, .inl (fun _ => 0))) := by rw [← ew_302, mw_ne (mw_apart f_276 f_282 (by simp))]; exact f_276
      have f_312 : w_302 r14 = some (.inl (cA 0, 520, .inl (fun _ => 0))) := by rw [← ew_302, mw_ne (mw_apart f_277 f_282 (by simp))]; exact f_277
      have f_313 : w_302 r15 = some (.inl (cA 0, 520, .inl (fun _ => 0))) := by rw [← ew_302, mw_ne (mw_apart f_278 f_282 (by simp))]; exact f_278
      have f_314 : w_302 r17 = some (.inl (cA 0, 520, .inl (fun _ => 0))) := by rw [← ew_302, mw_ne (mw_apart f_279 f_282 (by simp))]; exact f_279
      have f_315 : w_302 r18 = some (.inl (cA 0, 520, .inl (fun _ => 0))) := by rw [← ew_302, mw_ne (mw_apart f_280 f_282 (by simp))]; exact f_280
      have f_316 : w_302 r19 = some (.inl (cA 1, 520, .inr (.inl (fun _ => 0)))) := by rw [← ew_302, mw_ne (mw_apart f_281 f_282 (by simp))]; exact f_281
      have f_317 : w_302 a = some (.inr (5, [.int (nI (Lc x)), .ref r1, .ref r2, .ref r3, .ref r4, .ref r5, .ref r6, .int 0, .int 0, .int 0, .int 0, .ref r11, .ref r12, .ref r13, .ref r14, .ref r15, .int 0, .ref r17, .ref r18, .ref r19, .int 0, .int 0, .long NN])) := by rw [← ew_302]; exact mw_self
      have hI : ∀ i ∈ ixI, w_302 ((fun i => ([a, r1, r2, r3, r4, r5, r6, 0, 0, 0, 0, r11, r12, r13, r14, r15, 0, r17, r18, r19] : List Nat).getD i 0) i) = some (ints cA 520 (fun _ => 0)) := by
        intro i hi
        simp only [ixI, List.mem_cons, List.not_mem_nil, or_false] at hi
        rcases hi with rfl | rfl | rfl | rfl | rfl | rfl | rfl | rfl | rfl | rfl | rfl
        · exact f_303
        · exact f_304
        · exact f_305
        · exact f_307
        · exact f_309
        · exact f_310
        · exact f_311
        · exact f_312
        · exact f_313
        · exact f_314
        · exact f_315
      have hZ : ∀ i ∈ ixZ, w_302 ((fun i => ([a, r1, r2, r3, r4, r5, r6, 0, 0, 0, 0, r11, r12, r13, r14, r15, 0, r17, r18, r19] : List Nat).getD i 0) i) = some (bools cA 520 (fun _ => 0)) := by
        intro i hi
        simp only [ixZ, List.mem_cons, List.not_mem_nil, or_false] at hi
        rcases hi with rfl | rfl
        · exact f_306
        · exact f_308
      have hX : MX cA w_302 (fun _ => 7) (fun i => ([a, r1, r2, r3, r4, r5, r6, 0, 0, 0, 0, r11, r12, r13, r14, r15, 0, r17, r18, r19] : List Nat).getD i 0) (Lc x) 0 0 0 0 0 0 0 NN (fun _ _ => 0) (fun _ => 0) := ⟨f_317, hI, hZ, f_316, hinj, rfl, fun _ _ => rfl, rfl⟩
      refine W.widen (k := 14) (n := 7280) (by omega) (by omega) ?_
      refine mx_retv G h hrt hlocks d_M_init_162 ⟨(fun i => ([a, r1, r2, r3, r4, r5, r6, 0, 0, 0, 0, r11, r12, r13, r14, r15, 0, r17, r18, r19] : List Nat).getD i 0), rfl, hX, fun y hy => ?_, hfre⟩
      have hya : y ≠ a := fun z => hy ⟨0, by decide, z⟩
      rw [← ew_302, mw_ne hya]
      exact B98 y hya (fun z => hy ⟨1, by decide, z⟩) (fun z => hy ⟨2, by decide, z⟩) (fun z => hy ⟨3, by decide, z⟩) (fun z => hy ⟨4, by decide, z⟩) (fun z => hy ⟨5, by decide, z⟩) (fun z => hy ⟨6, by decide, z⟩) (fun z => hy ⟨11, by decide, z⟩) (fun z => hy ⟨12, by decide, z⟩) (fun z => hy ⟨13, by decide, z⟩) (fun z => hy ⟨14, by decide, z⟩) (fun z => hy ⟨15, by decide, z⟩) (fun z => hy ⟨17, by decide, z⟩) (fun z => hy ⟨18, by decide, z⟩) (fun z => hy ⟨19, by decide, z⟩)
  · refine lv_iconst (v := 1) hx hb d_M_init_143 (by decide) ?_
    refine lv_goto (tgt := 159) hx hb d_M_init_144 (by decide) ?_
    have et_318 : 1 = nI (Lc x) := by rw [Lc, if_pos (Int32.not_le.mp c_283)]; rfl
    rw [et_318]
    refine mx_putF G h hname f_282 rfl 0 (by decide) (tb_in in_M) t_M t_M_ok n_M (tb_c k_312) rfl rfl rfl rfl rfl rfl (Nat.le_of_ble_eq_true rfl) d_M_init_159 (fun H locs h => ?_)
    have h : mw_H n0 D cl s (mw_up w_267 a (.inr (5, [.int (nI (Lc x)), .ref r1, .ref r2, .ref r3, .ref r4, .ref r5, .ref r6, .int 0, .int 0, .int 0, .int 0, .ref r11, .ref r12, .ref r13, .ref r14, .ref r15, .int 0, .ref r17, .ref r18, .ref r19, .int 0, .int 0, .long NN]))) H _ := h
    obtain ⟨w_319, ew_319⟩ : ∃ xx : mw, mw_up w_267 a (.inr (5, [.int (nI (Lc x)), .ref r1, .ref r2, .ref r3, .ref r4, .ref r5, .ref r6, .int 0, .int 0, .int 0, .int 0, .ref r11, .ref r12, .ref r13, .ref r14, .ref r15, .int 0, .ref r17, .ref r18, .ref r19, .int 0, .int 0, .long NN])) = xx := ⟨_, rfl⟩
    rw [ew_319] at h
    have f_320 : w_319 r1 = some (.inl (cA 0, 520, .inl (fun _ => 0))) := by rw [← ew_319, mw_ne (mw_apart f_268 f_282 (by simp))]; exact f_268
    have f_321 : w_319 r2 = some (.inl (cA 0, 520, .inl (fun _ => 0))) := by rw [← ew_319, mw_ne (mw_apart f_269 f_282 (by simp))]; exact f_269
    have f_322 : w_319 r3 = some (.inl (cA 0, 520, .inl (fun _ => 0))) := by rw [← ew_319, mw_ne (mw_apart f_270 f_282 (by simp))]; exact f_270
    have f_323 : w_319 r4 = some (.inl (cA 2, 520, .inl (fun _ => 0))) := by rw [← ew_319, mw_ne (mw_apart f_271 f_282 (by simp))]; exact f_271
    have f_324 : w_319 r5 = some (.inl (cA 0, 520, .inl (fun _ => 0))) := by rw [← ew_319, mw_ne (mw_apart f_272 f_282 (by simp))]; exact f_272
    have f_325 : w_319 r6 = some (.inl (cA 2, 520, .inl (fun _ => 0))) := by rw [← ew_319, mw_ne (mw_apart f_273 f_282 (by simp))]; exact f_273
    have f_326 : w_319 r11 = some (.inl (cA 0, 520, .inl (fun _ => 0))) := by rw [← ew_319, mw_ne (mw_apart f_274 f_282 (by simp))]; exact f_274
    have f_327 : w_319 r12 = some (.inl (cA 0, 520, .inl (fun _ => 0))) := by rw [← ew_319, mw_ne (mw_apart f_275 f_282 (by simp))]; exact f_275
    have f_328 : w_319 r13 = some (.inl (cA 0, 520, .inl (fun _ => 0))) := by rw [← ew_319, mw_ne (mw_apart f_276 f_282 (by simp))]; exact f_276
    have f_329 : w_319 r14 = some (.inl (cA 0, 520, .inl (fun _ => 0))) := by rw [← ew_319, mw_ne (mw_apart f_277 f_282 (by simp))]; exact f_277
    have f_330 : w_319 r15 = some (.inl (cA 0, 520, .inl (fun _ => 0))) := by rw [← ew_319, mw_ne (mw_apart f_278 f_282 (by simp))]; exact f_278
    have f_331 : w_319 r17 = some (.inl (cA 0, 520, .inl (fun _ => 0))) := by rw [← ew_319, mw_ne (mw_apart f_279 f_282 (by simp))]; exact f_279
    have f_332 : w_319 r18 = some (.inl (cA 0, 520, .inl (fun _ => 0))) := by rw [← ew_319, mw_ne (mw_apart f_280 f_282 (by simp))]; exact f_280
    have f_333 : w_319 r19 = some (.inl (cA 1, 520, .inr (.inl (fun _ => 0)))) := by rw [← ew_319, mw_ne (mw_apart f_281 f_282 (by simp))]; exact f_281
    have f_334 : w_319 a = some (.inr (5, [.int (nI (Lc x)), .ref r1, .ref r2, .ref r3, .ref r4, .ref r5, .ref r6, .int 0, .int 0, .int 0, .int 0, .ref r11, .ref r12, .ref r13, .ref r14, .ref r15, .int 0, .ref r17, .ref r18, .ref r19, .int 0, .int 0, .long NN])) := by rw [← ew_319]; exact mw_self
    have hI : ∀ i ∈ ixI, w_319 ((fun i => ([a, r1, r2, r3, r4, r5, r6, 0, 0, 0, 0, r11, r12, r13, r14, r15, 0, r17, r18, r19] : List Nat).getD i 0) i) = some (ints cA 520 (fun _ => 0)) := by
      intro i hi
      simp only [ixI, List.mem_cons, List.not_mem_nil, or_false] at hi
      rcases hi with rfl | rfl | rfl | rfl | rfl | rfl | rfl | rfl | rfl | rfl | rfl
      · exact f_320
      · exact f_321
      · exact f_322
      · exact f_324
      · exact f_326
      · exact f_327
      · exact f_328
      · exact f_329
      · exact f_330
      · exact f_331
      · exact f_332
    have hZ : ∀ i ∈ ixZ, w_319 ((fun i => ([a, r1, r2, r3, r4, r5, r6, 0, 0, 0, 0, r11, r12, r13, r14, r15, 0, r17, r18, r19] : List Nat).getD i 0) i) = some (bools cA 520 (fun _ => 0)) := by
      intro i hi
      simp only [ixZ, List.mem_cons, List.not_mem_nil, or_false] at hi
      rcases hi with rfl | rfl
      · exact f_323
      · exact f_325
    have hX : MX cA w_319 (fun _ => 7) (fun i => ([a, r1, r2, r3, r4, r5, r6, 0, 0, 0, 0, r11, r12, r13, r14, r15, 0, r17, r18, r19] : List Nat).getD i 0) (Lc x) 0 0 0 0 0 0 0 NN (fun _ _ => 0) (fun _ => 0) := ⟨f_334, hI, hZ, f_333, hinj, rfl, fun _ _ => rfl, rfl⟩
    refine W.widen (k := 14) (n := 7280) (by omega) (by omega) ?_
    refine mx_retv G h hrt hlocks d_M_init_162 ⟨(fun i => ([a, r1, r2, r3, r4, r5, r6, 0, 0, 0, 0, r11, r12, r13, r14, r15, 0, r17, r18, r19] : List Nat).getD i 0), rfl, hX, fun y hy => ?_, hfre⟩
    have hya : y ≠ a := fun z => hy ⟨0, by decide, z⟩
    rw [← ew_319, mw_ne hya]
    exact B98 y hya (fun z => hy ⟨1, by decide, z⟩) (fun z => hy ⟨2, by decide, z⟩) (fun z => hy ⟨3, by decide, z⟩) (fun z => hy ⟨4, by decide, z⟩) (fun z => hy ⟨5, by decide, z⟩) (fun z => hy ⟨6, by decide, z⟩) (fun z => hy ⟨11, by decide, z⟩) (fun z => hy ⟨12, by decide, z⟩) (fun z => hy ⟨13, by decide, z⟩) (fun z => hy ⟨14, by decide, z⟩) (fun z => hy ⟨15, by decide, z⟩) (fun z => hy ⟨17, by decide, z⟩) (fun z => hy ⟨18, by decide, z⟩) (fun z => hy ⟨19, by decide, z⟩)
