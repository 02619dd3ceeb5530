theorem mm_L (x : Int32) : (if (1 : Int32) < (if x < 6 then x else 6) then (if x < 6 then x else 6) else 1) = nI (Lc x) := by
  have h := Lc_1 x
  by_cases h1 : x < 1
  · have h6 : x < 6 := Int32.lt_of_lt_of_le h1 (by decide)
    rw [if_pos h6, if_neg (fun z => Int32.lt_irrefl (Int32.lt_of_lt_of_le z (Int32.le_of_lt h1))), Lc, if_pos h1]
    rfl
  · by_cases h6 : 6 < x
    · rw [if_neg (fun z => Int32.lt_irrefl (Int32.lt_of_lt_of_le z (Int32.le_of_lt h6))), if_pos (by decide), Lc, if_neg h1, if_pos h6]
      rfl
    · have e := h.2.2 h1 h6
      obtain ⟨k, hk⟩ : ∃ k, k = Lc x := ⟨_, rfl⟩
      rw [← hk] at h e ⊢
      rw [e]
      rcases (show k = 1 ∨ k = 2 ∨ k = 3 ∨ k = 4 ∨ k = 5 ∨ k = 6 by omega) with z | z | z | z | z | z <;> rw [z] <;> decide
def filL (k : Nat) : Nat → Int64 := fun i => if i < k then NN else 0
theorem filL_0 : filL 0 = fun _ => 0 := by
  funext i
  simp [filL]
theorem filL_s {k : Nat} : vp_updL (filL k) k NN = filL (k + 1) := by
  funext i
  simp only [vp_updL, filL]
  by_cases e : i = k
  · subst e; rw [if_pos rfl, if_pos (by omega)]
  · rw [if_neg e]
    by_cases c : i < k
    · rw [if_pos c, if_pos (by omega)]
    · rw [if_neg c, if_neg (by omega)]
theorem keepF {w w' : mw} {S : Nat → Prop} {a y : Nat} {e : va_E} (hfr : FR w w' S) (hs : ∀ x, S x → x = a ∨ w x = none) (hy : w y = some e) (hya : y ≠ a) : w' y = some e := by
  rw [hfr y (fun z => (hs y z).elim hya (fun q => by rw [hy] at q; cases q))]
  exact hy
theorem noneB {w v : mw} {z : Nat} (T : ∀ e, w z = some e → v z = some e) (hz : v z = none) : w z = none := by
  cases hw : w z with
  | none => rfl
  | some e => rw [T e hw] at hz; cases hz
theorem CAx.mono {cA : Nat → ClassId} {w : mw} {S S' : Nat → Prop} {hc hu L : Nat} {us : List uU} {f : Nat → Option Nat} {g : Nat → Nat} (h : CAx cA w S hc hu L us f g) (m : ∀ x, S x → S' x) : CAx cA w S' hc hu L us f g := by
  obtain ⟨h1, h2, h3, h4, h5, h6, h7, h8, h9⟩ := h
  exact ⟨h1, h2, h3, h4, fun i hi => ⟨(h5 i hi).1, m _ (h5 i hi).2.1, (h5 i hi).2.2⟩, h6, h7, m _ h8, m _ h9⟩
theorem QAx.mono {cA : Nat → ClassId} {w : mw} {S S' : Nat → Prop} {hq hp hn hr : Nat} {ps : List pC} {cs : List (Int32 × Int64)} {f : Nat → Option Nat} {g gu : Nat → Nat} {fn : Nat → Int32} {fr : Nat → Int64} (h : QAx cA w S hq hp hn hr ps cs f g gu fn fr) (m : ∀ x, S x → S' x) : QAx cA w S' hq hp hn hr ps cs f g gu fn fr := by
  obtain ⟨h1, h2, h3, h4, h5, h6, h7, h8, h9, h10, h11, h12, h13, h14, h15⟩ := h
  exact ⟨h1, h2, h3, h4, h5, h6, fun i hi => ⟨(h7 i hi).1, m _ (h7 i hi).2.1, m _ (h7 i hi).2.2.1, (h7 i hi).2.2.2⟩, h8, h9, h10, h11, m _ h12, m _ h13, m _ h14, m _ h15⟩
def g0S : gS := (filL 24, [], 0, 0, (fun _ => []), (fun _ => []), 0, 0, NN)
theorem none_b {v w1 : mw} {z y : Nat} {c : va_E} (e : mw_up v z c = w1) (hz : v z = none) (hy : w1 y = none) : v y = none := by
  by_cases h : y = z
  · rw [h]; exact hz
  · rw [← e, mw_ne h] at hy; exact hy
theorem none_ne {v : mw} {y z : Nat} {c : va_E} (hy : v y = none) (hz : v z = some c) : y ≠ z := fun q => by rw [q, hz] at hy; cases hy
theorem d_D_init_0 : decode b_D_init 0 = .ok (.aload_n 0, 1) := by decide +kernel
theorem d_D_init_1 : decode b_D_init 1 = .ok (.invokespecial 3, 3) := by decide +kernel
theorem d_D_init_4 : decode b_D_init 4 = .ok (.aload_n 0, 1) := by decide +kernel
theorem d_D_init_5 : decode b_D_init 5 = .ok (.bipush 24, 2) := by decide +kernel
theorem d_D_init_7 : decode b_D_init 7 = .ok (.newarray .long, 2) := by decide +kernel
theorem d_D_init_9 : decode b_D_init 9 = .ok (.putfield 9, 3) := by decide +kernel
theorem d_D_init_12 : decode b_D_init 12 = .ok (.iconst 0, 1) := by decide +kernel
theorem d_D_init_13 : decode b_D_init 13 = .ok (.istore_n 2, 1) := by decide +kernel
theorem d_D_init_14 : decode b_D_init 14 = .ok (.iload_n 2, 1) := by decide +kernel
theorem d_D_init_15 : decode b_D_init 15 = .ok (.bipush 24, 2) := by decide +kernel
theorem d_D_init_17 : decode b_D_init 17 = .ok (.if_icmp .ge 18, 3) := by decide +kernel
theorem d_D_init_20 : decode b_D_init 20 = .ok (.aload_n 0, 1) := by decide +kernel
theorem d_D_init_21 : decode b_D_init 21 = .ok (.getfield 9, 3) := by decide +kernel
theorem d_D_init_24 : decode b_D_init 24 = .ok (.iload_n 2, 1) := by decide +kernel
theorem d_D_init_25 : decode b_D_init 25 = .ok (.ldc2_w 13, 3) := by decide +kernel
theorem d_D_init_28 : decode b_D_init 28 = .ok (.lastore, 1) := by decide +kernel
theorem d_D_init_29 : decode b_D_init 29 = .ok (.iinc 2 1, 3) := by decide +kernel
theorem d_D_init_32 : decode b_D_init 32 = .ok (.goto (-18), 3) := by decide +kernel
theorem d_D_init_35 : decode b_D_init 35 = .ok (.aload_n 0, 1) := by decide +kernel
theorem d_D_init_36 : decode b_D_init 36 = .ok (.new 15, 3) := by decide +kernel
theorem d_D_init_39 : decode b_D_init 39 = .ok (.dup, 1) := by decide +kernel
theorem d_D_init_40 : decode b_D_init 40 = .ok (.iconst 1, 1) := by decide +kernel
theorem d_D_init_41 : decode b_D_init 41 = .ok (.bipush 6, 2) := by decide +kernel
theorem d_D_init_43 : decode b_D_init 43 = .ok (.iload_n 1, 1) := by decide +kernel
theorem d_D_init_44 : decode b_D_init 44 = .ok (.invokestatic 17, 3) := by decide +kernel
theorem d_D_init_47 : decode b_D_init 47 = .ok (.invokestatic 23, 3) := by decide +kernel
theorem d_D_init_50 : decode b_D_init 50 = .ok (.invokespecial 26, 3) := by decide +kernel
theorem d_D_init_53 : decode b_D_init 53 = .ok (.putfield 29, 3) := by decide +kernel
theorem d_D_init_56 : decode b_D_init 56 = .ok (.aload_n 0, 1) := by decide +kernel
theorem d_D_init_57 : decode b_D_init 57 = .ok (.iconst 3, 1) := by decide +kernel
theorem d_D_init_58 : decode b_D_init 58 = .ok (.anewarray 33, 3) := by decide +kernel
theorem d_D_init_61 : decode b_D_init 61 = .ok (.putfield 35, 3) := by decide +kernel
theorem d_D_init_64 : decode b_D_init 64 = .ok (.iconst 0, 1) := by decide +kernel
theorem d_D_init_65 : decode b_D_init 65 = .ok (.istore_n 2, 1) := by decide +kernel
theorem d_D_init_66 : decode b_D_init 66 = .ok (.iload_n 2, 1) := by decide +kernel
theorem d_D_init_67 : decode b_D_init 67 = .ok (.iconst 3, 1) := by decide +kernel
theorem d_D_init_68 : decode b_D_init 68 = .ok (.if_icmp .ge 22, 3) := by decide +kernel
theorem d_D_init_71 : decode b_D_init 71 = .ok (.aload_n 0, 1) := by decide +kernel
theorem d_D_init_72 : decode b_D_init 72 = .ok (.getfield 35, 3) := by decide +kernel
theorem d_D_init_75 : decode b_D_init 75 = .ok (.iload_n 2, 1) := by decide +kernel
theorem d_D_init_76 : decode b_D_init 76 = .ok (.new 33, 3) := by decide +kernel
theorem d_D_init_79 : decode b_D_init 79 = .ok (.dup, 1) := by decide +kernel
theorem d_D_init_80 : decode b_D_init 80 = .ok (.invokespecial 39, 3) := by decide +kernel
theorem d_D_init_83 : decode b_D_init 83 = .ok (.aastore, 1) := by decide +kernel
theorem d_D_init_84 : decode b_D_init 84 = .ok (.iinc 2 1, 3) := by decide +kernel
theorem d_D_init_87 : decode b_D_init 87 = .ok (.goto (-21), 3) := by decide +kernel
theorem d_D_init_90 : decode b_D_init 90 = .ok (.aload_n 0, 1) := by decide +kernel
theorem d_D_init_91 : decode b_D_init 91 = .ok (.ldc2_w 13, 3) := by decide +kernel
theorem d_D_init_94 : decode b_D_init 94 = .ok (.putfield 40, 3) := by decide +kernel
theorem d_D_init_97 : decode b_D_init 97 = .ok (.return_, 1) := by decide +kernel
set_option maxHeartbeats 4000000 in
set_option maxRecDepth 100000 in
theorem m_D_init {l : Launch} {D : va_G} {cA : Nat → ClassId} {n0 : Nat} {w : mw} {a : Nat} {x : Int32} (ha : w a = some (.inr (0, [.null, .null, .null, .int 0, .int 0, .long 0, .int 0, .int 0, .int 0]))) :
    Mc l D cA n0 y_D_init c_D_init 4 46 194 [.ref a, .int x] w (fun w' => ∃ ρ k, k 0 = a ∧ DR cA w' ρ k (Lc x) g0S ∧ FR w w' (RG ρ) ∧ (∀ y, RG ρ y → y = a ∨ w y = none) ∧ ∀ y, RG ρ y → w' y ≠ none) := by
  refine mw_met (cc := b_D_init) (maxL := 3) (ret := (none)) (by decide) rfl (Nat.le_of_ble_eq_true rfl) ?_
  intro p e s m below meth c ls G hrt hlocks hname h hl
  have G : mw_G p m c b_D_init 3 s _ (c_D_init :: TB) R_D D cl (tys cA) n0 := G
  have hx := G.1.1
  have hb := G.1.2.1
  have hl : lv_has ls 3 [(0, .ref a), (1, .int x)] := hl
  refine lv_aload_n hx hb d_D_init_0 rfl (lv_at hl 0 rfl) ?_
  refine W.objInit hx hb G.1.2.2.2.1 (G.1.2.2.2.2 _ (tb_c k_13)) (G.1.2.2.2.2 _ (tb_c k_14)) (G.1.2.2.2.2 _ (tb_c k_15)) rfl (by rw [G.1.2.2.1]; exact hl.1) rfl d_D_init_1 (Nat.le_of_ble_eq_true rfl) (Nat.le_of_ble_eq_true rfl) ?_
  refine W.eq (g2 := F0 m 4 ls []) rfl ?_
  refine lv_aload_n hx hb d_D_init_4 rfl (lv_at hl 0 rfl) ?_
  refine lv_bipush (v := 24) hx hb d_D_init_5 (by decide) ?_
  refine mx_newa (atype := .long) (ty := .long) (a0 := (24, .inr (.inl (fun _ => 0)))) G h (tb_c k_56) rfl 1 rfl (fun _ => rfl) (by decide) (N' := 24) (by decide) (by decide) (by show _ ≤ 46; omega) (by show _ ≤ 194; omega) d_D_init_7 (fun hf H hff h => ?_)
  have h : mw_H n0 D cl s (mw_up w hf (.inl (cA 1, 24, .inr (.inl (fun _ => 0))))) H _ := h
  obtain ⟨w_1, ew_1⟩ : ∃ xx : mw, mw_up w hf (.inl (cA 1, 24, .inr (.inl (fun _ => 0)))) = xx := ⟨_, rfl⟩
  rw [ew_1] at h
  have f_2 : w_1 a = some (.inr (0, [.null, .null, .null, .int 0, .int 0, .long 0, .int 0, .int 0, .int 0])) := by rw [← ew_1, mw_ne (mw_fresh ha hff)]; exact ha
  have f_3 : w_1 hf = some (.inl (cA 1, 24, .inr (.inl (fun _ => 0)))) := by rw [← ew_1]; exact mw_self
  refine mx_putF G h hname f_2 rfl 0 (by decide) (tb_in in_D) t_D t_D_ok n_D (tb_c k_117) rfl rfl rfl rfl rfl rfl (Nat.le_of_ble_eq_true rfl) d_D_init_9 (fun H locs h => ?_)
  have h : mw_H n0 D cl s (mw_up w_1 a (.inr (0, [.ref hf, .null, .null, .int 0, .int 0, .long 0, .int 0, .int 0, .int 0]))) H _ := h
  obtain ⟨w_4, ew_4⟩ : ∃ xx : mw, mw_up w_1 a (.inr (0, [.ref hf, .null, .null, .int 0, .int 0, .long 0, .int 0, .int 0, .int 0])) = xx := ⟨_, rfl⟩
  rw [ew_4] at h
  have f_5 : w_4 hf = some (.inl (cA 1, 24, .inr (.inl (fun _ => 0)))) := by rw [← ew_4, mw_ne (mw_apart f_3 f_2 (by simp))]; exact f_3
  have f_6 : w_4 a = some (.inr (0, [.ref hf, .null, .null, .int 0, .int 0, .long 0, .int 0, .int 0, .int 0])) := by rw [← ew_4]; exact mw_self
  refine lv_iconst (v := 0) hx hb d_D_init_12 (by decide) ?_
  refine lv_istore_n (lv' := [(2, .int 0), (0, .ref a), (1, .int x)]) hx hb d_D_init_13 rfl hl (by decide) rfl (fun ls hl => ?_)
  have haf : a ≠ hf := mw_fresh ha hff
  have rest : ∀ (v : mw), v = mw_up w_4 hf (longs cA 24 (filL 24)) → ∀ (H : Heap) (locs : List Loc) (ls : Array Slot), mw_H n0 D cl s v H locs → lv_has ls 3 [(2, .int (nI 24)), (0, .ref a), (1, .int x)] → W p l e { frames := 4, cells := 46, slots := 194, locals := 40 * 4 } s m ([.ref a, .int x] : List Value).toArray below meth c H locs 1 24 (MQ below (mw_Qv n0 D cl (fun w' => ∃ ρ k, k 0 = a ∧ DR cA w' ρ k (Lc x) g0S ∧ FR w w' (RG ρ) ∧ (∀ y, RG ρ y → y = a ∨ w y = none) ∧ ∀ y, RG ρ y → w' y ≠ none)) ([.ref a, .int x] : List Value).toArray s 46 194 (mw_A n0)) (F0 m 35 ls []) := by
    intro v hv H locs ls h hl
    have hA : v a = some (.inr (0, [.ref hf, .null, .null, .int 0, .int 0, .long 0, .int 0, .int 0, .int 0])) := by rw [hv, mw_ne haf]; exact f_6
    have hF : v hf = some (longs cA 24 (filL 24)) := by rw [hv]; exact mw_self
    have TB0 : ∀ (y : Nat) (e9 : va_E), w y = some e9 → y ≠ a → v y = some e9 := fun y e9 hy h1 => by rw [hv, mw_ne (mw_fresh hy hff), ← ew_4, mw_ne h1, ← ew_1, mw_ne (mw_fresh hy hff)]; exact hy
    have R0 : ∀ y, y ≠ a → y ≠ hf → v y = w y := fun y h1 h2 => by rw [hv, mw_ne h2, ← ew_4, mw_ne h1, ← ew_1, mw_ne h2]
    have hL := Lc_1 x
    refine lv_aload_n hx hb d_D_init_35 rfl (lv_at hl 1 rfl) ?_
    refine mx_new (ci := 1) (fs := [.null, .int 0]) G h rfl (tb_in in_C) t_C t_C_ok (tb_c k_17) (tb_c k_18) (tb_c k_2) (fun j9 hj9 => by rcases (show j9 = 0 ∨ j9 = 1 by omega) with rfl | rfl <;> rfl) (by show _ ≤ 46; omega) (by show _ ≤ 194; omega) d_D_init_36 (fun hc H hcf h => ?_)
    have fa1 : a ≠ hc := mw_fresh hA hcf
    have ff1 : hf ≠ hc := mw_fresh hF hcf
    have h : mw_H n0 D cl s (mw_up v hc (.inr (1, [.null, .int 0]))) H _ := h
    obtain ⟨w_7, ew_7⟩ : ∃ xx : mw, mw_up v hc (.inr (1, [.null, .int 0])) = xx := ⟨_, rfl⟩
    rw [ew_7] at h
    have f_8 : w_7 a = some (.inr (0, [.ref hf, .null, .null, .int 0, .int 0, .long 0, .int 0, .int 0, .int 0])) := by rw [← ew_7, mw_ne (mw_fresh hA hcf)]; exact hA
    have f_9 : w_7 hf = some (longs cA 24 (filL 24)) := by rw [← ew_7, mw_ne (mw_fresh hF hcf)]; exact hF
    have f_10 : w_7 hc = some (.inr (1, [.null, .int 0])) := by rw [← ew_7]; exact mw_self
    have T1z : ∀ (y : Nat) (e9 : va_E), w y = some e9 → y ≠ a → y ≠ hc := fun y e9 hy h1 => mw_fresh (TB0 y e9 hy h1) hcf
    have T1 : ∀ (y : Nat) (e9 : va_E), w y = some e9 → y ≠ a → w_7 y = some e9 := fun y e9 hy h1 => by rw [← ew_7, mw_ne (T1z y e9 hy h1)]; exact TB0 y e9 hy h1
    have R2 : ∀ y, y ≠ a → y ≠ hf → y ≠ hc → w_7 y = w y := fun y q0 q1 q2 => by rw [← ew_7, mw_ne q2]; exact R0 y q0 q1
    refine lv_dup hx hb d_D_init_39 rfl ?_
    refine lv_iconst (v := 1) hx hb d_D_init_40 (by decide) ?_
    refine lv_bipush (v := 6) hx hb d_D_init_41 (by decide) ?_
    refine lv_iload_n hx hb d_D_init_43 rfl (lv_at hl 2 rfl) ?_
    refine va_mmin (x := 6) (y := x) hx hb (by rw [G.1.2.2.1]; exact hl.1.symm) G.1.2.2.2.1 (G.1.2.2.2.2 _ (tb_c k_19)) (G.1.2.2.2.2 _ (tb_c k_20)) (G.1.2.2.2.2 _ (tb_c k_3)) (G.1.2.2.2.2 _ (tb_c k_21)) (Nat.le_of_ble_eq_true rfl) (Nat.le_of_ble_eq_true rfl) (by show _ ≤ 46; omega) (by show _ ≤ 194; omega) d_D_init_44 ?_
    refine va_mmax (x := 1) (y := (if x < 6 then x else 6)) hx hb (by rw [G.1.2.2.1]; exact hl.1.symm) G.1.2.2.2.1 (G.1.2.2.2.2 _ (tb_c k_22)) (G.1.2.2.2.2 _ (tb_c k_23)) (G.1.2.2.2.2 _ (tb_c k_3)) (G.1.2.2.2.2 _ (tb_c k_24)) (Nat.le_of_ble_eq_true rfl) (Nat.le_of_ble_eq_true rfl) (by show _ ≤ 46; omega) (by show _ ≤ 194; omega) d_D_init_47 ?_
    refine mx_cv (cI (As := [.int (if 1 < (if x < 6 then x else 6) then (if x < 6 then x else 6) else 1)]) (rest := [.ref hc, .ref a]) G h (m_C_init f_10 hL.1 hL.2.1 (mm_L x)) k_25 k_26 k_2 k_27 rfl hd_C_init rfl rfl ⟨Nat.le_of_ble_eq_true rfl, Nat.le_of_ble_eq_true rfl⟩ rfl hl.1 rfl (Nat.le_of_ble_eq_true rfl) d_D_init_50 ⟨by show _ ≤ 46; omega, by show _ ≤ 194; omega⟩) h (fun w_11 H locs h hcp => ?_)
    obtain ⟨hu, fc, gc, hCX, hCf, hCu, hCg⟩ := hcp
    have hCs : ∀ y, (SS hc hu gc (Lc x)) y → y = hc ∨ w_7 y = none := by
      rintro y (z | z | ⟨k9, hk9, z⟩)
      · exact Or.inl z
      · exact Or.inr (by rw [z]; exact hCu)
      · exact Or.inr (by rw [z]; exact hCg k9 hk9)
    have hCl : ∀ y, (SS hc hu gc (Lc x)) y → w_11 y ≠ none := by
      rintro y (z | z | ⟨k9, hk9, z⟩) <;> rw [z]
      · rw [hCX.1]; simp
      · rw [hCX.2.1]; simp
      · obtain ⟨u9, hu9⟩ := (hCX.2.2.2.2.1 k9 hk9).2.2; rw [hu9]; simp
    have frC : ∀ y, (SS hc hu gc (Lc x)) y → v y = none := fun y hy => (hCs y hy).elim (fun z => by rw [z]; exact hcf) (fun z => none_b ew_7 hcf z)
    have hA3 := keepF hCf hCs f_8 fa1
    have hF3 := keepF hCf hCs f_9 ff1
    have T3 : ∀ (y : Nat) (e9 : va_E), w y = some e9 → y ≠ a → w_11 y = some e9 := fun y e9 hy h1 => keepF hCf hCs (T1 y e9 hy h1) (T1z y e9 hy h1)
    have R4 : ∀ y, y ≠ a → y ≠ hf → ¬ (SS hc hu gc (Lc x)) y → w_11 y = w y := fun y q0 q1 q2 => by rw [hCf y q2]; exact R2 y q0 q1 (fun z9 => q2 (by rw [z9]; exact Or.inl rfl))
    have T5 : ∀ (y : Nat) (e9 : va_E), w_11 y = some e9 → y ≠ a → w_11 y = some e9 := fun _ _ hy _ => hy
    refine mx_putF G h hname hA3 rfl 1 (by decide) (tb_in in_D) t_D t_D_ok n_D (tb_c k_118) rfl rfl rfl rfl rfl rfl (Nat.le_of_ble_eq_true rfl) d_D_init_53 (fun H locs h => ?_)
    have h : mw_H n0 D cl s (mw_up w_11 a (.inr (0, [.ref hf, .ref hc, .null, .int 0, .int 0, .long 0, .int 0, .int 0, .int 0]))) H _ := h
    obtain ⟨w_12, ew_12⟩ : ∃ xx : mw, mw_up w_11 a (.inr (0, [.ref hf, .ref hc, .null, .int 0, .int 0, .long 0, .int 0, .int 0, .int 0])) = xx := ⟨_, rfl⟩
    rw [ew_12] at h
    have f_13 : w_12 hf = some (longs cA 24 (filL 24)) := by rw [← ew_12, mw_ne (mw_apart hF3 hA3 (by simp))]; exact hF3
    have f_14 : w_12 a = some (.inr (0, [.ref hf, .ref hc, .null, .int 0, .int 0, .long 0, .int 0, .int 0, .int 0])) := by rw [← ew_12]; exact mw_self
    have T6 : ∀ (y : Nat) (e9 : va_E), w y = some e9 → y ≠ a → w_12 y = some e9 := fun y e9 hy h1 => by rw [← ew_12, mw_ne h1]; exact T3 y e9 hy h1
    have T7 : ∀ (y : Nat) (e9 : va_E), w_11 y = some e9 → y ≠ a → w_12 y = some e9 := fun y e9 hy h1 => by rw [← ew_12, mw_ne h1]; exact T5 y e9 hy h1
    have R8 : ∀ y, y ≠ a → y ≠ hf → ¬ (SS hc hu gc (Lc x)) y → w_12 y = w y := fun y q0 q1 q2 => by rw [← ew_12, mw_ne q0]; exact R4 y q0 q1 q2
    refine lv_aload_n hx hb d_D_init_56 rfl (lv_at hl 1 rfl) ?_
    refine lv_iconst (v := 3) hx hb d_D_init_57 (by decide) ?_
    have TCq := T7
    refine mx_newq G h (tb_c k_66) (by decide) 5 rfl (N' := 3) (by decide) (by decide) (by decide) (by show _ ≤ 46; omega) (by show _ ≤ 194; omega) d_D_init_58 (fun hq H hqf h => ?_)
    have fa2 : a ≠ hq := mw_fresh f_14 hqf
    have ff2 : hf ≠ hq := mw_fresh f_13 hqf
    have hqw : w hq = none := noneB (fun e9 z => T6 hq e9 z fa2.symm) hqf
    have hCq : ∀ y, (SS hc hu gc (Lc x)) y → y ≠ hq := fun y hy => by
      have hya : y ≠ a := fun z => by have := frC y hy; rw [z, hA] at this; cases this
      cases hh : w_11 y with
      | none => exact absurd hh (hCl y hy)
      | some e9 => exact mw_fresh (T7 y e9 hh hya) hqf
    have h : mw_H n0 D cl s (mw_up w_12 hq (refs cA 5 3 (fun _ => none))) H _ := h
    obtain ⟨w_15, ew_15⟩ : ∃ xx : mw, mw_up w_12 hq (refs cA 5 3 (fun _ => none)) = xx := ⟨_, rfl⟩
    rw [ew_15] at h
    have f_16 : w_15 hf = some (longs cA 24 (filL 24)) := by rw [← ew_15, mw_ne (mw_fresh f_13 hqf)]; exact f_13
    have f_17 : w_15 a = some (.inr (0, [.ref hf, .ref hc, .null, .int 0, .int 0, .long 0, .int 0, .int 0, .int 0])) := by rw [← ew_15, mw_ne (mw_fresh f_14 hqf)]; exact f_14
    have f_18 : w_15 hq = some (refs cA 5 3 (fun _ => none)) := by rw [← ew_15]; exact mw_self
    have T9z : ∀ (y : Nat) (e9 : va_E), w y = some e9 → y ≠ a → y ≠ hq := fun y e9 hy h1 => mw_fresh (T6 y e9 hy h1) hqf
    have T9 : ∀ (y : Nat) (e9 : va_E), w y = some e9 → y ≠ a → w_15 y = some e9 := fun y e9 hy h1 => by rw [← ew_15, mw_ne (T9z y e9 hy h1)]; exact T6 y e9 hy h1
    have T10z : ∀ (y : Nat) (e9 : va_E), w_11 y = some e9 → y ≠ a → y ≠ hq := fun y e9 hy h1 => mw_fresh (T7 y e9 hy h1) hqf
    have T10 : ∀ (y : Nat) (e9 : va_E), w_11 y = some e9 → y ≠ a → w_15 y = some e9 := fun y e9 hy h1 => by rw [← ew_15, mw_ne (T10z y e9 hy h1)]; exact T7 y e9 hy h1
    have R11 : ∀ y, y ≠ a → y ≠ hf → ¬ (SS hc hu gc (Lc x)) y → y ≠ hq → w_15 y = w y := fun y q0 q1 q2 q3 => by rw [← ew_15, mw_ne q3]; exact R8 y q0 q1 q2
    have T12 : ∀ (y : Nat) (e9 : va_E), w y = some e9 → y ≠ a → y ≠ hq → w_15 y = some e9 := fun y e9 hy h1 _ => T9 y e9 hy h1
    have T13 : ∀ (y : Nat) (e9 : va_E), w_11 y = some e9 → y ≠ a → y ≠ hq → w_15 y = some e9 := fun y e9 hy h1 _ => T10 y e9 hy h1
    refine mx_putF G h hname f_17 rfl 2 (by decide) (tb_in in_D) t_D t_D_ok n_D (tb_c k_119) rfl rfl rfl rfl rfl rfl (Nat.le_of_ble_eq_true rfl) d_D_init_61 (fun H locs h => ?_)
    have h : mw_H n0 D cl s (mw_up w_15 a (.inr (0, [.ref hf, .ref hc, .ref hq, .int 0, .int 0, .long 0, .int 0, .int 0, .int 0]))) H _ := h
    obtain ⟨w_19, ew_19⟩ : ∃ xx : mw, mw_up w_15 a (.inr (0, [.ref hf, .ref hc, .ref hq, .int 0, .int 0, .long 0, .int 0, .int 0, .int 0])) = xx := ⟨_, rfl⟩
    rw [ew_19] at h
    have f_20 : w_19 hf = some (longs cA 24 (filL 24)) := by rw [← ew_19, mw_ne (mw_apart f_16 f_17 (by simp))]; exact f_16
    have f_21 : w_19 hq = some (refs cA 5 3 (fun _ => none)) := by rw [← ew_19, mw_ne (mw_apart f_18 f_17 (by simp))]; exact f_18
    have f_22 : w_19 a = some (.inr (0, [.ref hf, .ref hc, .ref hq, .int 0, .int 0, .long 0, .int 0, .int 0, .int 0])) := by rw [← ew_19]; exact mw_self
    refine lv_iconst (v := 0) hx hb d_D_init_64 (by decide) ?_
    refine lv_istore_n (lv' := [(2, .int 0), (0, .ref a), (1, .int x)]) hx hb d_D_init_65 rfl hl (by decide) rfl (fun ls hl => ?_)
    have T14 : ∀ (y : Nat) (e9 : va_E), w y = some e9 → y ≠ a → y ≠ hq → w_19 y = some e9 := fun y e9 hy h1 h2 => by rw [← ew_19, mw_ne h1]; exact T12 y e9 hy h1 h2
    have T15 : ∀ (y : Nat) (e9 : va_E), w_11 y = some e9 → y ≠ a → y ≠ hq → w_19 y = some e9 := fun y e9 hy h1 h2 => by rw [← ew_19, mw_ne h1]; exact T13 y e9 hy h1 h2
    have R16 : ∀ y, y ≠ a → y ≠ hf → ¬ (SS hc hu gc (Lc x)) y → y ≠ hq → w_19 y = w y := fun y q0 q1 q2 q3 => by rw [← ew_19, mw_ne q0]; exact R11 y q0 q1 q2 q3
    refine lv_iload_n hx hb d_D_init_66 rfl (lv_at hl 0 rfl) ?_
    refine lv_iconst (v := 3) hx hb d_D_init_67 (by decide) ?_
    refine lv_icmp_ge (tgt := 90) hx hb d_D_init_68 (by decide) (fun c_23 => absurd c_23 (by decide)) (fun c_23 => ?_)
    refine lv_aload_n hx hb d_D_init_71 rfl (lv_at hl 1 rfl) ?_
    refine mx_get G h f_22 rfl 2 (by decide) (tb_in in_D) (tb_c k_119) rfl rfl d_D_init_72 ?_
    refine lv_iload_n hx hb d_D_init_75 rfl (lv_at hl 0 rfl) ?_
    refine mx_new (ci := 3) (fs := [.null, .null, .null, .int 0, .int 0]) G h rfl (tb_in in_Q) t_Q t_Q_ok (tb_c k_66) (tb_c k_68) (tb_c k_5) (fun j9 hj9 => by rcases (show j9 = 0 ∨ j9 = 1 ∨ j9 = 2 ∨ j9 = 3 ∨ j9 = 4 by omega) with rfl | rfl | rfl | rfl | rfl <;> rfl) (by show _ ≤ 46; omega) (by show _ ≤ 194; omega) d_D_init_76 (fun z0 H hz0f h => ?_)
    have fa_0 : a ≠ z0 := mw_fresh f_22 hz0f
    have fhf_0 : hf ≠ z0 := mw_fresh f_20 hz0f
    have fhq_0 : hq ≠ z0 := mw_fresh f_21 hz0f
    have h : mw_H n0 D cl s (mw_up w_19 z0 (.inr (3, [.null, .null, .null, .int 0, .int 0]))) H _ := h
    obtain ⟨w_24, ew_24⟩ : ∃ xx : mw, mw_up w_19 z0 (.inr (3, [.null, .null, .null, .int 0, .int 0])) = xx := ⟨_, rfl⟩
    rw [ew_24] at h
    have f_25 : w_24 hf = some (longs cA 24 (filL 24)) := by rw [← ew_24, mw_ne (mw_fresh f_20 hz0f)]; exact f_20
    have f_26 : w_24 hq = some (refs cA 5 3 (fun _ => none)) := by rw [← ew_24, mw_ne (mw_fresh f_21 hz0f)]; exact f_21
    have f_27 : w_24 a = some (.inr (0, [.ref hf, .ref hc, .ref hq, .int 0, .int 0, .long 0, .int 0, .int 0, .int 0])) := by rw [← ew_24, mw_ne (mw_fresh f_22 hz0f)]; exact f_22
    have f_28 : w_24 z0 = some (.inr (3, [.null, .null, .null, .int 0, .int 0])) := by rw [← ew_24]; exact mw_self
    have T17z : ∀ (y : Nat) (e9 : va_E), w y = some e9 → y ≠ a → y ≠ hq → y ≠ z0 := fun y e9 hy h1 h2 => mw_fresh (T14 y e9 hy h1 h2) hz0f
    have T17 : ∀ (y : Nat) (e9 : va_E), w y = some e9 → y ≠ a → y ≠ hq → w_24 y = some e9 := fun y e9 hy h1 h2 => by rw [← ew_24, mw_ne (T17z y e9 hy h1 h2)]; exact T14 y e9 hy h1 h2
    have T18z : ∀ (y : Nat) (e9 : va_E), w_11 y = some e9 → y ≠ a → y ≠ hq → y ≠ z0 := fun y e9 hy h1 h2 => mw_fresh (T15 y e9 hy h1 h2) hz0f
    have T18 : ∀ (y : Nat) (e9 : va_E), w_11 y = some e9 → y ≠ a → y ≠ hq → w_24 y = some e9 := fun y e9 hy h1 h2 => by rw [← ew_24, mw_ne (T18z y e9 hy h1 h2)]; exact T15 y e9 hy h1 h2
    have R19 : ∀ y, y ≠ a → y ≠ hf → ¬ (SS hc hu gc (Lc x)) y → y ≠ hq → y ≠ z0 → w_24 y = w y := fun y q0 q1 q2 q3 q4 => by rw [← ew_24, mw_ne q4]; exact R16 y q0 q1 q2 q3
    refine lv_dup hx hb d_D_init_79 rfl ?_
    refine mx_cv (cI (As := []) (rest := [.ref z0, .int 0, .ref hq]) G h (m_Q_init f_28) k_69 k_70 k_5 k_71 rfl hd_Q_init rfl rfl ⟨Nat.le_of_ble_eq_true rfl, Nat.le_of_ble_eq_true rfl⟩ rfl hl.1 rfl (Nat.le_of_ble_eq_true rfl) d_D_init_80 ⟨by show _ ≤ 46; omega, by show _ ≤ 194; omega⟩) h (fun w_29 H locs h hcp => ?_)
    obtain ⟨hp0, hn0, hr0, fq0, gq0, uq0, nq0, rq0, hX0, hfr0, hS0, hlv0⟩ := hcp
    have fr0 : ∀ y, (SQ z0 hp0 hn0 hr0 gq0 uq0) y → w_19 y = none := fun y hy => (hS0 y hy).elim (fun z9 => by rw [z9]; exact hz0f) (fun z8 => none_b ew_24 hz0f z8)
    have k20 := keepF hfr0 hS0 f_25 fhf_0
    have k21 := keepF hfr0 hS0 f_26 fhq_0
    have k22 := keepF hfr0 hS0 f_27 fa_0
    have hzz0 := hX0.1
    have T23 : ∀ (y : Nat) (e9 : va_E), w y = some e9 → y ≠ a → y ≠ hq → w_29 y = some e9 := fun y e9 hy h1 h2 => keepF hfr0 hS0 (T17 y e9 hy h1 h2) (T17z y e9 hy h1 h2)
    have T24 : ∀ (y : Nat) (e9 : va_E), w_11 y = some e9 → y ≠ a → y ≠ hq → w_29 y = some e9 := fun y e9 hy h1 h2 => keepF hfr0 hS0 (T18 y e9 hy h1 h2) (T18z y e9 hy h1 h2)
    have R25 : ∀ y, y ≠ a → y ≠ hf → ¬ (SS hc hu gc (Lc x)) y → y ≠ hq → ¬ (SQ z0 hp0 hn0 hr0 gq0 uq0) y → w_29 y = w y := fun y q0 q1 q2 q3 q4 => by rw [hfr0 y q4]; exact R19 y q0 q1 q2 q3 (fun z9 => q4 (by rw [z9]; exact Or.inl rfl))
    have T26 : ∀ (y : Nat) (e9 : va_E), w_29 y = some e9 → y ≠ a → y ≠ hq → w_29 y = some e9 := fun _ _ hy _ _ => hy
    refine ax_sa G h 5 3 k21 rfl hzz0 rfl 0 rfl (by decide) (by decide) d_D_init_83 (fun H locs h => ?_)
    have h : mw_H n0 D cl s (mw_up w_29 hq (.inl (cA 5, 3, .inr (.inr (.inr (.inr (va_up (fun _ => none) 0 (some z0)))))))) H _ := h
    obtain ⟨w_30, ew_30⟩ : ∃ xx : mw, mw_up w_29 hq (.inl (cA 5, 3, .inr (.inr (.inr (.inr (va_up (fun _ => none) 0 (some z0))))))) = xx := ⟨_, rfl⟩
    rw [ew_30] at h
    have f_31 : w_30 hf = some (longs cA 24 (filL 24)) := by rw [← ew_30, mw_ne (mw_apart k20 k21 (by simp))]; exact k20
    have f_32 : w_30 a = some (.inr (0, [.ref hf, .ref hc, .ref hq, .int 0, .int 0, .long 0, .int 0, .int 0, .int 0])) := by rw [← ew_30, mw_ne (mw_apart k22 k21 (by simp))]; exact k22
    have f_33 : w_30 hq = some (.inl (cA 5, 3, .inr (.inr (.inr (.inr (va_up (fun _ => none) 0 (some z0))))))) := by rw [← ew_30]; exact mw_self
    have T27 : ∀ (y : Nat) (e9 : va_E), w y = some e9 → y ≠ a → y ≠ hq → w_30 y = some e9 := fun y e9 hy h1 h2 => by rw [← ew_30, mw_ne h2]; exact T23 y e9 hy h1 h2
    have T28 : ∀ (y : Nat) (e9 : va_E), w_11 y = some e9 → y ≠ a → y ≠ hq → w_30 y = some e9 := fun y e9 hy h1 h2 => by rw [← ew_30, mw_ne h2]; exact T24 y e9 hy h1 h2
    have T29 : ∀ (y : Nat) (e9 : va_E), w_29 y = some e9 → y ≠ a → y ≠ hq → w_30 y = some e9 := fun y e9 hy h1 h2 => by rw [← ew_30, mw_ne h2]; exact T26 y e9 hy h1 h2
    have R30 : ∀ y, y ≠ a → y ≠ hf → ¬ (SS hc hu gc (Lc x)) y → y ≠ hq → ¬ (SQ z0 hp0 hn0 hr0 gq0 uq0) y → w_30 y = w y := fun y q0 q1 q2 q3 q4 => by rw [← ew_30, mw_ne q3]; exact R25 y q0 q1 q2 q3 q4
    refine lv_iinc (v := 0 + 1) (lv' := [(2, .int (0 + 1)), (0, .ref a), (1, .int x)]) hx hb d_D_init_84 hl (k := 0) rfl rfl (by decide) rfl (fun ls hl => ?_)
    refine lv_goto (tgt := 66) hx hb d_D_init_87 (by decide) ?_
    refine lv_iload_n hx hb d_D_init_66 rfl (lv_at hl 0 rfl) ?_
    refine lv_iconst (v := 3) hx hb d_D_init_67 (by decide) ?_
    refine lv_icmp_ge (tgt := 90) hx hb d_D_init_68 (by decide) (fun c_34 => absurd c_34 (by decide)) (fun c_34 => ?_)
    refine lv_aload_n hx hb d_D_init_71 rfl (lv_at hl 1 rfl) ?_
    refine mx_get G h f_32 rfl 2 (by decide) (tb_in in_D) (tb_c k_119) rfl rfl d_D_init_72 ?_
    refine lv_iload_n hx hb d_D_init_75 rfl (lv_at hl 0 rfl) ?_
    refine mx_new (ci := 3) (fs := [.null, .null, .null, .int 0, .int 0]) G h rfl (tb_in in_Q) t_Q t_Q_ok (tb_c k_66) (tb_c k_68) (tb_c k_5) (fun j9 hj9 => by rcases (show j9 = 0 ∨ j9 = 1 ∨ j9 = 2 ∨ j9 = 3 ∨ j9 = 4 by omega) with rfl | rfl | rfl | rfl | rfl <;> rfl) (by show _ ≤ 46; omega) (by show _ ≤ 194; omega) d_D_init_76 (fun z1 H hz1f h => ?_)
    have fa_1 : a ≠ z1 := mw_fresh f_32 hz1f
    have fhf_1 : hf ≠ z1 := mw_fresh f_31 hz1f
    have fhq_1 : hq ≠ z1 := mw_fresh f_33 hz1f
    have h : mw_H n0 D cl s (mw_up w_30 z1 (.inr (3, [.null, .null, .null, .int 0, .int 0]))) H _ := h
    obtain ⟨w_35, ew_35⟩ : ∃ xx : mw, mw_up w_30 z1 (.inr (3, [.null, .null, .null, .int 0, .int 0])) = xx := ⟨_, rfl⟩
    rw [ew_35] at h
    have f_36 : w_35 hf = some (longs cA 24 (filL 24)) := by rw [← ew_35, mw_ne (mw_fresh f_31 hz1f)]; exact f_31
    have f_37 : w_35 a = some (.inr (0, [.ref hf, .ref hc, .ref hq, .int 0, .int 0, .long 0, .int 0, .int 0, .int 0])) := by rw [← ew_35, mw_ne (mw_fresh f_32 hz1f)]; exact f_32
    have f_38 : w_35 hq = some (.inl (cA 5, 3, .inr (.inr (.inr (.inr (va_up (fun _ => none) 0 (some z0))))))) := by rw [← ew_35, mw_ne (mw_fresh f_33 hz1f)]; exact f_33
    have f_39 : w_35 z1 = some (.inr (3, [.null, .null, .null, .int 0, .int 0])) := by rw [← ew_35]; exact mw_self
    have T31z : ∀ (y : Nat) (e9 : va_E), w y = some e9 → y ≠ a → y ≠ hq → y ≠ z1 := fun y e9 hy h1 h2 => mw_fresh (T27 y e9 hy h1 h2) hz1f
    have T31 : ∀ (y : Nat) (e9 : va_E), w y = some e9 → y ≠ a → y ≠ hq → w_35 y = some e9 := fun y e9 hy h1 h2 => by rw [← ew_35, mw_ne (T31z y e9 hy h1 h2)]; exact T27 y e9 hy h1 h2
    have T32z : ∀ (y : Nat) (e9 : va_E), w_11 y = some e9 → y ≠ a → y ≠ hq → y ≠ z1 := fun y e9 hy h1 h2 => mw_fresh (T28 y e9 hy h1 h2) hz1f
    have T32 : ∀ (y : Nat) (e9 : va_E), w_11 y = some e9 → y ≠ a → y ≠ hq → w_35 y = some e9 := fun y e9 hy h1 h2 => by rw [← ew_35, mw_ne (T32z y e9 hy h1 h2)]; exact T28 y e9 hy h1 h2
    have T33z : ∀ (y : Nat) (e9 : va_E), w_29 y = some e9 → y ≠ a → y ≠ hq → y ≠ z1 := fun y e9 hy h1 h2 => mw_fresh (T29 y e9 hy h1 h2) hz1f
    have T33 : ∀ (y : Nat) (e9 : va_E), w_29 y = some e9 → y ≠ a → y ≠ hq → w_35 y = some e9 := fun y e9 hy h1 h2 => by rw [← ew_35, mw_ne (T33z y e9 hy h1 h2)]; exact T29 y e9 hy h1 h2
    have R34 : ∀ y, y ≠ a → y ≠ hf → ¬ (SS hc hu gc (Lc x)) y → y ≠ hq → ¬ (SQ z0 hp0 hn0 hr0 gq0 uq0) y → y ≠ z1 → w_35 y = w y := fun y q0 q1 q2 q3 q4 q5 => by rw [← ew_35, mw_ne q5]; exact R30 y q0 q1 q2 q3 q4
    refine lv_dup hx hb d_D_init_79 rfl ?_
    refine mx_cv (cI (As := []) (rest := [.ref z1, .int (0 + 1), .ref hq]) G h (m_Q_init f_39) k_69 k_70 k_5 k_71 rfl hd_Q_init rfl rfl ⟨Nat.le_of_ble_eq_true rfl, Nat.le_of_ble_eq_true rfl⟩ rfl hl.1 rfl (Nat.le_of_ble_eq_true rfl) d_D_init_80 ⟨by show _ ≤ 46; omega, by show _ ≤ 194; omega⟩) h (fun w_40 H locs h hcp => ?_)
    obtain ⟨hp1, hn1, hr1, fq1, gq1, uq1, nq1, rq1, hX1, hfr1, hS1, hlv1⟩ := hcp
    have fr1 : ∀ y, (SQ z1 hp1 hn1 hr1 gq1 uq1) y → w_30 y = none := fun y hy => (hS1 y hy).elim (fun z9 => by rw [z9]; exact hz1f) (fun z8 => none_b ew_35 hz1f z8)
    have k35 := keepF hfr1 hS1 f_36 fhf_1
    have k36 := keepF hfr1 hS1 f_37 fa_1
    have k37 := keepF hfr1 hS1 f_38 fhq_1
    have hzz1 := hX1.1
    have T38 : ∀ (y : Nat) (e9 : va_E), w y = some e9 → y ≠ a → y ≠ hq → w_40 y = some e9 := fun y e9 hy h1 h2 => keepF hfr1 hS1 (T31 y e9 hy h1 h2) (T31z y e9 hy h1 h2)
    have T39 : ∀ (y : Nat) (e9 : va_E), w_11 y = some e9 → y ≠ a → y ≠ hq → w_40 y = some e9 := fun y e9 hy h1 h2 => keepF hfr1 hS1 (T32 y e9 hy h1 h2) (T32z y e9 hy h1 h2)
    have T40 : ∀ (y : Nat) (e9 : va_E), w_29 y = some e9 → y ≠ a → y ≠ hq → w_40 y = some e9 := fun y e9 hy h1 h2 => keepF hfr1 hS1 (T33 y e9 hy h1 h2) (T33z y e9 hy h1 h2)
    have R41 : ∀ y, y ≠ a → y ≠ hf → ¬ (SS hc hu gc (Lc x)) y → y ≠ hq → ¬ (SQ z0 hp0 hn0 hr0 gq0 uq0) y → ¬ (SQ z1 hp1 hn1 hr1 gq1 uq1) y → w_40 y = w y := fun y q0 q1 q2 q3 q4 q5 => by rw [hfr1 y q5]; exact R34 y q0 q1 q2 q3 q4 (fun z9 => q5 (by rw [z9]; exact Or.inl rfl))
    have T42 : ∀ (y : Nat) (e9 : va_E), w_40 y = some e9 → y ≠ a → y ≠ hq → w_40 y = some e9 := fun _ _ hy _ _ => hy
    refine ax_sa G h 5 3 k37 rfl hzz1 rfl 1 (by decide) (by decide) (by decide) d_D_init_83 (fun H locs h => ?_)
    have h : mw_H n0 D cl s (mw_up w_40 hq (.inl (cA 5, 3, .inr (.inr (.inr (.inr (va_up (va_up (fun _ => none) 0 (some z0)) 1 (some z1)))))))) H _ := h
    obtain ⟨w_41, ew_41⟩ : ∃ xx : mw, mw_up w_40 hq (.inl (cA 5, 3, .inr (.inr (.inr (.inr (va_up (va_up (fun _ => none) 0 (some z0)) 1 (some z1))))))) = xx := ⟨_, rfl⟩
    rw [ew_41] at h
    have f_42 : w_41 hf = some (longs cA 24 (filL 24)) := by rw [← ew_41, mw_ne (mw_apart k35 k37 (by simp))]; exact k35
    have f_43 : w_41 a = some (.inr (0, [.ref hf, .ref hc, .ref hq, .int 0, .int 0, .long 0, .int 0, .int 0, .int 0])) := by rw [← ew_41, mw_ne (mw_apart k36 k37 (by simp))]; exact k36
    have f_44 : w_41 hq = some (.inl (cA 5, 3, .inr (.inr (.inr (.inr (va_up (va_up (fun _ => none) 0 (some z0)) 1 (some z1))))))) := by rw [← ew_41]; exact mw_self
    have T43 : ∀ (y : Nat) (e9 : va_E), w y = some e9 → y ≠ a → y ≠ hq → w_41 y = some e9 := fun y e9 hy h1 h2 => by rw [← ew_41, mw_ne h2]; exact T38 y e9 hy h1 h2
    have T44 : ∀ (y : Nat) (e9 : va_E), w_11 y = some e9 → y ≠ a → y ≠ hq → w_41 y = some e9 := fun y e9 hy h1 h2 => by rw [← ew_41, mw_ne h2]; exact T39 y e9 hy h1 h2
    have T45 : ∀ (y : Nat) (e9 : va_E), w_29 y = some e9 → y ≠ a → y ≠ hq → w_41 y = some e9 := fun y e9 hy h1 h2 => by rw [← ew_41, mw_ne h2]; exact T40 y e9 hy h1 h2
    have T46 : ∀ (y : Nat) (e9 : va_E), w_40 y = some e9 → y ≠ a → y ≠ hq → w_41 y = some e9 := fun y e9 hy h1 h2 => by rw [← ew_41, mw_ne h2]; exact T42 y e9 hy h1 h2
    have R47 : ∀ y, y ≠ a → y ≠ hf → ¬ (SS hc hu gc (Lc x)) y → y ≠ hq → ¬ (SQ z0 hp0 hn0 hr0 gq0 uq0) y → ¬ (SQ z1 hp1 hn1 hr1 gq1 uq1) y → w_41 y = w y := fun y q0 q1 q2 q3 q4 q5 => by rw [← ew_41, mw_ne q3]; exact R41 y q0 q1 q2 q3 q4 q5
    refine lv_iinc (v := (0 + 1) + 1) (lv' := [(2, .int ((0 + 1) + 1)), (0, .ref a), (1, .int x)]) hx hb d_D_init_84 hl (k := 0) rfl rfl (by decide) rfl (fun ls hl => ?_)
    refine lv_goto (tgt := 66) hx hb d_D_init_87 (by decide) ?_
    refine lv_iload_n hx hb d_D_init_66 rfl (lv_at hl 0 rfl) ?_
    refine lv_iconst (v := 3) hx hb d_D_init_67 (by decide) ?_
    refine lv_icmp_ge (tgt := 90) hx hb d_D_init_68 (by decide) (fun c_45 => absurd c_45 (by decide)) (fun c_45 => ?_)
    refine lv_aload_n hx hb d_D_init_71 rfl (lv_at hl 1 rfl) ?_
    refine mx_get G h f_43 rfl 2 (by decide) (tb_in in_D) (tb_c k_119) rfl rfl d_D_init_72 ?_
    refine lv_iload_n hx hb d_D_init_75 rfl (lv_at hl 0 rfl) ?_
    refine mx_new (ci := 3) (fs := [.null, .null, .null, .int 0, .int 0]) G h rfl (tb_in in_Q) t_Q t_Q_ok (tb_c k_66) (tb_c k_68) (tb_c k_5) (fun j9 hj9 => by rcases (show j9 = 0 ∨ j9 = 1 ∨ j9 = 2 ∨ j9 = 3 ∨ j9 = 4 by omega) with rfl | rfl | rfl | rfl | rfl <;> rfl) (by show _ ≤ 46; omega) (by show _ ≤ 194; omega) d_D_init_76 (fun z2 H hz2f h => ?_)
    have fa_2 : a ≠ z2 := mw_fresh f_43 hz2f
    have fhf_2 : hf ≠ z2 := mw_fresh f_42 hz2f
    have fhq_2 : hq ≠ z2 := mw_fresh f_44 hz2f
    have h : mw_H n0 D cl s (mw_up w_41 z2 (.inr (3, [.null, .null, .null, .int 0, .int 0]))) H _ := h
    obtain ⟨w_46, ew_46⟩ : ∃ xx : mw, mw_up w_41 z2 (.inr (3, [.null, .null, .null, .int 0, .int 0])) = xx := ⟨_, rfl⟩
    rw [ew_46] at h
    have f_47 : w_46 hf = some (longs cA 24 (filL 24)) := by rw [← ew_46, mw_ne (mw_fresh f_42 hz2f)]; exact f_42
    have f_48 : w_46 a = some (.inr (0, [.ref hf, .ref hc, .ref hq, .int 0, .int 0, .long 0, .int 0, .int 0, .int 0])) := by rw [← ew_46, mw_ne (mw_fresh f_43 hz2f)]; exact f_43
    have f_49 : w_46 hq = some (.inl (cA 5, 3, .inr (.inr (.inr (.inr (va_up (va_up (fun _ => none) 0 (some z0)) 1 (some z1))))))) := by rw [← ew_46, mw_ne (mw_fresh f_44 hz2f)]; exact f_44
    have f_50 : w_46 z2 = some (.inr (3, [.null, .null, .null, .int 0, .int 0])) := by rw [← ew_46]; exact mw_self
    have T48z : ∀ (y : Nat) (e9 : va_E), w y = some e9 → y ≠ a → y ≠ hq → y ≠ z2 := fun y e9 hy h1 h2 => mw_fresh (T43 y e9 hy h1 h2) hz2f
    have T48 : ∀ (y : Nat) (e9 : va_E), w y = some e9 → y ≠ a → y ≠ hq → w_46 y = some e9 := fun y e9 hy h1 h2 => by rw [← ew_46, mw_ne (T48z y e9 hy h1 h2)]; exact T43 y e9 hy h1 h2
    have T49z : ∀ (y : Nat) (e9 : va_E), w_11 y = some e9 → y ≠ a → y ≠ hq → y ≠ z2 := fun y e9 hy h1 h2 => mw_fresh (T44 y e9 hy h1 h2) hz2f
    have T49 : ∀ (y : Nat) (e9 : va_E), w_11 y = some e9 → y ≠ a → y ≠ hq → w_46 y = some e9 := fun y e9 hy h1 h2 => by rw [← ew_46, mw_ne (T49z y e9 hy h1 h2)]; exact T44 y e9 hy h1 h2
    have T50z : ∀ (y : Nat) (e9 : va_E), w_29 y = some e9 → y ≠ a → y ≠ hq → y ≠ z2 := fun y e9 hy h1 h2 => mw_fresh (T45 y e9 hy h1 h2) hz2f
    have T50 : ∀ (y : Nat) (e9 : va_E), w_29 y = some e9 → y ≠ a → y ≠ hq → w_46 y = some e9 := fun y e9 hy h1 h2 => by rw [← ew_46, mw_ne (T50z y e9 hy h1 h2)]; exact T45 y e9 hy h1 h2
    have T51z : ∀ (y : Nat) (e9 : va_E), w_40 y = some e9 → y ≠ a → y ≠ hq → y ≠ z2 := fun y e9 hy h1 h2 => mw_fresh (T46 y e9 hy h1 h2) hz2f
    have T51 : ∀ (y : Nat) (e9 : va_E), w_40 y = some e9 → y ≠ a → y ≠ hq → w_46 y = some e9 := fun y e9 hy h1 h2 => by rw [← ew_46, mw_ne (T51z y e9 hy h1 h2)]; exact T46 y e9 hy h1 h2
    have R52 : ∀ y, y ≠ a → y ≠ hf → ¬ (SS hc hu gc (Lc x)) y → y ≠ hq → ¬ (SQ z0 hp0 hn0 hr0 gq0 uq0) y → ¬ (SQ z1 hp1 hn1 hr1 gq1 uq1) y → y ≠ z2 → w_46 y = w y := fun y q0 q1 q2 q3 q4 q5 q6 => by rw [← ew_46, mw_ne q6]; exact R47 y q0 q1 q2 q3 q4 q5
    refine lv_dup hx hb d_D_init_79 rfl ?_
    refine mx_cv (cI (As := []) (rest := [.ref z2, .int ((0 + 1) + 1), .ref hq]) G h (m_Q_init f_50) k_69 k_70 k_5 k_71 rfl hd_Q_init rfl rfl ⟨Nat.le_of_ble_eq_true rfl, Nat.le_of_ble_eq_true rfl⟩ rfl hl.1 rfl (Nat.le_of_ble_eq_true rfl) d_D_init_80 ⟨by show _ ≤ 46; omega, by show _ ≤ 194; omega⟩) h (fun w_51 H locs h hcp => ?_)
    obtain ⟨hp2, hn2, hr2, fq2, gq2, uq2, nq2, rq2, hX2, hfr2, hS2, hlv2⟩ := hcp
    have fr2 : ∀ y, (SQ z2 hp2 hn2 hr2 gq2 uq2) y → w_41 y = none := fun y hy => (hS2 y hy).elim (fun z9 => by rw [z9]; exact hz2f) (fun z8 => none_b ew_46 hz2f z8)
    have k53 := keepF hfr2 hS2 f_47 fhf_2
    have k54 := keepF hfr2 hS2 f_48 fa_2
    have k55 := keepF hfr2 hS2 f_49 fhq_2
    have hzz2 := hX2.1
    have T56 : ∀ (y : Nat) (e9 : va_E), w y = some e9 → y ≠ a → y ≠ hq → w_51 y = some e9 := fun y e9 hy h1 h2 => keepF hfr2 hS2 (T48 y e9 hy h1 h2) (T48z y e9 hy h1 h2)
    have T57 : ∀ (y : Nat) (e9 : va_E), w_11 y = some e9 → y ≠ a → y ≠ hq → w_51 y = some e9 := fun y e9 hy h1 h2 => keepF hfr2 hS2 (T49 y e9 hy h1 h2) (T49z y e9 hy h1 h2)
    have T58 : ∀ (y : Nat) (e9 : va_E), w_29 y = some e9 → y ≠ a → y ≠ hq → w_51 y = some e9 := fun y e9 hy h1 h2 => keepF hfr2 hS2 (T50 y e9 hy h1 h2) (T50z y e9 hy h1 h2)
    have T59 : ∀ (y : Nat) (e9 : va_E), w_40 y = some e9 → y ≠ a → y ≠ hq → w_51 y = some e9 := fun y e9 hy h1 h2 => keepF hfr2 hS2 (T51 y e9 hy h1 h2) (T51z y e9 hy h1 h2)
    have R60 : ∀ y, y ≠ a → y ≠ hf → ¬ (SS hc hu gc (Lc x)) y → y ≠ hq → ¬ (SQ z0 hp0 hn0 hr0 gq0 uq0) y → ¬ (SQ z1 hp1 hn1 hr1 gq1 uq1) y → ¬ (SQ z2 hp2 hn2 hr2 gq2 uq2) y → w_51 y = w y := fun y q0 q1 q2 q3 q4 q5 q6 => by rw [hfr2 y q6]; exact R52 y q0 q1 q2 q3 q4 q5 (fun z9 => q6 (by rw [z9]; exact Or.inl rfl))
    have T61 : ∀ (y : Nat) (e9 : va_E), w_51 y = some e9 → y ≠ a → y ≠ hq → w_51 y = some e9 := fun _ _ hy _ _ => hy
    refine ax_sa G h 5 3 k55 rfl hzz2 rfl 2 (by decide) (by decide) (by decide) d_D_init_83 (fun H locs h => ?_)
    have h : mw_H n0 D cl s (mw_up w_51 hq (.inl (cA 5, 3, .inr (.inr (.inr (.inr (va_up (va_up (va_up (fun _ => none) 0 (some z0)) 1 (some z1)) 2 (some z2)))))))) H _ := h
    obtain ⟨w_52, ew_52⟩ : ∃ xx : mw, mw_up w_51 hq (.inl (cA 5, 3, .inr (.inr (.inr (.inr (va_up (va_up (va_up (fun _ => none) 0 (some z0)) 1 (some z1)) 2 (some z2))))))) = xx := ⟨_, rfl⟩
    rw [ew_52] at h
    have f_53 : w_52 hf = some (longs cA 24 (filL 24)) := by rw [← ew_52, mw_ne (mw_apart k53 k55 (by simp))]; exact k53
    have f_54 : w_52 a = some (.inr (0, [.ref hf, .ref hc, .ref hq, .int 0, .int 0, .long 0, .int 0, .int 0, .int 0])) := by rw [← ew_52, mw_ne (mw_apart k54 k55 (by simp))]; exact k54
    have f_55 : w_52 hq = some (.inl (cA 5, 3, .inr (.inr (.inr (.inr (va_up (va_up (va_up (fun _ => none) 0 (some z0)) 1 (some z1)) 2 (some z2))))))) := by rw [← ew_52]; exact mw_self
    have T62 : ∀ (y : Nat) (e9 : va_E), w y = some e9 → y ≠ a → y ≠ hq → w_52 y = some e9 := fun y e9 hy h1 h2 => by rw [← ew_52, mw_ne h2]; exact T56 y e9 hy h1 h2
    have T63 : ∀ (y : Nat) (e9 : va_E), w_11 y = some e9 → y ≠ a → y ≠ hq → w_52 y = some e9 := fun y e9 hy h1 h2 => by rw [← ew_52, mw_ne h2]; exact T57 y e9 hy h1 h2
    have T64 : ∀ (y : Nat) (e9 : va_E), w_29 y = some e9 → y ≠ a → y ≠ hq → w_52 y = some e9 := fun y e9 hy h1 h2 => by rw [← ew_52, mw_ne h2]; exact T58 y e9 hy h1 h2
    have T65 : ∀ (y : Nat) (e9 : va_E), w_40 y = some e9 → y ≠ a → y ≠ hq → w_52 y = some e9 := fun y e9 hy h1 h2 => by rw [← ew_52, mw_ne h2]; exact T59 y e9 hy h1 h2
    have T66 : ∀ (y : Nat) (e9 : va_E), w_51 y = some e9 → y ≠ a → y ≠ hq → w_52 y = some e9 := fun y e9 hy h1 h2 => by rw [← ew_52, mw_ne h2]; exact T61 y e9 hy h1 h2
    have R67 : ∀ y, y ≠ a → y ≠ hf → ¬ (SS hc hu gc (Lc x)) y → y ≠ hq → ¬ (SQ z0 hp0 hn0 hr0 gq0 uq0) y → ¬ (SQ z1 hp1 hn1 hr1 gq1 uq1) y → ¬ (SQ z2 hp2 hn2 hr2 gq2 uq2) y → w_52 y = w y := fun y q0 q1 q2 q3 q4 q5 q6 => by rw [← ew_52, mw_ne q3]; exact R60 y q0 q1 q2 q3 q4 q5 q6
    refine lv_iinc (v := ((0 + 1) + 1) + 1) (lv' := [(2, .int (((0 + 1) + 1) + 1)), (0, .ref a), (1, .int x)]) hx hb d_D_init_84 hl (k := 0) rfl rfl (by decide) rfl (fun ls hl => ?_)
    refine lv_goto (tgt := 66) hx hb d_D_init_87 (by decide) ?_
    refine lv_iload_n hx hb d_D_init_66 rfl (lv_at hl 0 rfl) ?_
    refine lv_iconst (v := 3) hx hb d_D_init_67 (by decide) ?_
    refine lv_icmp_ge (tgt := 90) hx hb d_D_init_68 (by decide) (fun c_56 => ?_) (fun c_56 => absurd (by decide) c_56)
    refine lv_aload_n hx hb d_D_init_90 rfl (lv_at hl 1 rfl) ?_
    refine lv_ldc2 (v := NN) hx hb G.1.2.2.2.1 (G.1.2.2.2.2 _ (tb_c k_16)) d_D_init_91 ?_
    refine mx_put G h f_54 rfl 5 (by decide) (tb_in in_D) t_D t_D_ok n_D (tb_c k_122) rfl rfl rfl rfl rfl (Nat.le_of_ble_eq_true rfl) d_D_init_94 (fun H locs h => ?_)
    have h : mw_H n0 D cl s (mw_up w_52 a (.inr (0, [.ref hf, .ref hc, .ref hq, .int 0, .int 0, .long NN, .int 0, .int 0, .int 0]))) H _ := h
    obtain ⟨w_57, ew_57⟩ : ∃ xx : mw, mw_up w_52 a (.inr (0, [.ref hf, .ref hc, .ref hq, .int 0, .int 0, .long NN, .int 0, .int 0, .int 0])) = xx := ⟨_, rfl⟩
    rw [ew_57] at h
    have f_58 : w_57 hf = some (longs cA 24 (filL 24)) := by rw [← ew_57, mw_ne (mw_apart f_53 f_54 (by simp))]; exact f_53
    have f_59 : w_57 hq = some (.inl (cA 5, 3, .inr (.inr (.inr (.inr (va_up (va_up (va_up (fun _ => none) 0 (some z0)) 1 (some z1)) 2 (some z2))))))) := by rw [← ew_57, mw_ne (mw_apart f_55 f_54 (by simp))]; exact f_55
    have f_60 : w_57 a = some (.inr (0, [.ref hf, .ref hc, .ref hq, .int 0, .int 0, .long NN, .int 0, .int 0, .int 0])) := by rw [← ew_57]; exact mw_self
    have T68 : ∀ (y : Nat) (e9 : va_E), w y = some e9 → y ≠ a → y ≠ hq → w_57 y = some e9 := fun y e9 hy h1 h2 => by rw [← ew_57, mw_ne h1]; exact T62 y e9 hy h1 h2
    have T69 : ∀ (y : Nat) (e9 : va_E), w_11 y = some e9 → y ≠ a → y ≠ hq → w_57 y = some e9 := fun y e9 hy h1 h2 => by rw [← ew_57, mw_ne h1]; exact T63 y e9 hy h1 h2
    have T70 : ∀ (y : Nat) (e9 : va_E), w_29 y = some e9 → y ≠ a → y ≠ hq → w_57 y = some e9 := fun y e9 hy h1 h2 => by rw [← ew_57, mw_ne h1]; exact T64 y e9 hy h1 h2
    have T71 : ∀ (y : Nat) (e9 : va_E), w_40 y = some e9 → y ≠ a → y ≠ hq → w_57 y = some e9 := fun y e9 hy h1 h2 => by rw [← ew_57, mw_ne h1]; exact T65 y e9 hy h1 h2
    have T72 : ∀ (y : Nat) (e9 : va_E), w_51 y = some e9 → y ≠ a → y ≠ hq → w_57 y = some e9 := fun y e9 hy h1 h2 => by rw [← ew_57, mw_ne h1]; exact T66 y e9 hy h1 h2
    have R73 : ∀ y, y ≠ a → y ≠ hf → ¬ (SS hc hu gc (Lc x)) y → y ≠ hq → ¬ (SQ z0 hp0 hn0 hr0 gq0 uq0) y → ¬ (SQ z1 hp1 hn1 hr1 gq1 uq1) y → ¬ (SQ z2 hp2 hn2 hr2 gq2 uq2) y → w_57 y = w y := fun y q0 q1 q2 q3 q4 q5 q6 => by rw [← ew_57, mw_ne q0]; exact R67 y q0 q1 q2 q3 q4 q5 q6
    have cA0 : ∀ y, (SS hc hu gc (Lc x)) y → y ≠ a ∧ y ≠ hf ∧ y ≠ hq := fun y hy => ⟨none_ne (frC y hy) hA, none_ne (frC y hy) hF, hCq y hy⟩
    have cQ0 : ∀ y, (SQ z0 hp0 hn0 hr0 gq0 uq0) y → y ≠ a ∧ y ≠ hf ∧ y ≠ hq := fun y hy => ⟨none_ne (fr0 y hy) f_22, none_ne (fr0 y hy) f_20, none_ne (fr0 y hy) f_21⟩
    have dC0 : ∀ y, (SQ z0 hp0 hn0 hr0 gq0 uq0) y → ¬ (SS hc hu gc (Lc x)) y := fun y hy hc9 => by
      cases hh : w_11 y with
      | none => exact hCl y hc9 hh
      | some e9 => have := T15 y e9 hh (cA0 y hc9).1 (cA0 y hc9).2.2; rw [fr0 y hy] at this; cases this
    have cQ1 : ∀ y, (SQ z1 hp1 hn1 hr1 gq1 uq1) y → y ≠ a ∧ y ≠ hf ∧ y ≠ hq := fun y hy => ⟨none_ne (fr1 y hy) f_32, none_ne (fr1 y hy) f_31, none_ne (fr1 y hy) f_33⟩
    have dC1 : ∀ y, (SQ z1 hp1 hn1 hr1 gq1 uq1) y → ¬ (SS hc hu gc (Lc x)) y := fun y hy hc9 => by
      cases hh : w_11 y with
      | none => exact hCl y hc9 hh
      | some e9 => have := T28 y e9 hh (cA0 y hc9).1 (cA0 y hc9).2.2; rw [fr1 y hy] at this; cases this
    have d1_0 : ∀ y, (SQ z1 hp1 hn1 hr1 gq1 uq1) y → ¬ (SQ z0 hp0 hn0 hr0 gq0 uq0) y := fun y hy hc9 => by
      cases hh : w_29 y with
      | none => exact hlv0 y hc9 hh
      | some e9 => have := T29 y e9 hh (cQ0 y hc9).1 (cQ0 y hc9).2.2; rw [fr1 y hy] at this; cases this
    have cQ2 : ∀ y, (SQ z2 hp2 hn2 hr2 gq2 uq2) y → y ≠ a ∧ y ≠ hf ∧ y ≠ hq := fun y hy => ⟨none_ne (fr2 y hy) f_43, none_ne (fr2 y hy) f_42, none_ne (fr2 y hy) f_44⟩
    have dC2 : ∀ y, (SQ z2 hp2 hn2 hr2 gq2 uq2) y → ¬ (SS hc hu gc (Lc x)) y := fun y hy hc9 => by
      cases hh : w_11 y with
      | none => exact hCl y hc9 hh
      | some e9 => have := T44 y e9 hh (cA0 y hc9).1 (cA0 y hc9).2.2; rw [fr2 y hy] at this; cases this
    have d2_0 : ∀ y, (SQ z2 hp2 hn2 hr2 gq2 uq2) y → ¬ (SQ z0 hp0 hn0 hr0 gq0 uq0) y := fun y hy hc9 => by
      cases hh : w_29 y with
      | none => exact hlv0 y hc9 hh
      | some e9 => have := T45 y e9 hh (cQ0 y hc9).1 (cQ0 y hc9).2.2; rw [fr2 y hy] at this; cases this
    have d2_1 : ∀ y, (SQ z2 hp2 hn2 hr2 gq2 uq2) y → ¬ (SQ z1 hp1 hn1 hr1 gq1 uq1) y := fun y hy hc9 => by
      cases hh : w_40 y with
      | none => exact hlv1 y hc9 hh
      | some e9 => have := T46 y e9 hh (cQ1 y hc9).1 (cQ1 y hc9).2.2; rw [fr2 y hy] at this; cases this
    classical
    obtain ⟨ρ, hρ⟩ : ∃ ρ : Nat → Nat, ρ = (fun y => if y = a ∨ y = hf ∨ y = hq then 5 else if (SS hc hu gc (Lc x)) y then 1 else if (SQ z0 hp0 hn0 hr0 gq0 uq0) y then 2 else if (SQ z1 hp1 hn1 hr1 gq1 uq1) y then 3 else if (SQ z2 hp2 hn2 hr2 gq2 uq2) y then 4 else 0) := ⟨_, rfl⟩
    have p5 : ∀ y, (y = a ∨ y = hf ∨ y = hq) → ρ y = 5 := fun y hy => by rw [hρ]; exact if_pos hy
    have p1 : ∀ y, (SS hc hu gc (Lc x)) y → ρ y = 1 := fun y hy => by rw [hρ]; show (if y = a ∨ y = hf ∨ y = hq then 5 else _) = 1; rw [if_neg (fun z => z.elim (cA0 y hy).1 (fun z => z.elim (cA0 y hy).2.1 (cA0 y hy).2.2)), if_pos hy]
    have p2 : ∀ y, (SQ z0 hp0 hn0 hr0 gq0 uq0) y → ρ y = 2 := fun y hy => by rw [hρ]; show (if y = a ∨ y = hf ∨ y = hq then 5 else _) = 2; rw [if_neg (fun z => z.elim (cQ0 y hy).1 (fun z => z.elim (cQ0 y hy).2.1 (cQ0 y hy).2.2)), if_neg (dC0 y hy), if_pos hy]
    have p3 : ∀ y, (SQ z1 hp1 hn1 hr1 gq1 uq1) y → ρ y = 3 := fun y hy => by rw [hρ]; show (if y = a ∨ y = hf ∨ y = hq then 5 else _) = 3; rw [if_neg (fun z => z.elim (cQ1 y hy).1 (fun z => z.elim (cQ1 y hy).2.1 (cQ1 y hy).2.2)), if_neg (dC1 y hy), if_neg (d1_0 y hy), if_pos hy]
    have p4 : ∀ y, (SQ z2 hp2 hn2 hr2 gq2 uq2) y → ρ y = 4 := fun y hy => by rw [hρ]; show (if y = a ∨ y = hf ∨ y = hq then 5 else _) = 4; rw [if_neg (fun z => z.elim (cQ2 y hy).1 (fun z => z.elim (cQ2 y hy).2.1 (cQ2 y hy).2.2)), if_neg (dC2 y hy), if_neg (d2_0 y hy), if_neg (d2_1 y hy), if_pos hy]
    have pr : ∀ y, RG ρ y → (y = a ∨ y = hf ∨ y = hq) ∨ (SS hc hu gc (Lc x)) y ∨ (SQ z0 hp0 hn0 hr0 gq0 uq0) y ∨ (SQ z1 hp1 hn1 hr1 gq1 uq1) y ∨ (SQ z2 hp2 hn2 hr2 gq2 uq2) y := fun y hy => by
      by_cases b1 : y = a ∨ y = hf ∨ y = hq
      · exact Or.inl b1
      · by_cases b2 : (SS hc hu gc (Lc x)) y
        · exact Or.inr (Or.inl b2)
        · by_cases b3 : (SQ z0 hp0 hn0 hr0 gq0 uq0) y
          · exact Or.inr (Or.inr (Or.inl b3))
          · by_cases b4 : (SQ z1 hp1 hn1 hr1 gq1 uq1) y
            · exact Or.inr (Or.inr (Or.inr (Or.inl b4)))
            · by_cases b5 : (SQ z2 hp2 hn2 hr2 gq2 uq2) y
              · exact Or.inr (Or.inr (Or.inr (Or.inr b5)))
              · exfalso
                have z := hy.1
                rw [hρ] at z
                simp only [if_neg b1, if_neg b2, if_neg b3, if_neg b4, if_neg b5] at z
                omega
    have eC : ∀ y, (SS hc hu gc (Lc x)) y → w_57 y = w_11 y := fun y hy => by
      cases hh : w_11 y with
      | none => exact absurd hh (hCl y hy)
      | some e9 => exact T69 y e9 hh (cA0 y hy).1 (cA0 y hy).2.2
    have eQ0 : ∀ y, (SQ z0 hp0 hn0 hr0 gq0 uq0) y → w_57 y = w_29 y := fun y hy => by
      cases hh : w_29 y with
      | none => exact absurd hh (hlv0 y hy)
      | some e9 => exact T70 y e9 hh (cQ0 y hy).1 (cQ0 y hy).2.2
    have eQ1 : ∀ y, (SQ z1 hp1 hn1 hr1 gq1 uq1) y → w_57 y = w_40 y := fun y hy => by
      cases hh : w_40 y with
      | none => exact absurd hh (hlv1 y hy)
      | some e9 => exact T71 y e9 hh (cQ1 y hy).1 (cQ1 y hy).2.2
    have eQ2 : ∀ y, (SQ z2 hp2 hn2 hr2 gq2 uq2) y → w_57 y = w_51 y := fun y hy => by
      cases hh : w_51 y with
      | none => exact absurd hh (hlv2 y hy)
      | some e9 => exact T72 y e9 hh (cQ2 y hy).1 (cQ2 y hy).2.2
    have hCA : CA cA w_57 (fun y => ρ y = 1) hc hu (Lc x) [] := ((hCX.frame eC).mono p1).ca
    have hDC : DC cA w_57 (fun y => ρ y = 1) a hf hc hu hq (Lc x) 0 0 NN (filL 24, [], 0, 0, 0) := ⟨f_60, f_58, hCA, by show ¬ ρ a = 1; rw [p5 a (Or.inl rfl)]; decide, by show ¬ ρ hf = 1; rw [p5 hf (Or.inr (Or.inl rfl))]; decide, fun u hu9 => by simp at hu9⟩
    have hQ0 : QA cA w_57 (fun y => ρ y = 2 + 0) z0 hp0 hn0 hr0 [] [] := ⟨_, _, _, _, _, (hX0.frame eQ0).mono p2⟩
    have hQ1 : QA cA w_57 (fun y => ρ y = 2 + 1) z1 hp1 hn1 hr1 [] [] := ⟨_, _, _, _, _, (hX1.frame eQ1).mono p3⟩
    have hQ2 : QA cA w_57 (fun y => ρ y = 2 + 2) z2 hp2 hn2 hr2 [] [] := ⟨_, _, _, _, _, (hX2.frame eQ2).mono p4⟩
    have hQ9 : ∀ i, i < 3 → QA cA w_57 (fun y => ρ y = 2 + i) ((fun i => ([a, hf, hc, hu, hq, z0, z1, z2, hp0, hp1, hp2, hn0, hn1, hn2, hr0, hr1, hr2] : List Nat).getD i 0) (5 + i)) ((fun i => ([a, hf, hc, hu, hq, z0, z1, z2, hp0, hp1, hp2, hn0, hn1, hn2, hr0, hr1, hr2] : List Nat).getD i 0) (8 + i)) ((fun i => ([a, hf, hc, hu, hq, z0, z1, z2, hp0, hp1, hp2, hn0, hn1, hn2, hr0, hr1, hr2] : List Nat).getD i 0) (11 + i)) ((fun i => ([a, hf, hc, hu, hq, z0, z1, z2, hp0, hp1, hp2, hn0, hn1, hn2, hr0, hr1, hr2] : List Nat).getD i 0) (14 + i)) [] [] := by
      intro i hi
      rcases (show i = 0 ∨ i = 1 ∨ i = 2 by omega) with rfl | rfl | rfl
      · exact hQ0
      · exact hQ1
      · exact hQ2
    have hDR : DR cA w_57 ρ (fun i => ([a, hf, hc, hu, hq, z0, z1, z2, hp0, hp1, hp2, hn0, hn1, hn2, hr0, hr1, hr2] : List Nat).getD i 0) (Lc x) g0S := ⟨0, hDC, ⟨_, f_59, fun i hi => by rcases (show i = 0 ∨ i = 1 ∨ i = 2 by omega) with rfl | rfl | rfl <;> rfl⟩, hQ9, p5 a (Or.inl rfl), p5 hf (Or.inr (Or.inl rfl)), p5 hq (Or.inr (Or.inr rfl)), hL.1, fun i hi c9 hc9 => by simp [g0S] at hc9⟩
    refine W.widen (k := 46) (n := 194) (by omega) (by omega) ?_
    refine mx_retv G h hrt hlocks d_D_init_97 ⟨ρ, (fun i => ([a, hf, hc, hu, hq, z0, z1, z2, hp0, hp1, hp2, hn0, hn1, hn2, hr0, hr1, hr2] : List Nat).getD i 0), rfl, hDR, fun y hy => ?_, fun y hy => ?_, fun y hy => ?_⟩
    · exact R73 y (fun z => hy ⟨by rw [p5 y (Or.inl z)]; decide, by rw [p5 y (Or.inl z)]; decide⟩) (fun z => hy ⟨by rw [p5 y (Or.inr (Or.inl z))]; decide, by rw [p5 y (Or.inr (Or.inl z))]; decide⟩) (fun z => hy ⟨by rw [p1 y z]; decide, by rw [p1 y z]; decide⟩) (fun z => hy ⟨by rw [p5 y (Or.inr (Or.inr z))]; decide, by rw [p5 y (Or.inr (Or.inr z))]; decide⟩) (fun z => hy ⟨by rw [p2 y z]; decide, by rw [p2 y z]; decide⟩) (fun z => hy ⟨by rw [p3 y z]; decide, by rw [p3 y z]; decide⟩) (fun z => hy ⟨by rw [p4 y z]; decide, by rw [p4 y z]; decide⟩)
    · rcases pr y hy with (z | z | z) | z | z | z | z
      · exact Or.inl z
      · exact Or.inr (by rw [z]; exact hff)
      · exact Or.inr (by rw [z]; exact hqw)
      · exact Or.inr (noneB (fun e9 q9 => TB0 y e9 q9 (cA0 y z).1) (frC y z))
      · exact Or.inr (noneB (fun e9 q9 => T14 y e9 q9 (cQ0 y z).1 (cQ0 y z).2.2) (fr0 y z))
      · exact Or.inr (noneB (fun e9 q9 => T27 y e9 q9 (cQ1 y z).1 (cQ1 y z).2.2) (fr1 y z))
      · exact Or.inr (noneB (fun e9 q9 => T43 y e9 q9 (cQ2 y z).1 (cQ2 y z).2.2) (fr2 y z))
    · rcases pr y hy with (z | z | z) | z | z | z | z
      · rw [z, f_60]; simp
      · rw [z, f_58]; simp
      · rw [z, f_59]; simp
      · rw [eC y z]; exact hCl y z
      · rw [eQ0 y z]; exact hlv0 y z
      · rw [eQ1 y z]; exact hlv1 y z
      · rw [eQ2 y z]; exact hlv2 y z
  have loop : ∀ (t i : Nat), i + t = 24 → ∀ (H : Heap) (locs : List Loc) (ls : Array Slot), mw_H n0 D cl s (mw_up w_4 hf (longs cA 24 (filL i))) H locs → lv_has ls 3 [(2, .int (nI i)), (0, .ref a), (1, .int x)] → W p l e { frames := 4, cells := 46, slots := 194, locals := 40 * 4 } s m ([.ref a, .int x] : List Value).toArray below meth c H locs 1 24 (MQ below (mw_Qv n0 D cl (fun w' => ∃ ρ k, k 0 = a ∧ DR cA w' ρ k (Lc x) g0S ∧ FR w w' (RG ρ) ∧ (∀ y, RG ρ y → y = a ∨ w y = none) ∧ ∀ y, RG ρ y → w' y ≠ none)) ([.ref a, .int x] : List Value).toArray s 46 194 (mw_A n0)) (F0 m 14 ls []) := by
    intro t
    induction t with
    | zero =>
      intro i hi H locs ls h hl
      have hi : i = 24 := hi
      obtain ⟨w_61, ew_61⟩ : ∃ xx : mw, mw_up w_4 hf (longs cA 24 (filL i)) = xx := ⟨_, rfl⟩
      rw [ew_61] at h
      have f_62 : w_61 a = some (.inr (0, [.ref hf, .null, .null, .int 0, .int 0, .long 0, .int 0, .int 0, .int 0])) := by rw [← ew_61]; rw [mw_ne haf]; exact f_6
      have f_63 : w_61 hf = some (longs cA 24 (filL i)) := by rw [← ew_61]; exact mw_self
      refine lv_iload_n hx hb d_D_init_14 rfl (lv_at hl 0 rfl) ?_
      refine lv_bipush (v := 24) hx hb d_D_init_15 (by decide) ?_
      refine lv_icmp_ge (tgt := 35) hx hb d_D_init_17 (by decide) (fun c_64 => ?_) (fun c_64 => ?_)
      · exact rest w_61 (by rw [← ew_61, hi]) H locs ls h (by rw [← hi]; exact hl)
      · exact absurd (by rw [hi]; decide) c_64
    | succ t ih =>
      intro i hi H locs ls h hl
      obtain ⟨w_65, ew_65⟩ : ∃ xx : mw, mw_up w_4 hf (longs cA 24 (filL i)) = xx := ⟨_, rfl⟩
      rw [ew_65] at h
      have f_66 : w_65 a = some (.inr (0, [.ref hf, .null, .null, .int 0, .int 0, .long 0, .int 0, .int 0, .int 0])) := by rw [← ew_65]; rw [mw_ne haf]; exact f_6
      have f_67 : w_65 hf = some (longs cA 24 (filL i)) := by rw [← ew_65]; exact mw_self
      refine lv_iload_n hx hb d_D_init_14 rfl (lv_at hl 0 rfl) ?_
      refine lv_bipush (v := 24) hx hb d_D_init_15 (by decide) ?_
      refine lv_icmp_ge (tgt := 35) hx hb d_D_init_17 (by decide) (fun c_68 => ?_) (fun c_68 => ?_)
      · exact absurd ((nI_leI (a := 24) (b := i) (by omega) (by omega)).mp c_68) (by omega)
      · refine lv_aload_n hx hb d_D_init_20 rfl (lv_at hl 1 rfl) ?_
        refine mx_get G h f_66 rfl 0 (by decide) (tb_in in_D) (tb_c k_117) rfl rfl d_D_init_21 ?_
        refine lv_iload_n hx hb d_D_init_24 rfl (lv_at hl 0 rfl) ?_
        refine lv_ldc2 (v := NN) hx hb G.1.2.2.2.1 (G.1.2.2.2.2 _ (tb_c k_16)) d_D_init_25 ?_
        refine ax_sl G h f_67 i rfl (by omega) (by decide) d_D_init_28 (fun H locs h => ?_)
        have h : mw_H n0 D cl s (mw_up w_65 hf (.inl (cA 1, 24, .inr (.inl (vp_updL (filL i) i NN))))) H _ := h
        obtain ⟨w_69, ew_69⟩ : ∃ xx : mw, mw_up w_65 hf (.inl (cA 1, 24, .inr (.inl (vp_updL (filL i) i NN)))) = xx := ⟨_, rfl⟩
        rw [ew_69] at h
        have f_70 : w_69 a = some (.inr (0, [.ref hf, .null, .null, .int 0, .int 0, .long 0, .int 0, .int 0, .int 0])) := by rw [← ew_69, mw_ne (mw_apart f_66 f_67 (by simp))]; exact f_66
        have f_71 : w_69 hf = some (.inl (cA 1, 24, .inr (.inl (vp_updL (filL i) i NN)))) := by rw [← ew_69]; exact mw_self
        refine lv_iinc (v := (nI i) + 1) (lv' := [(2, .int ((nI i) + 1)), (0, .ref a), (1, .int x)]) hx hb d_D_init_29 hl (k := 0) rfl rfl (by decide) rfl (fun ls hl => ?_)
        refine lv_goto (tgt := 14) hx hb d_D_init_32 (by decide) ?_
        rw [nI_1] at hl
        refine ih (i + 1) (by omega) H locs ls ?_ (lv_sub hl [0, 1, 2] rfl)
        rw [← filL_s, ← mw_uu (e := longs cA 24 (filL i)), ew_65, ew_69]
        exact h
  refine loop 24 0 (by omega) H _ ls ?_ (lv_sub hl [0, 1, 2] rfl)
  rw [filL_0, mw_id f_5]
  exact h
