theorem mw_fresh {w : mw} {a b : Nat} {e : va_E} (ha : w a = some e) (hb : w b = none) : a ≠ b := by
  intro z
  subst z
  rw [ha] at hb
  cases hb
abbrev SS (a hu : Nat) (g : Nat → Nat) (n : Nat) : Nat → Prop := fun x => x = a ∨ x = hu ∨ ∃ k, k < n ∧ x = g k
abbrev SQ (a hp hn hr : Nat) (g gu : Nat → Nat) : Nat → Prop := fun x => x = a ∨ x = hp ∨ x = hn ∨ x = hr ∨ ∃ k, k < 4 ∧ (x = g k ∨ x = gu k)
abbrev S4 (a hp : Nat) (g gu : Nat → Nat) (n : Nat) : Nat → Prop := fun x => x = a ∨ x = hp ∨ ∃ k, k < n ∧ (x = g k ∨ x = gu k)
theorem d_U_init_0 : decode b_U_init 0 = .ok (.aload_n 0, 1) := by decide +kernel
theorem d_U_init_1 : decode b_U_init 1 = .ok (.invokespecial 3, 3) := by decide +kernel
theorem d_U_init_4 : decode b_U_init 4 = .ok (.return_, 1) := by decide +kernel
theorem d_K_init_0 : decode b_K_init 0 = .ok (.aload_n 0, 1) := by decide +kernel
theorem d_K_init_1 : decode b_K_init 1 = .ok (.invokespecial 1, 3) := by decide +kernel
theorem d_K_init_4 : decode b_K_init 4 = .ok (.aload_n 0, 1) := by decide +kernel
theorem d_K_init_5 : decode b_K_init 5 = .ok (.new 7, 3) := by decide +kernel
theorem d_K_init_8 : decode b_K_init 8 = .ok (.dup, 1) := by decide +kernel
theorem d_K_init_9 : decode b_K_init 9 = .ok (.invokespecial 9, 3) := by decide +kernel
theorem d_K_init_12 : decode b_K_init 12 = .ok (.putfield 10, 3) := by decide +kernel
theorem d_K_init_15 : decode b_K_init 15 = .ok (.return_, 1) := by decide +kernel
theorem d_C_init_0 : decode b_C_init 0 = .ok (.aload_n 0, 1) := by decide +kernel
theorem d_C_init_1 : decode b_C_init 1 = .ok (.invokespecial 1, 3) := by decide +kernel
theorem d_C_init_4 : decode b_C_init 4 = .ok (.aload_n 0, 1) := by decide +kernel
theorem d_C_init_5 : decode b_C_init 5 = .ok (.iload_n 1, 1) := by decide +kernel
theorem d_C_init_6 : decode b_C_init 6 = .ok (.anewarray 7, 3) := by decide +kernel
theorem d_C_init_9 : decode b_C_init 9 = .ok (.putfield 9, 3) := by decide +kernel
theorem d_C_init_12 : decode b_C_init 12 = .ok (.iconst 0, 1) := by decide +kernel
theorem d_C_init_13 : decode b_C_init 13 = .ok (.istore_n 2, 1) := by decide +kernel
theorem d_C_init_14 : decode b_C_init 14 = .ok (.iload_n 2, 1) := by decide +kernel
theorem d_C_init_15 : decode b_C_init 15 = .ok (.iload_n 1, 1) := by decide +kernel
theorem d_C_init_16 : decode b_C_init 16 = .ok (.if_icmp .ge 22, 3) := by decide +kernel
theorem d_C_init_19 : decode b_C_init 19 = .ok (.aload_n 0, 1) := by decide +kernel
theorem d_C_init_20 : decode b_C_init 20 = .ok (.getfield 9, 3) := by decide +kernel
theorem d_C_init_23 : decode b_C_init 23 = .ok (.iload_n 2, 1) := by decide +kernel
theorem d_C_init_24 : decode b_C_init 24 = .ok (.new 7, 3) := by decide +kernel
theorem d_C_init_27 : decode b_C_init 27 = .ok (.dup, 1) := by decide +kernel
theorem d_C_init_28 : decode b_C_init 28 = .ok (.invokespecial 15, 3) := by decide +kernel
theorem d_C_init_31 : decode b_C_init 31 = .ok (.aastore, 1) := by decide +kernel
theorem d_C_init_32 : decode b_C_init 32 = .ok (.iinc 2 1, 3) := by decide +kernel
theorem d_C_init_35 : decode b_C_init 35 = .ok (.goto (-21), 3) := by decide +kernel
theorem d_C_init_38 : decode b_C_init 38 = .ok (.return_, 1) := by decide +kernel
theorem d_Q_init_0 : decode b_Q_init 0 = .ok (.aload_n 0, 1) := by decide +kernel
theorem d_Q_init_1 : decode b_Q_init 1 = .ok (.invokespecial 3, 3) := by decide +kernel
theorem d_Q_init_4 : decode b_Q_init 4 = .ok (.aload_n 0, 1) := by decide +kernel
theorem d_Q_init_5 : decode b_Q_init 5 = .ok (.iconst 4, 1) := by decide +kernel
theorem d_Q_init_6 : decode b_Q_init 6 = .ok (.anewarray 9, 3) := by decide +kernel
theorem d_Q_init_9 : decode b_Q_init 9 = .ok (.putfield 11, 3) := by decide +kernel
theorem d_Q_init_12 : decode b_Q_init 12 = .ok (.iconst 0, 1) := by decide +kernel
theorem d_Q_init_13 : decode b_Q_init 13 = .ok (.istore_n 1, 1) := by decide +kernel
theorem d_Q_init_14 : decode b_Q_init 14 = .ok (.iload_n 1, 1) := by decide +kernel
theorem d_Q_init_15 : decode b_Q_init 15 = .ok (.iconst 4, 1) := by decide +kernel
theorem d_Q_init_16 : decode b_Q_init 16 = .ok (.if_icmp .ge 22, 3) := by decide +kernel
theorem d_Q_init_19 : decode b_Q_init 19 = .ok (.aload_n 0, 1) := by decide +kernel
theorem d_Q_init_20 : decode b_Q_init 20 = .ok (.getfield 11, 3) := by decide +kernel
theorem d_Q_init_23 : decode b_Q_init 23 = .ok (.iload_n 1, 1) := by decide +kernel
theorem d_Q_init_24 : decode b_Q_init 24 = .ok (.new 9, 3) := by decide +kernel
theorem d_Q_init_27 : decode b_Q_init 27 = .ok (.dup, 1) := by decide +kernel
theorem d_Q_init_28 : decode b_Q_init 28 = .ok (.invokespecial 17, 3) := by decide +kernel
theorem d_Q_init_31 : decode b_Q_init 31 = .ok (.aastore, 1) := by decide +kernel
theorem d_Q_init_32 : decode b_Q_init 32 = .ok (.iinc 1 1, 3) := by decide +kernel
theorem d_Q_init_35 : decode b_Q_init 35 = .ok (.goto (-21), 3) := by decide +kernel
theorem d_Q_init_38 : decode b_Q_init 38 = .ok (.aload_n 0, 1) := by decide +kernel
theorem d_Q_init_39 : decode b_Q_init 39 = .ok (.iconst 4, 1) := by decide +kernel
theorem d_Q_init_40 : decode b_Q_init 40 = .ok (.newarray .int, 2) := by decide +kernel
theorem d_Q_init_42 : decode b_Q_init 42 = .ok (.putfield 18, 3) := by decide +kernel
theorem d_Q_init_45 : decode b_Q_init 45 = .ok (.aload_n 0, 1) := by decide +kernel
theorem d_Q_init_46 : decode b_Q_init 46 = .ok (.iconst 4, 1) := by decide +kernel
theorem d_Q_init_47 : decode b_Q_init 47 = .ok (.newarray .long, 2) := by decide +kernel
theorem d_Q_init_49 : decode b_Q_init 49 = .ok (.putfield 22, 3) := by decide +kernel
theorem d_Q_init_52 : decode b_Q_init 52 = .ok (.return_, 1) := by decide +kernel
set_option maxHeartbeats 4000000 in
set_option maxRecDepth 100000 in
theorem m_U_init {l : Launch} {D : va_G} {cA : Nat → ClassId} {n0 : Nat} {w : mw} {a : Nat} :
    Mv l D cA n0 y_U_init c_U_init (rmd 1) [.ref a] w (fun w' => w' = w) := by
  refine mw_met (cc := b_U_init) (maxL := 1) (ret := (none)) (by decide) rfl (Nat.le_of_ble_eq_true rfl) ?_
  intro p e s m below meth c ls G hrt hlocks hname h hl
  have G : mw_G p m c b_U_init 1 s _ (c_U_init :: TB) R_U D cl (tys cA) n0 := G
  have hx := G.1.1
  have hb := G.1.2.1
  have hl : lv_has ls 1 [(0, .ref a)] := hl
  refine lv_aload_n hx hb d_U_init_0 rfl (lv_at hl 0 rfl) ?_
  refine W.objInit hx hb G.1.2.2.2.1 (G.1.2.2.2.2 _ (tb_c k_35)) (G.1.2.2.2.2 _ (tb_c k_14)) (G.1.2.2.2.2 _ (tb_c k_15)) rfl (by rw [G.1.2.2.1]; exact hl.1) rfl d_U_init_1 (Nat.le_of_ble_eq_true rfl) (Nat.le_of_ble_eq_true rfl) ?_
  refine W.eq (g2 := F0 m 4 ls []) rfl ?_
  exact mx_retv G h hrt hlocks d_U_init_4 rfl
set_option maxHeartbeats 4000000 in
set_option maxRecDepth 100000 in
theorem m_K_init {l : Launch} {D : va_G} {cA : Nat → ClassId} {n0 : Nat} {w : mw} {a : Nat} (ha : w a = some (.inr (2, [.null, .int 0, .int 0]))) :
    Mc l D cA n0 y_K_init c_K_init 2 1 4 [.ref a] w (fun w' => ∃ u, w u = none ∧ w' = mw_up (mw_up w u (ucell (0, 0, 0, 0))) a (kcell u 0 0)) := by
  refine mw_met (cc := b_K_init) (maxL := 1) (ret := (none)) (by decide) rfl (Nat.le_of_ble_eq_true rfl) ?_
  intro p e s m below meth c ls G hrt hlocks hname h hl
  have G : mw_G p m c b_K_init 1 s _ (c_K_init :: TB) R_K D cl (tys cA) n0 := G
  have hx := G.1.1
  have hb := G.1.2.1
  have hl : lv_has ls 1 [(0, .ref a)] := hl
  refine lv_aload_n hx hb d_K_init_0 rfl (lv_at hl 0 rfl) ?_
  refine W.objInit hx hb G.1.2.2.2.1 (G.1.2.2.2.2 _ (tb_c k_79)) (G.1.2.2.2.2 _ (tb_c k_14)) (G.1.2.2.2.2 _ (tb_c k_15)) rfl (by rw [G.1.2.2.1]; exact hl.1) rfl d_K_init_1 (Nat.le_of_ble_eq_true rfl) (Nat.le_of_ble_eq_true rfl) ?_
  refine W.eq (g2 := F0 m 4 ls []) rfl ?_
  refine lv_aload_n hx hb d_K_init_4 rfl (lv_at hl 0 rfl) ?_
  refine mx_new (ci := 4) (fs := [.int 0, .int 0, .int 0, .int 0]) G h rfl (tb_in in_U) t_U t_U_ok (tb_c k_80) (tb_c k_31) (tb_c k_4) (fun j9 hj9 => by rcases (show j9 = 0 ∨ j9 = 1 ∨ j9 = 2 ∨ j9 = 3 by omega) with rfl | rfl | rfl | rfl <;> rfl) (by show _ ≤ 1; omega) (by show _ ≤ 4; omega) d_K_init_5 (fun u H hun h => ?_)
  have h : mw_H n0 D cl s (mw_up w u (.inr (4, [.int 0, .int 0, .int 0, .int 0]))) H _ := h
  obtain ⟨w_1, ew_1⟩ : ∃ xx : mw, mw_up w u (.inr (4, [.int 0, .int 0, .int 0, .int 0])) = xx := ⟨_, rfl⟩
  rw [ew_1] at h
  have f_2 : w_1 a = some (.inr (2, [.null, .int 0, .int 0])) := by rw [← ew_1, mw_ne (mw_fresh ha hun)]; exact ha
  have f_3 : w_1 u = some (.inr (4, [.int 0, .int 0, .int 0, .int 0])) := by rw [← ew_1]; exact mw_self
  refine lv_dup hx hb d_K_init_8 rfl ?_
  refine mx_cv (cIN (As := []) (rest := [.ref u, .ref a]) (host := "QueueDrive") G h (m_U_init (a := u)) (by decide) k_33 k_4 k_34 rfl hd_U_init rfl rfl ⟨Nat.le_of_ble_eq_true rfl, Nat.le_of_ble_eq_true rfl⟩ rfl hl.1 rfl (Nat.le_of_ble_eq_true rfl) d_K_init_9 ⟨by show _ ≤ 1; omega, by show _ ≤ 4; omega⟩) h (fun w_4 H locs h hcp => ?_)
  rw [hcp] at h
  refine mx_putF G h hname f_2 rfl 0 (by decide) (tb_in in_K) t_K t_K_ok n_K (tb_c k_82) rfl rfl rfl rfl rfl rfl (Nat.le_of_ble_eq_true rfl) d_K_init_12 (fun H locs h => ?_)
  have h : mw_H n0 D cl s (mw_up w_1 a (.inr (2, [.ref u, .int 0, .int 0]))) H _ := h
  obtain ⟨w_5, ew_5⟩ : ∃ xx : mw, mw_up w_1 a (.inr (2, [.ref u, .int 0, .int 0])) = xx := ⟨_, rfl⟩
  rw [ew_5] at h
  have f_6 : w_5 u = some (.inr (4, [.int 0, .int 0, .int 0, .int 0])) := by rw [← ew_5, mw_ne (mw_apart f_3 f_2 (by simp))]; exact f_3
  have f_7 : w_5 a = some (.inr (2, [.ref u, .int 0, .int 0])) := by rw [← ew_5]; exact mw_self
  refine W.widen (k := 1) (n := 4) (by omega) (by omega) ?_
  exact mx_retv G h hrt hlocks d_K_init_15 (⟨u, hun, by rw [← ew_5, ← ew_1]⟩)
set_option maxHeartbeats 4000000 in
set_option maxRecDepth 100000 in
theorem m_C_init {l : Launch} {D : va_G} {cA : Nat → ClassId} {n0 : Nat} {w : mw} {a L : Nat} (ha : w a = some (.inr (1, [.null, .int 0]))) (hL1 : 1 ≤ L) (hL : L ≤ 6) {x : Int32} (hxL : x = nI L) :
    Mc l D cA n0 y_C_init c_C_init 2 7 30 [.ref a, .int x] w (fun w' => ∃ hu f g, CAx cA w' (SS a hu g L) a hu L [] f g ∧ FR w w' (SS a hu g L) ∧ w hu = none ∧ ∀ k, k < L → w (g k) = none) := by
  refine mw_met (cc := b_C_init) (maxL := 3) (ret := (none)) (by decide) rfl (Nat.le_of_ble_eq_true rfl) ?_
  intro p e s m below meth c ls G hrt hlocks hname h hl
  have G : mw_G p m c b_C_init 3 s _ (c_C_init :: TB) R_C D cl (tys cA) n0 := G
  have hx := G.1.1
  have hb := G.1.2.1
  have hl : lv_has ls 3 [(0, .ref a), (1, .int x)] := hl
  subst hxL
  refine lv_aload_n hx hb d_C_init_0 rfl (lv_at hl 0 rfl) ?_
  refine W.objInit hx hb G.1.2.2.2.1 (G.1.2.2.2.2 _ (tb_c k_28)) (G.1.2.2.2.2 _ (tb_c k_14)) (G.1.2.2.2.2 _ (tb_c k_15)) rfl (by rw [G.1.2.2.1]; exact hl.1) rfl d_C_init_1 (Nat.le_of_ble_eq_true rfl) (Nat.le_of_ble_eq_true rfl) ?_
  refine W.eq (g2 := F0 m 4 ls []) rfl ?_
  refine lv_aload_n hx hb d_C_init_4 rfl (lv_at hl 0 rfl) ?_
  refine lv_iload_n hx hb d_C_init_5 rfl (lv_at hl 1 rfl) ?_
  refine mx_newq G h (tb_c k_29) (by decide) 3 rfl (N' := L) (nI_pos (by omega)) (nI_clamp (by omega)) (by omega) (by show _ ≤ 7; omega) (by show _ ≤ 30; omega) d_C_init_6 (fun hu H huf h => ?_)
  have h : mw_H n0 D cl s (mw_up w hu (refs cA 3 L (fun _ => none))) H _ := h
  obtain ⟨w_1, ew_1⟩ : ∃ xx : mw, mw_up w hu (refs cA 3 L (fun _ => none)) = xx := ⟨_, rfl⟩
  rw [ew_1] at h
  have f_2 : w_1 a = some (.inr (1, [.null, .int 0])) := by rw [← ew_1, mw_ne (mw_fresh ha huf)]; exact ha
  have f_3 : w_1 hu = some (refs cA 3 L (fun _ => none)) := by rw [← ew_1]; exact mw_self
  refine mx_putF G h hname f_2 rfl 0 (by decide) (tb_in in_C) t_C t_C_ok n_C (tb_c k_57) rfl rfl rfl rfl rfl rfl (Nat.le_of_ble_eq_true rfl) d_C_init_9 (fun H locs h => ?_)
  have h : mw_H n0 D cl s (mw_up w_1 a (.inr (1, [.ref hu, .int 0]))) H _ := h
  obtain ⟨w_4, ew_4⟩ : ∃ xx : mw, mw_up w_1 a (.inr (1, [.ref hu, .int 0])) = xx := ⟨_, rfl⟩
  rw [ew_4] at h
  have f_5 : w_4 hu = some (refs cA 3 L (fun _ => none)) := by rw [← ew_4, mw_ne (mw_apart f_3 f_2 (by simp))]; exact f_3
  have f_6 : w_4 a = some (.inr (1, [.ref hu, .int 0])) := by rw [← ew_4]; exact mw_self
  refine lv_iconst (v := 0) hx hb d_C_init_12 (by decide) ?_
  refine lv_istore_n (lv' := [(2, .int 0), (0, .ref a), (1, .int (nI L))]) hx hb d_C_init_13 rfl hl (by decide) rfl (fun ls hl => ?_)
  have loop : ∀ (t i : Nat), i + t = L → ∀ (f : Nat → Option Nat) (g : Nat → Nat) (v : mw), v a = some (ccell hu 0) → v hu = some (refs cA 3 L f) → (∀ k, k < i → f k = some (g k) ∧ v (g k) = some (ucell (0, 0, 0, 0)) ∧ w (g k) = none) → (∀ k k2, k < i → k2 < i → g k = g k2 → k = k2) → FR w v (SS a hu g i) → ∀ (H : Heap) (locs : List Loc) (ls : Array Slot), mw_H n0 D cl s v H locs → lv_has ls 3 [(2, .int (nI i)), (0, .ref a), (1, .int (nI L))] → W p l e { frames := 2, cells := 7, slots := 30, locals := 40 * 2 } s m ([.ref a, .int (nI L)] : List Value).toArray below meth c H locs (1 + i) (L + 4 * i) (MQ below (mw_Qv n0 D cl (fun w' => ∃ hu f g, CAx cA w' (SS a hu g L) a hu L [] f g ∧ FR w w' (SS a hu g L) ∧ w hu = none ∧ ∀ k, k < L → w (g k) = none)) ([.ref a, .int (nI L)] : List Value).toArray s 7 30 (mw_A n0)) (F0 m 14 ls []) := by
    intro t
    induction t with
    | zero =>
      intro i hi f g v va vu vg vi vf H locs ls h hl
      have hi : i = L := hi
      rw [hi] at vf vg vi
      refine lv_iload_n hx hb d_C_init_14 rfl (lv_at hl 0 rfl) ?_
      refine lv_iload_n hx hb d_C_init_15 rfl (lv_at hl 2 rfl) ?_
      refine lv_icmp_ge (tgt := 38) hx hb d_C_init_16 (by decide) (fun c_7 => ?_) (fun c_7 => ?_)
      · refine W.widen (k := 7) (n := 30) (by omega) (by omega) ?_
        exact mx_retv G h hrt hlocks d_C_init_38 (⟨hu, f, g, ⟨va, vu, Nat.zero_le _, hL, fun k hk => ⟨(vg k hk).1, Or.inr (Or.inr ⟨k, hk, rfl⟩), _, (vg k hk).2.1⟩, fun k u hk => by simp at hk, vi, Or.inl rfl, Or.inr (Or.inl rfl)⟩, vf, huf, fun k hk => (vg k hk).2.2⟩)
      · exact absurd (by rw [hi]; exact Int32.le_refl _) c_7
    | succ t ih =>
      intro i hi f g v va vu vg vi vf H locs ls h hl
      refine lv_iload_n hx hb d_C_init_14 rfl (lv_at hl 0 rfl) ?_
      refine lv_iload_n hx hb d_C_init_15 rfl (lv_at hl 2 rfl) ?_
      refine lv_icmp_ge (tgt := 38) hx hb d_C_init_16 (by decide) (fun c_8 => ?_) (fun c_8 => ?_)
      · exact absurd ((nI_leI (by omega) (by omega)).mp c_8) (by omega)
      · refine lv_aload_n hx hb d_C_init_19 rfl (lv_at hl 1 rfl) ?_
        refine mx_get G h va rfl 0 (by decide) (tb_in in_C) (tb_c k_57) rfl rfl d_C_init_20 ?_
        refine lv_iload_n hx hb d_C_init_23 rfl (lv_at hl 0 rfl) ?_
        refine mx_new (ci := 4) (fs := [.int 0, .int 0, .int 0, .int 0]) G h rfl (tb_in in_U) t_U t_U_ok (tb_c k_29) (tb_c k_31) (tb_c k_4) (fun j9 hj9 => by rcases (show j9 = 0 ∨ j9 = 1 ∨ j9 = 2 ∨ j9 = 3 by omega) with rfl | rfl | rfl | rfl <;> rfl) (by show _ ≤ 7; omega) (by show _ ≤ 30; omega) d_C_init_24 (fun z H hzf h => ?_)
        have h : mw_H n0 D cl s (mw_up v z (.inr (4, [.int 0, .int 0, .int 0, .int 0]))) H _ := h
        obtain ⟨w_9, ew_9⟩ : ∃ xx : mw, mw_up v z (.inr (4, [.int 0, .int 0, .int 0, .int 0])) = xx := ⟨_, rfl⟩
        rw [ew_9] at h
        have f_10 : w_9 a = some (ccell hu 0) := by rw [← ew_9, mw_ne (mw_fresh va hzf)]; exact va
        have f_11 : w_9 hu = some (refs cA 3 L f) := by rw [← ew_9, mw_ne (mw_fresh vu hzf)]; exact vu
        have f_12 : w_9 z = some (.inr (4, [.int 0, .int 0, .int 0, .int 0])) := by rw [← ew_9]; exact mw_self
        refine lv_dup hx hb d_C_init_27 rfl ?_
        refine mx_cv (cIN (As := []) (rest := [.ref z, .int (nI i), .ref hu]) (host := "QueueDrive") G h (m_U_init (a := z)) (by decide) k_33 k_4 k_34 rfl hd_U_init rfl rfl ⟨Nat.le_of_ble_eq_true rfl, Nat.le_of_ble_eq_true rfl⟩ rfl hl.1 rfl (Nat.le_of_ble_eq_true rfl) d_C_init_28 ⟨by show _ ≤ 7; omega, by show _ ≤ 30; omega⟩) h (fun w_13 H locs h hcp => ?_)
        rw [hcp] at h
        refine ax_sa G h 3 4 f_11 rfl f_12 rfl i rfl (by omega) (by omega) d_C_init_31 (fun H locs h => ?_)
        have h : mw_H n0 D cl s (mw_up w_9 hu (.inl (cA 3, L, .inr (.inr (.inr (.inr (va_up f i (some z)))))))) H _ := h
        obtain ⟨w_14, ew_14⟩ : ∃ xx : mw, mw_up w_9 hu (.inl (cA 3, L, .inr (.inr (.inr (.inr (va_up f i (some z))))))) = xx := ⟨_, rfl⟩
        rw [ew_14] at h
        have f_15 : w_14 a = some (ccell hu 0) := by rw [← ew_14, mw_ne (mw_apart f_10 f_11 (by simp))]; exact f_10
        have f_16 : w_14 z = some (.inr (4, [.int 0, .int 0, .int 0, .int 0])) := by rw [← ew_14, mw_ne (mw_apart f_12 f_11 (by simp))]; exact f_12
        have f_17 : w_14 hu = some (.inl (cA 3, L, .inr (.inr (.inr (.inr (va_up f i (some z))))))) := by rw [← ew_14]; exact mw_self
        refine lv_iinc (v := (nI i) + 1) (lv' := [(2, .int ((nI i) + 1)), (0, .ref a), (1, .int (nI L))]) hx hb d_C_init_32 hl (k := 0) rfl rfl (by decide) rfl (fun ls hl => ?_)
        refine lv_goto (tgt := 14) hx hb d_C_init_35 (by decide) ?_
        rw [nI_1] at hl
        have hzw : w z = none := by
          rw [← vf z (fun y => y.elim (fun y => mw_fresh va hzf y.symm) (fun y => y.elim (fun y => mw_fresh vu hzf y.symm) (fun ⟨k, hk, y⟩ => mw_fresh (vg k hk).2.1 hzf y.symm)))]
          exact hzf
        have hgo : ∀ k, k < i → va_up g i z k = g k := fun k hk => by simp only [va_up]; rw [if_neg (by omega)]
        have hgn : va_up g i z i = z := by simp [va_up]
        have hst : ∀ k, k < i → w_14 (g k) = some (ucell (0, 0, 0, 0)) := fun k hk => by rw [← ew_14, mw_ne (mw_apart (vg k hk).2.1 vu (by simp)) , ← ew_9, mw_ne (mw_fresh (vg k hk).2.1 hzf)]; exact (vg k hk).2.1
        refine W.widen (k := 1 + (i + 1)) (n := L + 4 * (i + 1)) (by omega) (by omega) ?_
        refine ih (i + 1) (by omega) (va_up f i (some z)) (va_up g i z) _ f_15 f_17 (fun k hk => ?_) (fun k k2 hk hk2 hkk => ?_) (fun y hy => ?_) H locs ls h (lv_sub hl [0, 1, 2] rfl)
        · by_cases e9 : k = i
          · subst e9; rw [hgn]; exact ⟨by simp [va_up], f_16, hzw⟩
          · rw [hgo k (by omega)]; exact ⟨by simp only [va_up]; rw [if_neg e9]; exact (vg k (by omega)).1, hst k (by omega), (vg k (by omega)).2.2⟩
        · by_cases e9 : k = i
          · by_cases e8 : k2 = i
            · omega
            · rw [e9, hgn, hgo k2 (by omega)] at hkk; exact absurd hkk.symm (mw_fresh (vg k2 (by omega)).2.1 hzf)
          · by_cases e8 : k2 = i
            · rw [e8, hgn, hgo k (by omega)] at hkk; exact absurd hkk (mw_fresh (vg k (by omega)).2.1 hzf)
            · rw [hgo k (by omega), hgo k2 (by omega)] at hkk; exact vi k k2 (by omega) (by omega) hkk
        · have hy1 : y ≠ hu := fun q9 => hy (Or.inr (Or.inl q9))
          have hy2 : y ≠ z := fun q9 => hy (Or.inr (Or.inr ⟨i, by omega, by rw [hgn]; exact q9⟩))
          rw [← ew_14, mw_ne hy1, ← ew_9, mw_ne hy2]
          exact vf y (fun q9 => hy (q9.elim Or.inl (fun q9 => q9.elim (fun q9 => Or.inr (Or.inl q9)) (fun ⟨k, hk, q8⟩ => Or.inr (Or.inr ⟨k, by omega, by rw [hgo k hk]; exact q8⟩)))))
  refine W.widen (k := 1 + 0) (n := L + 4 * 0) (by omega) (by omega) ?_
  exact loop L 0 (by omega) (fun _ => none) (fun _ => 0) _ f_6 f_5 (fun k hk => absurd hk (Nat.not_lt_zero _)) (fun k k2 hk => absurd hk (Nat.not_lt_zero _)) (fun y hy => by rw [← ew_4, mw_ne (fun q9 => hy (Or.inl q9)), ← ew_1, mw_ne (fun q9 => hy (Or.inr (Or.inl q9)))]) H locs ls h (lv_sub hl [0, 1, 2] rfl)
set_option maxHeartbeats 4000000 in
set_option maxRecDepth 100000 in
theorem m_Q_init {l : Launch} {D : va_G} {cA : Nat → ClassId} {n0 : Nat} {w : mw} {a : Nat} (ha : w a = some (.inr (3, [.null, .null, .null, .int 0, .int 0]))) :
    Mc l D cA n0 y_Q_init c_Q_init 3 11 40 [.ref a] w (fun w' => ∃ hp hn hr f g gu fn fr, QAx cA w' (SQ a hp hn hr g gu) a hp hn hr [] [] f g gu fn fr ∧ FR w w' (SQ a hp hn hr g gu) ∧ (∀ x, (SQ a hp hn hr g gu) x → x = a ∨ w x = none) ∧ ∀ x, (SQ a hp hn hr g gu) x → w' x ≠ none) := by
  refine mw_met (cc := b_Q_init) (maxL := 2) (ret := (none)) (by decide) rfl (Nat.le_of_ble_eq_true rfl) ?_
  intro p e s m below meth c ls G hrt hlocks hname h hl
  have G : mw_G p m c b_Q_init 2 s _ (c_Q_init :: TB) R_Q D cl (tys cA) n0 := G
  have hx := G.1.1
  have hb := G.1.2.1
  have hl : lv_has ls 2 [(0, .ref a)] := hl
  refine lv_aload_n hx hb d_Q_init_0 rfl (lv_at hl 0 rfl) ?_
  refine W.objInit hx hb G.1.2.2.2.1 (G.1.2.2.2.2 _ (tb_c k_72)) (G.1.2.2.2.2 _ (tb_c k_14)) (G.1.2.2.2.2 _ (tb_c k_15)) rfl (by rw [G.1.2.2.1]; exact hl.1) rfl d_Q_init_1 (Nat.le_of_ble_eq_true rfl) (Nat.le_of_ble_eq_true rfl) ?_
  refine W.eq (g2 := F0 m 4 ls []) rfl ?_
  refine lv_aload_n hx hb d_Q_init_4 rfl (lv_at hl 0 rfl) ?_
  refine lv_iconst (v := 4) hx hb d_Q_init_5 (by decide) ?_
  refine mx_newq G h (tb_c k_73) (by decide) 4 rfl (N' := 4) (by decide) (by decide) (by decide) (by show _ ≤ 11; omega) (by show _ ≤ 40; omega) d_Q_init_6 (fun hp H hpf h => ?_)
  have h : mw_H n0 D cl s (mw_up w hp (refs cA 4 4 (fun _ => none))) H _ := h
  obtain ⟨w_1, ew_1⟩ : ∃ xx : mw, mw_up w hp (refs cA 4 4 (fun _ => none)) = xx := ⟨_, rfl⟩
  rw [ew_1] at h
  have f_2 : w_1 a = some (.inr (3, [.null, .null, .null, .int 0, .int 0])) := by rw [← ew_1, mw_ne (mw_fresh ha hpf)]; exact ha
  have f_3 : w_1 hp = some (refs cA 4 4 (fun _ => none)) := by rw [← ew_1]; exact mw_self
  refine mx_putF G h hname f_2 rfl 0 (by decide) (tb_in in_Q) t_Q t_Q_ok n_Q (tb_c k_95) rfl rfl rfl rfl rfl rfl (Nat.le_of_ble_eq_true rfl) d_Q_init_9 (fun H locs h => ?_)
  have h : mw_H n0 D cl s (mw_up w_1 a (.inr (3, [.ref hp, .null, .null, .int 0, .int 0]))) H _ := h
  obtain ⟨w_4, ew_4⟩ : ∃ xx : mw, mw_up w_1 a (.inr (3, [.ref hp, .null, .null, .int 0, .int 0])) = xx := ⟨_, rfl⟩
  rw [ew_4] at h
  have f_5 : w_4 hp = some (refs cA 4 4 (fun _ => none)) := by rw [← ew_4, mw_ne (mw_apart f_3 f_2 (by simp))]; exact f_3
  have f_6 : w_4 a = some (.inr (3, [.ref hp, .null, .null, .int 0, .int 0])) := by rw [← ew_4]; exact mw_self
  refine lv_iconst (v := 0) hx hb d_Q_init_12 (by decide) ?_
  refine lv_istore_n (lv' := [(1, .int 0), (0, .ref a)]) hx hb d_Q_init_13 rfl hl (by decide) rfl (fun ls hl => ?_)
  have loop : ∀ (t i : Nat), i + t = 4 → ∀ (f : Nat → Option Nat) (g gu : Nat → Nat) (v : mw), v a = some (.inr (3, [.ref hp, .null, .null, .int 0, .int 0])) → v hp = some (refs cA 4 4 f) → (∀ k, k < i → f k = some (g k) ∧ v (g k) = some (kcell (gu k) 0 0) ∧ v (gu k) = some (ucell (0, 0, 0, 0)) ∧ w (g k) = none ∧ w (gu k) = none) → (∀ k k2, k < i → k2 < i → g k = g k2 → k = k2) → (∀ k k2, k < i → k2 < i → gu k = gu k2 → k = k2) → FR w v (S4 a hp g gu i) → ∀ (H : Heap) (locs : List Loc) (ls : Array Slot), mw_H n0 D cl s v H locs → lv_has ls 2 [(1, .int (nI i)), (0, .ref a)] → W p l e { frames := 3, cells := 11, slots := 40, locals := 40 * 3 } s m ([.ref a] : List Value).toArray below meth c H locs (1 + 2 * i) (4 + 7 * i) (MQ below (mw_Qv n0 D cl (fun w' => ∃ hp hn hr f g gu fn fr, QAx cA w' (SQ a hp hn hr g gu) a hp hn hr [] [] f g gu fn fr ∧ FR w w' (SQ a hp hn hr g gu) ∧ (∀ x, (SQ a hp hn hr g gu) x → x = a ∨ w x = none) ∧ ∀ x, (SQ a hp hn hr g gu) x → w' x ≠ none)) ([.ref a] : List Value).toArray s 11 40 (mw_A n0)) (F0 m 14 ls []) := by
    intro t
    induction t with
    | zero =>
      intro i hi f g gu v va vp vg vi vj vf H locs ls h hl
      have hi : i = 4 := hi
      rw [hi] at vf vg vi vj
      refine lv_iload_n hx hb d_Q_init_14 rfl (lv_at hl 0 rfl) ?_
      refine lv_iconst (v := 4) hx hb d_Q_init_15 (by decide) ?_
      refine lv_icmp_ge (tgt := 38) hx hb d_Q_init_16 (by decide) (fun c_7 => ?_) (fun c_7 => ?_)
      · refine lv_aload_n hx hb d_Q_init_38 rfl (lv_at hl 1 rfl) ?_
        refine lv_iconst (v := 4) hx hb d_Q_init_39 (by decide) ?_
        refine mx_newa (atype := .int) (ty := .int) (a0 := (4, .inl (fun _ => 0))) G h (tb_c k_116) rfl 0 rfl (fun _ => rfl) (by decide) (N' := 4) (by decide) (by decide) (by show _ ≤ 11; omega) (by show _ ≤ 40; omega) d_Q_init_40 (fun hn H hnf h => ?_)
        have h : mw_H n0 D cl s (mw_up v hn (.inl (cA 0, 4, .inl (fun _ => 0)))) H _ := h
        obtain ⟨w_8, ew_8⟩ : ∃ xx : mw, mw_up v hn (.inl (cA 0, 4, .inl (fun _ => 0))) = xx := ⟨_, rfl⟩
        rw [ew_8] at h
        have f_9 : w_8 a = some (.inr (3, [.ref hp, .null, .null, .int 0, .int 0])) := by rw [← ew_8, mw_ne (mw_fresh va hnf)]; exact va
        have f_10 : w_8 hn = some (.inl (cA 0, 4, .inl (fun _ => 0))) := by rw [← ew_8]; exact mw_self
        refine mx_putF G h hname f_9 rfl 1 (by decide) (tb_in in_Q) t_Q t_Q_ok n_Q (tb_c k_97) rfl rfl rfl rfl rfl rfl (Nat.le_of_ble_eq_true rfl) d_Q_init_42 (fun H locs h => ?_)
        have h : mw_H n0 D cl s (mw_up w_8 a (.inr (3, [.ref hp, .ref hn, .null, .int 0, .int 0]))) H _ := h
        obtain ⟨w_11, ew_11⟩ : ∃ xx : mw, mw_up w_8 a (.inr (3, [.ref hp, .ref hn, .null, .int 0, .int 0])) = xx := ⟨_, rfl⟩
        rw [ew_11] at h
        have f_12 : w_11 hn = some (.inl (cA 0, 4, .inl (fun _ => 0))) := by rw [← ew_11, mw_ne (mw_apart f_10 f_9 (by simp))]; exact f_10
        have f_13 : w_11 a = some (.inr (3, [.ref hp, .ref hn, .null, .int 0, .int 0])) := by rw [← ew_11]; exact mw_self
        refine lv_aload_n hx hb d_Q_init_45 rfl (lv_at hl 1 rfl) ?_
        refine lv_iconst (v := 4) hx hb d_Q_init_46 (by decide) ?_
        refine mx_newa (atype := .long) (ty := .long) (a0 := (4, .inr (.inl (fun _ => 0)))) G h (tb_c k_56) rfl 1 rfl (fun _ => rfl) (by decide) (N' := 4) (by decide) (by decide) (by show _ ≤ 11; omega) (by show _ ≤ 40; omega) d_Q_init_47 (fun hr H hrf h => ?_)
        have h : mw_H n0 D cl s (mw_up w_11 hr (.inl (cA 1, 4, .inr (.inl (fun _ => 0))))) H _ := h
        obtain ⟨w_14, ew_14⟩ : ∃ xx : mw, mw_up w_11 hr (.inl (cA 1, 4, .inr (.inl (fun _ => 0)))) = xx := ⟨_, rfl⟩
        rw [ew_14] at h
        have f_15 : w_14 hn = some (.inl (cA 0, 4, .inl (fun _ => 0))) := by rw [← ew_14, mw_ne (mw_fresh f_12 hrf)]; exact f_12
        have f_16 : w_14 a = some (.inr (3, [.ref hp, .ref hn, .null, .int 0, .int 0])) := by rw [← ew_14, mw_ne (mw_fresh f_13 hrf)]; exact f_13
        have f_17 : w_14 hr = some (.inl (cA 1, 4, .inr (.inl (fun _ => 0)))) := by rw [← ew_14]; exact mw_self
        refine mx_putF G h hname f_16 rfl 2 (by decide) (tb_in in_Q) t_Q t_Q_ok n_Q (tb_c k_99) rfl rfl rfl rfl rfl rfl (Nat.le_of_ble_eq_true rfl) d_Q_init_49 (fun H locs h => ?_)
        have h : mw_H n0 D cl s (mw_up w_14 a (.inr (3, [.ref hp, .ref hn, .ref hr, .int 0, .int 0]))) H _ := h
        obtain ⟨w_18, ew_18⟩ : ∃ xx : mw, mw_up w_14 a (.inr (3, [.ref hp, .ref hn, .ref hr, .int 0, .int 0])) = xx := ⟨_, rfl⟩
        rw [ew_18] at h
        have f_19 : w_18 hn = some (.inl (cA 0, 4, .inl (fun _ => 0))) := by rw [← ew_18, mw_ne (mw_apart f_15 f_16 (by simp))]; exact f_15
        have f_20 : w_18 hr = some (.inl (cA 1, 4, .inr (.inl (fun _ => 0)))) := by rw [← ew_18, mw_ne (mw_apart f_17 f_16 (by simp))]; exact f_17
        have f_21 : w_18 a = some (.inr (3, [.ref hp, .ref hn, .ref hr, .int 0, .int 0])) := by rw [← ew_18]; exact mw_self
        have old : ∀ (y : Nat) (e9 : va_E), v y = some e9 → y ≠ a → w_18 y = some e9 := fun y e9 hy hya => by
          have n1 : y ≠ hn := mw_fresh hy hnf
          have n2 : y ≠ hr := by
            intro z9
            rw [z9] at hy hya n1
            rw [← ew_11, mw_ne hya, ← ew_8, mw_ne n1] at hrf
            rw [hy] at hrf; cases hrf
          rw [← ew_18, mw_ne hya, ← ew_14, mw_ne n2, ← ew_11, mw_ne hya, ← ew_8, mw_ne n1]; exact hy
        have hwo : ∀ y, v y = none → y ≠ a → y ≠ hp → w y = none := fun y hy h1 h2 => by
          rw [← vf y (fun z => z.elim h1 (fun z => z.elim h2 (fun ⟨k, hk, z⟩ => z.elim (fun z => by rw [z, (vg k hk).2.1] at hy; cases hy) (fun z => by rw [z, (vg k hk).2.2.1] at hy; cases hy))))]; exact hy
        have hna : hn ≠ a := fun z => by rw [z, va] at hnf; cases hnf
        have hnp : hn ≠ hp := fun z => by rw [z, vp] at hnf; cases hnf
        have hrv : v hr = none := by
          have n1 : hr ≠ a := fun z => by rw [z, f_13] at hrf; cases hrf
          have n2 : hr ≠ hn := fun z => by rw [z, ← ew_11, mw_ne hna, ← ew_8, mw_self] at hrf; cases hrf
          rw [← ew_11, mw_ne n1, ← ew_8, mw_ne n2] at hrf; exact hrf
        have hra : hr ≠ a := fun z => by rw [z, va] at hrv; cases hrv
        have hrp : hr ≠ hp := fun z => by rw [z, vp] at hrv; cases hrv
        have hap : hp ≠ a := mw_apart vp va (by simp)
        refine W.widen (k := 11) (n := 40) (by omega) (by omega) ?_
        have hQX : QAx cA w_18 (SQ a hp hn hr g gu) a hp hn hr [] [] f g gu (fun _ => 0) (fun _ => 0) := ⟨f_21, old hp _ vp hap, f_19, f_20, Nat.zero_le _, Nat.zero_le _, fun k hk => ⟨(vg k hk).1, Or.inr (Or.inr (Or.inr (Or.inr ⟨k, hk, Or.inl rfl⟩))), Or.inr (Or.inr (Or.inr (Or.inr ⟨k, hk, Or.inr rfl⟩))), 0, 0, _, old _ _ (vg k hk).2.1 (mw_apart (vg k hk).2.1 va (by simp)), old _ _ (vg k hk).2.2.1 (mw_apart (vg k hk).2.2.1 va (by simp))⟩, fun k z hk => by simp at hk, fun k z hk => by simp at hk, vi, vj, Or.inl rfl, Or.inr (Or.inl rfl), Or.inr (Or.inr (Or.inl rfl)), Or.inr (Or.inr (Or.inr (Or.inl rfl)))⟩
        have hFR : FR w w_18 (SQ a hp hn hr g gu) := fun y hy => by
          have m1 : y ≠ a := fun z => hy (Or.inl z)
          have m2 : y ≠ hn := fun z => hy (Or.inr (Or.inr (Or.inl z)))
          have m3 : y ≠ hr := fun z => hy (Or.inr (Or.inr (Or.inr (Or.inl z))))
          rw [← ew_18, mw_ne m1, ← ew_14, mw_ne m3, ← ew_11, mw_ne m1, ← ew_8, mw_ne m2]
          exact vf y (fun z => hy (z.elim Or.inl (fun z => z.elim (fun z => Or.inr (Or.inl z)) (fun z => Or.inr (Or.inr (Or.inr (Or.inr z)))))))
        have hfresh : ∀ y, (SQ a hp hn hr g gu) y → y = a ∨ w y = none := by
          rintro y (z | z | z | z | ⟨k, hk, z | z⟩)
          · exact Or.inl z
          · exact Or.inr (by rw [z]; exact hpf)
          · exact Or.inr (by rw [z]; exact hwo hn hnf hna hnp)
          · exact Or.inr (by rw [z]; exact hwo hr hrv hra hrp)
          · exact Or.inr (by rw [z]; exact (vg k hk).2.2.2.1)
          · exact Or.inr (by rw [z]; exact (vg k hk).2.2.2.2)
        have hlive : ∀ y, (SQ a hp hn hr g gu) y → w_18 y ≠ none := by
          rintro y (z | z | z | z | ⟨k, hk, z | z⟩) <;> rw [z]
          · rw [f_21]; simp
          · rw [old hp _ vp hap]; simp
          · rw [f_19]; simp
          · rw [f_20]; simp
          · rw [old _ _ (vg k hk).2.1 (mw_apart (vg k hk).2.1 va (by simp))]; simp
          · rw [old _ _ (vg k hk).2.2.1 (mw_apart (vg k hk).2.2.1 va (by simp))]; simp
        exact mx_retv G h hrt hlocks d_Q_init_52 (⟨hp, hn, hr, f, g, gu, _, _, hQX, hFR, hfresh, hlive⟩)
      · exact absurd (by rw [hi]; decide) c_7
    | succ t ih =>
      intro i hi f g gu v va vp vg vi vj vf H locs ls h hl
      refine lv_iload_n hx hb d_Q_init_14 rfl (lv_at hl 0 rfl) ?_
      refine lv_iconst (v := 4) hx hb d_Q_init_15 (by decide) ?_
      refine lv_icmp_ge (tgt := 38) hx hb d_Q_init_16 (by decide) (fun c_22 => ?_) (fun c_22 => ?_)
      · exact absurd ((nI_leI (b := i) (a := 4) (by omega) (by omega)).mp c_22) (by omega)
      · refine lv_aload_n hx hb d_Q_init_19 rfl (lv_at hl 1 rfl) ?_
        refine mx_get G h va rfl 0 (by decide) (tb_in in_Q) (tb_c k_95) rfl rfl d_Q_init_20 ?_
        refine lv_iload_n hx hb d_Q_init_23 rfl (lv_at hl 0 rfl) ?_
        refine mx_new (ci := 2) (fs := [.null, .int 0, .int 0]) G h rfl (tb_in in_K) t_K t_K_ok (tb_c k_73) (tb_c k_75) (tb_c k_6) (fun j9 hj9 => by rcases (show j9 = 0 ∨ j9 = 1 ∨ j9 = 2 by omega) with rfl | rfl | rfl <;> rfl) (by show _ ≤ 11; omega) (by show _ ≤ 40; omega) d_Q_init_24 (fun z H hzf h => ?_)
        have h : mw_H n0 D cl s (mw_up v z (.inr (2, [.null, .int 0, .int 0]))) H _ := h
        obtain ⟨w_23, ew_23⟩ : ∃ xx : mw, mw_up v z (.inr (2, [.null, .int 0, .int 0])) = xx := ⟨_, rfl⟩
        rw [ew_23] at h
        have f_24 : w_23 a = some (.inr (3, [.ref hp, .null, .null, .int 0, .int 0])) := by rw [← ew_23, mw_ne (mw_fresh va hzf)]; exact va
        have f_25 : w_23 hp = some (refs cA 4 4 f) := by rw [← ew_23, mw_ne (mw_fresh vp hzf)]; exact vp
        have f_26 : w_23 z = some (.inr (2, [.null, .int 0, .int 0])) := by rw [← ew_23]; exact mw_self
        refine lv_dup hx hb d_Q_init_27 rfl ?_
        refine mx_cv (cIN (As := []) (rest := [.ref z, .int (nI i), .ref hp]) (host := "QueueDrive") G h (m_K_init f_26) (by decide) k_77 k_6 k_78 rfl hd_K_init rfl rfl ⟨Nat.le_of_ble_eq_true rfl, Nat.le_of_ble_eq_true rfl⟩ rfl hl.1 rfl (Nat.le_of_ble_eq_true rfl) d_Q_init_28 ⟨by show _ ≤ 11; omega, by show _ ≤ 40; omega⟩) h (fun w_27 H locs h hcp => ?_)
        obtain ⟨u, huf, ew⟩ := hcp
        have huz : u ≠ z := fun y9 => by rw [y9, f_26] at huf; cases huf
        have hua : u ≠ a := fun y9 => by rw [y9, f_24] at huf; cases huf
        have hup : u ≠ hp := fun y9 => by rw [y9, f_25] at huf; cases huf
        have hza : a ≠ z := mw_fresh va hzf
        have hzp : hp ≠ z := mw_fresh vp hzf
        have huv : v u = none := by rw [← ew_23, mw_ne huz] at huf; exact huf
        have oa : w_27 a = some (.inr (3, [.ref hp, .null, .null, .int 0, .int 0])) := by rw [ew, mw_ne hza, mw_ne hua.symm]; exact f_24
        have op : w_27 hp = some (refs cA 4 4 f) := by rw [ew, mw_ne hzp, mw_ne hup.symm]; exact f_25
        have oz : w_27 z = some (kcell u 0 0) := by rw [ew]; exact mw_self
        have ou : w_27 u = some (ucell (0, 0, 0, 0)) := by rw [ew, mw_ne huz]; exact mw_self
        refine ax_sa G h 4 2 op rfl oz rfl i rfl (by omega) (by decide) d_Q_init_31 (fun H locs h => ?_)
        have h : mw_H n0 D cl s (mw_up w_27 hp (.inl (cA 4, 4, .inr (.inr (.inr (.inr (va_up f i (some z)))))))) H _ := h
        obtain ⟨w_28, ew_28⟩ : ∃ xx : mw, mw_up w_27 hp (.inl (cA 4, 4, .inr (.inr (.inr (.inr (va_up f i (some z))))))) = xx := ⟨_, rfl⟩
        rw [ew_28] at h
        have f_29 : w_28 a = some (.inr (3, [.ref hp, .null, .null, .int 0, .int 0])) := by rw [← ew_28, mw_ne (mw_apart oa op (by simp))]; exact oa
        have f_30 : w_28 z = some (kcell u 0 0) := by rw [← ew_28, mw_ne (mw_apart oz op (by simp))]; exact oz
        have f_31 : w_28 u = some (ucell (0, 0, 0, 0)) := by rw [← ew_28, mw_ne (mw_apart ou op (by simp))]; exact ou
        have f_32 : w_28 hp = some (.inl (cA 4, 4, .inr (.inr (.inr (.inr (va_up f i (some z))))))) := by rw [← ew_28]; exact mw_self
        refine lv_iinc (v := (nI i) + 1) (lv' := [(1, .int ((nI i) + 1)), (0, .ref a)]) hx hb d_Q_init_32 hl (k := 0) rfl rfl (by decide) rfl (fun ls hl => ?_)
        refine lv_goto (tgt := 14) hx hb d_Q_init_35 (by decide) ?_
        rw [nI_1] at hl
        have hwo : ∀ y, v y = none → w y = none := fun y hy => by
          rw [← vf y (fun z => z.elim (fun z => by rw [z, va] at hy; cases hy) (fun z => z.elim (fun z => by rw [z, vp] at hy; cases hy) (fun ⟨k, hk, z⟩ => z.elim (fun z => by rw [z, (vg k hk).2.1] at hy; cases hy) (fun z => by rw [z, (vg k hk).2.2.1] at hy; cases hy))))]; exact hy
        have hgo : ∀ {x : Nat} (g : Nat → Nat) (k : Nat), k < i → va_up g i x k = g k := fun g k hk => by simp only [va_up]; rw [if_neg (by omega)]
        have hgn : ∀ {x : Nat} (g : Nat → Nat), va_up g i x i = x := fun g => by simp [va_up]
        have old : ∀ (y : Nat) (e9 : va_E), v y = some e9 → y ≠ hp → w_28 y = some e9 := fun y e9 hy hya => by
          rw [← ew_28, mw_ne hya, ew, mw_ne (mw_fresh hy hzf), mw_ne (mw_fresh hy huv), ← ew_23, mw_ne (mw_fresh hy hzf)]; exact hy
        refine W.widen (k := 1 + 2 * (i + 1)) (n := 4 + 7 * (i + 1)) (by omega) (by omega) ?_
        refine ih (i + 1) (by omega) (va_up f i (some z)) (va_up g i z) (va_up gu i u) _ f_29 f_32 (fun k hk => ?_) (fun k k2 hk hk2 hkk => ?_) (fun k k2 hk hk2 hkk => ?_) (fun y hy => ?_) H locs ls h (lv_sub hl [0, 1] rfl)
        · by_cases e9 : k = i
          · subst e9; rw [hgn g, hgn gu]; exact ⟨by simp [va_up], f_30, f_31, hwo z hzf, hwo u huv⟩
          · have hk9 := vg k (by omega)
            rw [hgo g k (by omega), hgo gu k (by omega)]; exact ⟨by simp only [va_up]; rw [if_neg e9]; exact hk9.1, old _ _ hk9.2.1 (mw_apart hk9.2.1 vp (by simp)), old _ _ hk9.2.2.1 (mw_apart hk9.2.2.1 vp (by simp)), hk9.2.2.2.1, hk9.2.2.2.2⟩
        · by_cases e9 : k = i
          · by_cases e8 : k2 = i
            · omega
            · rw [e9, hgn g, hgo g k2 (by omega)] at hkk; exact absurd hkk.symm (mw_fresh (vg k2 (by omega)).2.1 hzf)
          · by_cases e8 : k2 = i
            · rw [e8, hgn g, hgo g k (by omega)] at hkk; exact absurd hkk (mw_fresh (vg k (by omega)).2.1 hzf)
            · rw [hgo g k (by omega), hgo g k2 (by omega)] at hkk; exact vi k k2 (by omega) (by omega) hkk
        · by_cases e9 : k = i
          · by_cases e8 : k2 = i
            · omega
            · rw [e9, hgn gu, hgo gu k2 (by omega)] at hkk; exact absurd hkk.symm (mw_fresh (vg k2 (by omega)).2.2.1 huv)
          · by_cases e8 : k2 = i
            · rw [e8, hgn gu, hgo gu k (by omega)] at hkk; exact absurd hkk (mw_fresh (vg k (by omega)).2.2.1 huv)
            · rw [hgo gu k (by omega), hgo gu k2 (by omega)] at hkk; exact vj k k2 (by omega) (by omega) hkk
        · have hy1 : y ≠ hp := fun q9 => hy (Or.inr (Or.inl q9))
          have hy2 : y ≠ z := fun q9 => hy (Or.inr (Or.inr ⟨i, by omega, Or.inl (by rw [hgn g]; exact q9)⟩))
          have hy3 : y ≠ u := fun q9 => hy (Or.inr (Or.inr ⟨i, by omega, Or.inr (by rw [hgn gu]; exact q9)⟩))
          rw [← ew_28, mw_ne hy1, ew, mw_ne hy2, mw_ne hy3, ← ew_23, mw_ne hy2]
          exact vf y (fun q9 => hy (q9.elim Or.inl (fun q9 => q9.elim (fun q9 => Or.inr (Or.inl q9)) (fun ⟨k, hk, q8⟩ => Or.inr (Or.inr ⟨k, by omega, q8.elim (fun q7 => Or.inl (by rw [hgo g k hk]; exact q7)) (fun q7 => Or.inr (by rw [hgo gu k hk]; exact q7))⟩)))))
  refine W.widen (k := 1 + 2 * 0) (n := 4 + 7 * 0) (by omega) (by omega) ?_
  exact loop 4 0 (by omega) (fun _ => none) (fun _ => 0) (fun _ => 0) _ f_6 f_5 (fun k hk => absurd hk (Nat.not_lt_zero _)) (fun k k2 hk => absurd hk (Nat.not_lt_zero _)) (fun k k2 hk => absurd hk (Nat.not_lt_zero _)) (fun y hy => by rw [← ew_4, mw_ne (fun q9 => hy (Or.inl q9)), ← ew_1, mw_ne (fun q9 => hy (Or.inr (Or.inl q9)))]) H locs ls h (lv_sub hl [0, 1] rfl)
