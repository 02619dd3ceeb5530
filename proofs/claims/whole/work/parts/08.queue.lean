theorem d_Q_hasPending_0 : decode b_Q_hasPending 0 = .ok (.iload_n 1, 1) := by decide +kernel
theorem d_Q_hasPending_1 : decode b_Q_hasPending 1 = .ok (.ifCond .lt 15, 3) := by decide +kernel
theorem d_Q_hasPending_4 : decode b_Q_hasPending 4 = .ok (.iload_n 1, 1) := by decide +kernel
theorem d_Q_hasPending_5 : decode b_Q_hasPending 5 = .ok (.aload_n 0, 1) := by decide +kernel
theorem d_Q_hasPending_6 : decode b_Q_hasPending 6 = .ok (.getfield 26, 3) := by decide +kernel
theorem d_Q_hasPending_9 : decode b_Q_hasPending 9 = .ok (.if_icmp .ge 7, 3) := by decide +kernel
theorem d_Q_hasPending_12 : decode b_Q_hasPending 12 = .ok (.iconst 1, 1) := by decide +kernel
theorem d_Q_hasPending_13 : decode b_Q_hasPending 13 = .ok (.goto 4, 3) := by decide +kernel
theorem d_Q_hasPending_16 : decode b_Q_hasPending 16 = .ok (.iconst 0, 1) := by decide +kernel
theorem d_Q_hasPending_17 : decode b_Q_hasPending 17 = .ok (.ireturn, 1) := by decide +kernel
theorem d_Q_addPending_0 : decode b_Q_addPending 0 = .ok (.aload_n 0, 1) := by decide +kernel
theorem d_Q_addPending_1 : decode b_Q_addPending 1 = .ok (.getfield 11, 3) := by decide +kernel
theorem d_Q_addPending_4 : decode b_Q_addPending 4 = .ok (.aload_n 0, 1) := by decide +kernel
theorem d_Q_addPending_5 : decode b_Q_addPending 5 = .ok (.getfield 26, 3) := by decide +kernel
theorem d_Q_addPending_8 : decode b_Q_addPending 8 = .ok (.aaload, 1) := by decide +kernel
theorem d_Q_addPending_9 : decode b_Q_addPending 9 = .ok (.astore_n 3, 1) := by decide +kernel
theorem d_Q_addPending_10 : decode b_Q_addPending 10 = .ok (.aload_n 3, 1) := by decide +kernel
theorem d_Q_addPending_11 : decode b_Q_addPending 11 = .ok (.iload_n 1, 1) := by decide +kernel
theorem d_Q_addPending_12 : decode b_Q_addPending 12 = .ok (.putfield 30, 3) := by decide +kernel
theorem d_Q_addPending_15 : decode b_Q_addPending 15 = .ok (.aload_n 3, 1) := by decide +kernel
theorem d_Q_addPending_16 : decode b_Q_addPending 16 = .ok (.iload_n 2, 1) := by decide +kernel
theorem d_Q_addPending_17 : decode b_Q_addPending 17 = .ok (.putfield 33, 3) := by decide +kernel
theorem d_Q_addPending_20 : decode b_Q_addPending 20 = .ok (.aload_n 0, 1) := by decide +kernel
theorem d_Q_addPending_21 : decode b_Q_addPending 21 = .ok (.dup, 1) := by decide +kernel
theorem d_Q_addPending_22 : decode b_Q_addPending 22 = .ok (.getfield 26, 3) := by decide +kernel
theorem d_Q_addPending_25 : decode b_Q_addPending 25 = .ok (.iconst 1, 1) := by decide +kernel
theorem d_Q_addPending_26 : decode b_Q_addPending 26 = .ok (.iadd, 1) := by decide +kernel
theorem d_Q_addPending_27 : decode b_Q_addPending 27 = .ok (.putfield 26, 3) := by decide +kernel
theorem d_Q_addPending_30 : decode b_Q_addPending 30 = .ok (.aload_n 3, 1) := by decide +kernel
theorem d_Q_addPending_31 : decode b_Q_addPending 31 = .ok (.areturn, 1) := by decide +kernel
theorem d_Q_removePending_0 : decode b_Q_removePending 0 = .ok (.aload_n 0, 1) := by decide +kernel
theorem d_Q_removePending_1 : decode b_Q_removePending 1 = .ok (.iload_n 1, 1) := by decide +kernel
theorem d_Q_removePending_2 : decode b_Q_removePending 2 = .ok (.invokevirtual 36, 3) := by decide +kernel
theorem d_Q_removePending_5 : decode b_Q_removePending 5 = .ok (.ifCond .ne 4, 3) := by decide +kernel
theorem d_Q_removePending_8 : decode b_Q_removePending 8 = .ok (.return_, 1) := by decide +kernel
theorem d_Q_removePending_9 : decode b_Q_removePending 9 = .ok (.aload_n 0, 1) := by decide +kernel
theorem d_Q_removePending_10 : decode b_Q_removePending 10 = .ok (.getfield 11, 3) := by decide +kernel
theorem d_Q_removePending_13 : decode b_Q_removePending 13 = .ok (.iload_n 1, 1) := by decide +kernel
theorem d_Q_removePending_14 : decode b_Q_removePending 14 = .ok (.aaload, 1) := by decide +kernel
theorem d_Q_removePending_15 : decode b_Q_removePending 15 = .ok (.astore_n 2, 1) := by decide +kernel
theorem d_Q_removePending_16 : decode b_Q_removePending 16 = .ok (.aload_n 0, 1) := by decide +kernel
theorem d_Q_removePending_17 : decode b_Q_removePending 17 = .ok (.dup, 1) := by decide +kernel
theorem d_Q_removePending_18 : decode b_Q_removePending 18 = .ok (.getfield 26, 3) := by decide +kernel
theorem d_Q_removePending_21 : decode b_Q_removePending 21 = .ok (.iconst 1, 1) := by decide +kernel
theorem d_Q_removePending_22 : decode b_Q_removePending 22 = .ok (.isub, 1) := by decide +kernel
theorem d_Q_removePending_23 : decode b_Q_removePending 23 = .ok (.putfield 26, 3) := by decide +kernel
theorem d_Q_removePending_26 : decode b_Q_removePending 26 = .ok (.iload_n 1, 1) := by decide +kernel
theorem d_Q_removePending_27 : decode b_Q_removePending 27 = .ok (.istore_n 3, 1) := by decide +kernel
theorem d_Q_removePending_28 : decode b_Q_removePending 28 = .ok (.iload_n 3, 1) := by decide +kernel
theorem d_Q_removePending_29 : decode b_Q_removePending 29 = .ok (.aload_n 0, 1) := by decide +kernel
theorem d_Q_removePending_30 : decode b_Q_removePending 30 = .ok (.getfield 26, 3) := by decide +kernel
theorem d_Q_removePending_33 : decode b_Q_removePending 33 = .ok (.if_icmp .ge 23, 3) := by decide +kernel
theorem d_Q_removePending_36 : decode b_Q_removePending 36 = .ok (.aload_n 0, 1) := by decide +kernel
theorem d_Q_removePending_37 : decode b_Q_removePending 37 = .ok (.getfield 11, 3) := by decide +kernel
theorem d_Q_removePending_40 : decode b_Q_removePending 40 = .ok (.iload_n 3, 1) := by decide +kernel
theorem d_Q_removePending_41 : decode b_Q_removePending 41 = .ok (.aload_n 0, 1) := by decide +kernel
theorem d_Q_removePending_42 : decode b_Q_removePending 42 = .ok (.getfield 11, 3) := by decide +kernel
theorem d_Q_removePending_45 : decode b_Q_removePending 45 = .ok (.iload_n 3, 1) := by decide +kernel
theorem d_Q_removePending_46 : decode b_Q_removePending 46 = .ok (.iconst 1, 1) := by decide +kernel
theorem d_Q_removePending_47 : decode b_Q_removePending 47 = .ok (.iadd, 1) := by decide +kernel
theorem d_Q_removePending_48 : decode b_Q_removePending 48 = .ok (.aaload, 1) := by decide +kernel
theorem d_Q_removePending_49 : decode b_Q_removePending 49 = .ok (.aastore, 1) := by decide +kernel
theorem d_Q_removePending_50 : decode b_Q_removePending 50 = .ok (.iinc 3 1, 3) := by decide +kernel
theorem d_Q_removePending_53 : decode b_Q_removePending 53 = .ok (.goto (-25), 3) := by decide +kernel
theorem d_Q_removePending_56 : decode b_Q_removePending 56 = .ok (.aload_n 0, 1) := by decide +kernel
theorem d_Q_removePending_57 : decode b_Q_removePending 57 = .ok (.getfield 11, 3) := by decide +kernel
theorem d_Q_removePending_60 : decode b_Q_removePending 60 = .ok (.aload_n 0, 1) := by decide +kernel
theorem d_Q_removePending_61 : decode b_Q_removePending 61 = .ok (.getfield 26, 3) := by decide +kernel
theorem d_Q_removePending_64 : decode b_Q_removePending 64 = .ok (.aload_n 2, 1) := by decide +kernel
theorem d_Q_removePending_65 : decode b_Q_removePending 65 = .ok (.aastore, 1) := by decide +kernel
theorem d_Q_removePending_66 : decode b_Q_removePending 66 = .ok (.return_, 1) := by decide +kernel
theorem d_Q_addCompletion_0 : decode b_Q_addCompletion 0 = .ok (.aload_n 0, 1) := by decide +kernel
theorem d_Q_addCompletion_1 : decode b_Q_addCompletion 1 = .ok (.getfield 40, 3) := by decide +kernel
theorem d_Q_addCompletion_4 : decode b_Q_addCompletion 4 = .ok (.iconst 4, 1) := by decide +kernel
theorem d_Q_addCompletion_5 : decode b_Q_addCompletion 5 = .ok (.if_icmp .lt 4, 3) := by decide +kernel
theorem d_Q_addCompletion_8 : decode b_Q_addCompletion 8 = .ok (.return_, 1) := by decide +kernel
theorem d_Q_addCompletion_9 : decode b_Q_addCompletion 9 = .ok (.aload_n 0, 1) := by decide +kernel
theorem d_Q_addCompletion_10 : decode b_Q_addCompletion 10 = .ok (.getfield 18, 3) := by decide +kernel
theorem d_Q_addCompletion_13 : decode b_Q_addCompletion 13 = .ok (.aload_n 0, 1) := by decide +kernel
theorem d_Q_addCompletion_14 : decode b_Q_addCompletion 14 = .ok (.getfield 40, 3) := by decide +kernel
theorem d_Q_addCompletion_17 : decode b_Q_addCompletion 17 = .ok (.iload_n 1, 1) := by decide +kernel
theorem d_Q_addCompletion_18 : decode b_Q_addCompletion 18 = .ok (.iastore, 1) := by decide +kernel
theorem d_Q_addCompletion_19 : decode b_Q_addCompletion 19 = .ok (.aload_n 0, 1) := by decide +kernel
theorem d_Q_addCompletion_20 : decode b_Q_addCompletion 20 = .ok (.getfield 22, 3) := by decide +kernel
theorem d_Q_addCompletion_23 : decode b_Q_addCompletion 23 = .ok (.aload_n 0, 1) := by decide +kernel
theorem d_Q_addCompletion_24 : decode b_Q_addCompletion 24 = .ok (.getfield 40, 3) := by decide +kernel
theorem d_Q_addCompletion_27 : decode b_Q_addCompletion 27 = .ok (.lload_n 2, 1) := by decide +kernel
theorem d_Q_addCompletion_28 : decode b_Q_addCompletion 28 = .ok (.lastore, 1) := by decide +kernel
theorem d_Q_addCompletion_29 : decode b_Q_addCompletion 29 = .ok (.aload_n 0, 1) := by decide +kernel
theorem d_Q_addCompletion_30 : decode b_Q_addCompletion 30 = .ok (.dup, 1) := by decide +kernel
theorem d_Q_addCompletion_31 : decode b_Q_addCompletion 31 = .ok (.getfield 40, 3) := by decide +kernel
theorem d_Q_addCompletion_34 : decode b_Q_addCompletion 34 = .ok (.iconst 1, 1) := by decide +kernel
theorem d_Q_addCompletion_35 : decode b_Q_addCompletion 35 = .ok (.iadd, 1) := by decide +kernel
theorem d_Q_addCompletion_36 : decode b_Q_addCompletion 36 = .ok (.putfield 40, 3) := by decide +kernel
theorem d_Q_addCompletion_39 : decode b_Q_addCompletion 39 = .ok (.return_, 1) := by decide +kernel
theorem d_Q_removeOldestCompletion_0 : decode b_Q_removeOldestCompletion 0 = .ok (.aload_n 0, 1) := by decide +kernel
theorem d_Q_removeOldestCompletion_1 : decode b_Q_removeOldestCompletion 1 = .ok (.getfield 40, 3) := by decide +kernel
theorem d_Q_removeOldestCompletion_4 : decode b_Q_removeOldestCompletion 4 = .ok (.ifCond .ne 4, 3) := by decide +kernel
theorem d_Q_removeOldestCompletion_7 : decode b_Q_removeOldestCompletion 7 = .ok (.return_, 1) := by decide +kernel
theorem d_Q_removeOldestCompletion_8 : decode b_Q_removeOldestCompletion 8 = .ok (.aload_n 0, 1) := by decide +kernel
theorem d_Q_removeOldestCompletion_9 : decode b_Q_removeOldestCompletion 9 = .ok (.dup, 1) := by decide +kernel
theorem d_Q_removeOldestCompletion_10 : decode b_Q_removeOldestCompletion 10 = .ok (.getfield 40, 3) := by decide +kernel
theorem d_Q_removeOldestCompletion_13 : decode b_Q_removeOldestCompletion 13 = .ok (.iconst 1, 1) := by decide +kernel
theorem d_Q_removeOldestCompletion_14 : decode b_Q_removeOldestCompletion 14 = .ok (.isub, 1) := by decide +kernel
theorem d_Q_removeOldestCompletion_15 : decode b_Q_removeOldestCompletion 15 = .ok (.putfield 40, 3) := by decide +kernel
theorem d_Q_removeOldestCompletion_18 : decode b_Q_removeOldestCompletion 18 = .ok (.iconst 0, 1) := by decide +kernel
theorem d_Q_removeOldestCompletion_19 : decode b_Q_removeOldestCompletion 19 = .ok (.istore_n 1, 1) := by decide +kernel
theorem d_Q_removeOldestCompletion_20 : decode b_Q_removeOldestCompletion 20 = .ok (.iload_n 1, 1) := by decide +kernel
theorem d_Q_removeOldestCompletion_21 : decode b_Q_removeOldestCompletion 21 = .ok (.aload_n 0, 1) := by decide +kernel
theorem d_Q_removeOldestCompletion_22 : decode b_Q_removeOldestCompletion 22 = .ok (.getfield 40, 3) := by decide +kernel
theorem d_Q_removeOldestCompletion_25 : decode b_Q_removeOldestCompletion 25 = .ok (.if_icmp .ge 37, 3) := by decide +kernel
theorem d_Q_removeOldestCompletion_28 : decode b_Q_removeOldestCompletion 28 = .ok (.aload_n 0, 1) := by decide +kernel
theorem d_Q_removeOldestCompletion_29 : decode b_Q_removeOldestCompletion 29 = .ok (.getfield 18, 3) := by decide +kernel
theorem d_Q_removeOldestCompletion_32 : decode b_Q_removeOldestCompletion 32 = .ok (.iload_n 1, 1) := by decide +kernel
theorem d_Q_removeOldestCompletion_33 : decode b_Q_removeOldestCompletion 33 = .ok (.aload_n 0, 1) := by decide +kernel
theorem d_Q_removeOldestCompletion_34 : decode b_Q_removeOldestCompletion 34 = .ok (.getfield 18, 3) := by decide +kernel
theorem d_Q_removeOldestCompletion_37 : decode b_Q_removeOldestCompletion 37 = .ok (.iload_n 1, 1) := by decide +kernel
theorem d_Q_removeOldestCompletion_38 : decode b_Q_removeOldestCompletion 38 = .ok (.iconst 1, 1) := by decide +kernel
theorem d_Q_removeOldestCompletion_39 : decode b_Q_removeOldestCompletion 39 = .ok (.iadd, 1) := by decide +kernel
theorem d_Q_removeOldestCompletion_40 : decode b_Q_removeOldestCompletion 40 = .ok (.iaload, 1) := by decide +kernel
theorem d_Q_removeOldestCompletion_41 : decode b_Q_removeOldestCompletion 41 = .ok (.iastore, 1) := by decide +kernel
theorem d_Q_removeOldestCompletion_42 : decode b_Q_removeOldestCompletion 42 = .ok (.aload_n 0, 1) := by decide +kernel
theorem d_Q_removeOldestCompletion_43 : decode b_Q_removeOldestCompletion 43 = .ok (.getfield 22, 3) := by decide +kernel
theorem d_Q_removeOldestCompletion_46 : decode b_Q_removeOldestCompletion 46 = .ok (.iload_n 1, 1) := by decide +kernel
theorem d_Q_removeOldestCompletion_47 : decode b_Q_removeOldestCompletion 47 = .ok (.aload_n 0, 1) := by decide +kernel
theorem d_Q_removeOldestCompletion_48 : decode b_Q_removeOldestCompletion 48 = .ok (.getfield 22, 3) := by decide +kernel
theorem d_Q_removeOldestCompletion_51 : decode b_Q_removeOldestCompletion 51 = .ok (.iload_n 1, 1) := by decide +kernel
theorem d_Q_removeOldestCompletion_52 : decode b_Q_removeOldestCompletion 52 = .ok (.iconst 1, 1) := by decide +kernel
theorem d_Q_removeOldestCompletion_53 : decode b_Q_removeOldestCompletion 53 = .ok (.iadd, 1) := by decide +kernel
theorem d_Q_removeOldestCompletion_54 : decode b_Q_removeOldestCompletion 54 = .ok (.laload, 1) := by decide +kernel
theorem d_Q_removeOldestCompletion_55 : decode b_Q_removeOldestCompletion 55 = .ok (.lastore, 1) := by decide +kernel
theorem d_Q_removeOldestCompletion_56 : decode b_Q_removeOldestCompletion 56 = .ok (.iinc 1 1, 3) := by decide +kernel
theorem d_Q_removeOldestCompletion_59 : decode b_Q_removeOldestCompletion 59 = .ok (.goto (-39), 3) := by decide +kernel
theorem d_Q_removeOldestCompletion_62 : decode b_Q_removeOldestCompletion 62 = .ok (.return_, 1) := by decide +kernel
set_option maxHeartbeats 4000000 in
set_option maxRecDepth 100000 in
theorem m_Q_hasPending {l : Launch} {D : va_G} {cA : Nat → ClassId} {n0 : Nat} {w : mw} {hq hp hn hr pn cn : Nat} (hQ : w hq = some (qcell hp hn hr pn cn)) {x : Int32} :
    Mi l D cA n0 y_Q_hasPending c_Q_hasPending (rmd 0) [.ref hq, .int x] w (fun r w' => r = bI (0 ≤ x ∧ x < nI pn) ∧ w' = w) := by
  refine mw_met (cc := b_Q_hasPending) (maxL := 2) (ret := (some .boolean)) (by decide) rfl (Nat.le_of_ble_eq_true rfl) ?_
  intro p e s m below meth c ls G hrt hlocks hname h hl
  have G : mw_G p m c b_Q_hasPending 2 s _ (c_Q_hasPending :: TB) R_Q D cl (tys cA) n0 := G
  have hx := G.1.1
  have hb := G.1.2.1
  have hl : lv_has ls 2 [(0, .ref hq), (1, .int x)] := hl
  refine lv_iload_n hx hb d_Q_hasPending_0 rfl (lv_at hl 1 rfl) ?_
  refine lv_if_lt (tgt := 16) hx hb d_Q_hasPending_1 (by decide) (fun c_1 => ?_) (fun c_1 => ?_)
  · refine lv_iconst (v := 0) hx hb d_Q_hasPending_16 (by decide) ?_
    exact mx_retz G h hrt hlocks d_Q_hasPending_17 rfl (⟨(bI_f (fun z => absurd z.1 (Int32.not_le.mpr c_1))).symm, rfl⟩)
  · refine lv_iload_n hx hb d_Q_hasPending_4 rfl (lv_at hl 1 rfl) ?_
    refine lv_aload_n hx hb d_Q_hasPending_5 rfl (lv_at hl 0 rfl) ?_
    refine mx_get G h hQ rfl 3 (by decide) (tb_in in_Q) (tb_c k_101) rfl rfl d_Q_hasPending_6 ?_
    refine lv_icmp_ge (tgt := 16) hx hb d_Q_hasPending_9 (by decide) (fun c_2 => ?_) (fun c_2 => ?_)
    · refine lv_iconst (v := 0) hx hb d_Q_hasPending_16 (by decide) ?_
      exact mx_retz G h hrt hlocks d_Q_hasPending_17 rfl (⟨(bI_f (fun z => absurd z.2 (Int32.not_lt.mpr c_2))).symm, rfl⟩)
    · refine lv_iconst (v := 1) hx hb d_Q_hasPending_12 (by decide) ?_
      refine lv_goto (tgt := 17) hx hb d_Q_hasPending_13 (by decide) ?_
      exact mx_retz G h hrt hlocks d_Q_hasPending_17 rfl (⟨(bI_t ⟨Int32.not_lt.mp c_1, Int32.not_le.mp c_2⟩).symm, rfl⟩)
set_option maxHeartbeats 4000000 in
set_option maxRecDepth 100000 in
theorem m_Q_addPending {l : Launch} {D : va_G} {cA : Nat → ClassId} {n0 : Nat} {w : mw} {hq hp hn hr pn cn : Nat} (hQ : w hq = some (qcell hp hn hr pn cn)) {f : Nat → Option Nat} (hP : w hp = some (refs cA 4 4 f)) (hpn : pn < 4) {a u : Nat} {y1 y2 : Int32} (hfa : f pn = some a) (ha : w a = some (kcell u y1 y2)) {x k : Int32} :
    Mr l D cA n0 y_Q_addPending c_Q_addPending (rmd 0) [.ref hq, .int x, .int k] w (fun r w' => r = a ∧ w' = mw_up (mw_up w a (kcell u x k)) hq (qcell hp hn hr (pn + 1) cn)) := by
  refine mw_met (cc := b_Q_addPending) (maxL := 4) (ret := (some (.object "QueueDrive$Command"))) (by decide) rfl (Nat.le_of_ble_eq_true rfl) ?_
  intro p e s m below meth c ls G hrt hlocks hname h hl
  have G : mw_G p m c b_Q_addPending 4 s _ (c_Q_addPending :: TB) R_Q D cl (tys cA) n0 := G
  have hx := G.1.1
  have hb := G.1.2.1
  have hl : lv_has ls 4 [(0, .ref hq), (1, .int x), (2, .int k)] := hl
  refine lv_aload_n hx hb d_Q_addPending_0 rfl (lv_at hl 0 rfl) ?_
  refine mx_get G h hQ rfl 0 (by decide) (tb_in in_Q) (tb_c k_95) rfl rfl d_Q_addPending_1 ?_
  refine lv_aload_n hx hb d_Q_addPending_4 rfl (lv_at hl 0 rfl) ?_
  refine mx_get G h hQ rfl 3 (by decide) (tb_in in_Q) (tb_c k_101) rfl rfl d_Q_addPending_5 ?_
  refine ax_a G h 4 hP rfl pn rfl hpn (by decide) hfa d_Q_addPending_8 ?_
  refine lv_astore_n (lv' := [(3, .ref a), (0, .ref hq), (1, .int x), (2, .int k)]) hx hb d_Q_addPending_9 rfl hl (by decide) rfl (fun ls hl => ?_)
  refine lv_aload_n hx hb d_Q_addPending_10 rfl (lv_at hl 0 rfl) ?_
  refine lv_iload_n hx hb d_Q_addPending_11 rfl (lv_at hl 2 rfl) ?_
  refine mx_put G h ha rfl 1 (by decide) (tb_in in_K) t_K t_K_ok n_K (tb_c k_84) rfl rfl rfl rfl rfl (Nat.le_of_ble_eq_true rfl) d_Q_addPending_12 (fun H locs h => ?_)
  have h : mw_H n0 D cl s (mw_up w a (.inr (2, [.ref u, .int x, .int y2]))) H locs := h
  obtain ⟨w_1, ew_1⟩ : ∃ xx : mw, mw_up w a (.inr (2, [.ref u, .int x, .int y2])) = xx := ⟨_, rfl⟩
  rw [ew_1] at h
  have f_2 : w_1 hq = some (qcell hp hn hr pn cn) := by rw [← ew_1, mw_ne (mw_apart hQ ha (by simp))]; exact hQ
  have f_3 : w_1 hp = some (refs cA 4 4 f) := by rw [← ew_1, mw_ne (mw_apart hP ha (by simp))]; exact hP
  have f_4 : w_1 a = some (.inr (2, [.ref u, .int x, .int y2])) := by rw [← ew_1]; exact mw_self
  refine lv_aload_n hx hb d_Q_addPending_15 rfl (lv_at hl 0 rfl) ?_
  refine lv_iload_n hx hb d_Q_addPending_16 rfl (lv_at hl 3 rfl) ?_
  refine mx_put G h f_4 rfl 2 (by decide) (tb_in in_K) t_K t_K_ok n_K (tb_c k_86) rfl rfl rfl rfl rfl (Nat.le_of_ble_eq_true rfl) d_Q_addPending_17 (fun H locs h => ?_)
  have h : mw_H n0 D cl s (mw_up w_1 a (.inr (2, [.ref u, .int x, .int k]))) H locs := h
  obtain ⟨w_5, ew_5⟩ : ∃ xx : mw, mw_up w_1 a (.inr (2, [.ref u, .int x, .int k])) = xx := ⟨_, rfl⟩
  rw [ew_5] at h
  have f_6 : w_5 hq = some (qcell hp hn hr pn cn) := by rw [← ew_5, mw_ne (mw_apart f_2 f_4 (by simp))]; exact f_2
  have f_7 : w_5 hp = some (refs cA 4 4 f) := by rw [← ew_5, mw_ne (mw_apart f_3 f_4 (by simp))]; exact f_3
  have f_8 : w_5 a = some (.inr (2, [.ref u, .int x, .int k])) := by rw [← ew_5]; exact mw_self
  refine lv_aload_n hx hb d_Q_addPending_20 rfl (lv_at hl 1 rfl) ?_
  refine lv_dup hx hb d_Q_addPending_21 rfl ?_
  refine mx_get G h f_6 rfl 3 (by decide) (tb_in in_Q) (tb_c k_101) rfl rfl d_Q_addPending_22 ?_
  refine lv_iconst (v := 1) hx hb d_Q_addPending_25 (by decide) ?_
  refine lv_iadd hx hb d_Q_addPending_26 ?_
  refine mx_put G h f_6 rfl 3 (by decide) (tb_in in_Q) t_Q t_Q_ok n_Q (tb_c k_101) rfl rfl rfl rfl rfl (Nat.le_of_ble_eq_true rfl) d_Q_addPending_27 (fun H locs h => ?_)
  have h : mw_H n0 D cl s (mw_up w_5 hq (.inr (3, [.ref hp, .ref hn, .ref hr, .int ((nI pn) + 1), .int (nI cn)]))) H locs := h
  obtain ⟨w_9, ew_9⟩ : ∃ xx : mw, mw_up w_5 hq (.inr (3, [.ref hp, .ref hn, .ref hr, .int ((nI pn) + 1), .int (nI cn)])) = xx := ⟨_, rfl⟩
  rw [ew_9] at h
  have f_10 : w_9 hp = some (refs cA 4 4 f) := by rw [← ew_9, mw_ne (mw_apart f_7 f_6 (by simp))]; exact f_7
  have f_11 : w_9 a = some (.inr (2, [.ref u, .int x, .int k])) := by rw [← ew_9, mw_ne (mw_apart f_8 f_6 (by simp))]; exact f_8
  have f_12 : w_9 hq = some (.inr (3, [.ref hp, .ref hn, .ref hr, .int ((nI pn) + 1), .int (nI cn)])) := by rw [← ew_9]; exact mw_self
  refine lv_aload_n hx hb d_Q_addPending_30 rfl (lv_at hl 0 rfl) ?_
  exact mx_reta G h hrt hlocks d_Q_addPending_31 (⟨rfl, by rw [← ew_9, ← ew_5, ← ew_1, mw_uu, nI_1]⟩)
set_option maxHeartbeats 4000000 in
set_option maxRecDepth 100000 in
theorem m_Q_removePending {l : Launch} {D : va_G} {cA : Nat → ClassId} {n0 : Nat} {w : mw} {hq hp hn hr pn cn : Nat} (hQ : w hq = some (qcell hp hn hr pn cn)) {f : Nat → Option Nat} (hP : w hp = some (refs cA 4 4 f)) {k : Nat} (hk : k < pn) (hpn : pn ≤ 4) (hf : ∀ i, i < 4 → ∃ a u y z, f i = some a ∧ w a = some (kcell u y z)) {x : Int32} (hx1 : x = nI k) :
    Mv l D cA n0 y_Q_removePending c_Q_removePending (rmd 1) [.ref hq, .int x] w (fun w' => w' = mw_up (mw_up w hq (qcell hp hn hr (pn - 1) cn)) hp (refs cA 4 4 (rotf f k (pn - 1)))) := by
  refine mw_met (cc := b_Q_removePending) (maxL := 4) (ret := (none)) (by decide) rfl (Nat.le_of_ble_eq_true rfl) ?_
  intro p e s m below meth c ls G hrt hlocks hname h hl
  have G : mw_G p m c b_Q_removePending 4 s _ (c_Q_removePending :: TB) R_Q D cl (tys cA) n0 := G
  have hx := G.1.1
  have hb := G.1.2.1
  have hl : lv_has ls 4 [(0, .ref hq), (1, .int x)] := hl
  obtain ⟨a0, u0, y0, z0, hf0, ha0⟩ := hf k (by omega)
  refine lv_aload_n hx hb d_Q_removePending_0 rfl (lv_at hl 0 rfl) ?_
  refine lv_iload_n hx hb d_Q_removePending_1 rfl (lv_at hl 1 rfl) ?_
  refine mx_ci (cV (As := [.int x]) (rest := []) G h (m_Q_hasPending hQ (x := x)) k_242 k_172 k_173 k_5 k_174 hd_Q_hasPending rfl rfl ⟨Nat.le_of_ble_eq_true rfl, Nat.le_of_ble_eq_true rfl⟩ hQ rfl rfl hl.1 rfl (Nat.le_of_ble_eq_true rfl) d_Q_removePending_2 ⟨Nat.le_of_ble_eq_true rfl, Nat.le_of_ble_eq_true rfl⟩) h (fun r_2 w_1 H locs h hcp => ?_)
  obtain ⟨er_3, ew_4⟩ := hcp
  subst er_3
  rw [ew_4] at h
  refine lv_if_ne (tgt := 9) hx hb d_Q_removePending_5 (by decide) (fun c_5 => ?_) (fun c_5 => ?_)
  · refine lv_aload_n hx hb d_Q_removePending_9 rfl (lv_at hl 0 rfl) ?_
    refine mx_get G h hQ rfl 0 (by decide) (tb_in in_Q) (tb_c k_95) rfl rfl d_Q_removePending_10 ?_
    refine lv_iload_n hx hb d_Q_removePending_13 rfl (lv_at hl 1 rfl) ?_
    refine ax_a G h 4 hP rfl k hx1 (by omega) (by decide) hf0 d_Q_removePending_14 ?_
    refine lv_astore_n (lv' := [(2, .ref a0), (0, .ref hq), (1, .int x)]) hx hb d_Q_removePending_15 rfl hl (by decide) rfl (fun ls hl => ?_)
    refine lv_aload_n hx hb d_Q_removePending_16 rfl (lv_at hl 1 rfl) ?_
    refine lv_dup hx hb d_Q_removePending_17 rfl ?_
    refine mx_get G h hQ rfl 3 (by decide) (tb_in in_Q) (tb_c k_101) rfl rfl d_Q_removePending_18 ?_
    refine lv_iconst (v := 1) hx hb d_Q_removePending_21 (by decide) ?_
    refine lv_isub hx hb d_Q_removePending_22 ?_
    have et_6 : (nI pn) - 1 = nI (pn - 1) := nI_sub1 (by omega)
    rw [et_6]
    refine mx_put G h hQ rfl 3 (by decide) (tb_in in_Q) t_Q t_Q_ok n_Q (tb_c k_101) rfl rfl rfl rfl rfl (Nat.le_of_ble_eq_true rfl) d_Q_removePending_23 (fun H locs h => ?_)
    have h : mw_H n0 D cl s (mw_up w hq (.inr (3, [.ref hp, .ref hn, .ref hr, .int (nI (pn - 1)), .int (nI cn)]))) H locs := h
    obtain ⟨w_7, ew_7⟩ : ∃ xx : mw, mw_up w hq (.inr (3, [.ref hp, .ref hn, .ref hr, .int (nI (pn - 1)), .int (nI cn)])) = xx := ⟨_, rfl⟩
    rw [ew_7] at h
    have f_8 : w_7 hp = some (refs cA 4 4 f) := by rw [← ew_7, mw_ne (mw_apart hP hQ (by simp))]; exact hP
    have f_9 : w_7 hq = some (.inr (3, [.ref hp, .ref hn, .ref hr, .int (nI (pn - 1)), .int (nI cn)])) := by rw [← ew_7]; exact mw_self
    refine lv_iload_n hx hb d_Q_removePending_26 rfl (lv_at hl 2 rfl) ?_
    refine lv_istore_n (lv' := [(3, .int x), (2, .ref a0), (0, .ref hq), (1, .int x)]) hx hb d_Q_removePending_27 rfl hl (by decide) rfl (fun ls hl => ?_)
    have et_10 : x = nI k := hx1
    rw [et_10] at hl
    have hP1 := f_8
    have loop : ∀ (t i : Nat), i + t = pn - 1 → k ≤ i → ∀ (H : Heap) (locs : List Loc) (ls : Array Slot), mw_H n0 D cl s (mw_up w_7 hp (refs cA 4 4 (shf f k i))) H locs → lv_has ls 4 [(3, .int (nI i)), (2, .ref a0), (0, .ref hq)] → W p l e (rmd 1) s m ([.ref hq, .int x] : List Value).toArray below meth c H locs 0 0 (MQ below (mw_Qv n0 D cl (fun w' => w' = mw_up (mw_up w hq (qcell hp hn hr (pn - 1) cn)) hp (refs cA 4 4 (rotf f k (pn - 1))))) ([.ref hq, .int x] : List Value).toArray s 0 0 (mw_A n0)) (F0 m 28 ls []) := by
      intro t
      induction t with
      | zero =>
        intro i hi hk H locs ls h hl
        obtain ⟨w_11, ew_11⟩ : ∃ xx : mw, mw_up w_7 hp (refs cA 4 4 (shf f k i)) = xx := ⟨_, rfl⟩
        rw [ew_11] at h
        have f_12 : w_11 hq = some (qcell hp hn hr (pn - 1) cn) := by rw [← ew_11]; rw [mw_ne (mw_apart f_9 hP1 (by simp))]; exact f_9
        have f_13 : w_11 hp = some (refs cA 4 4 (shf f k i)) := by rw [← ew_11]; exact mw_self
        have f_14 : w_11 a0 = some (kcell u0 y0 z0) := by rw [← ew_11]; rw [mw_ne (mw_apart ha0 hP (by simp)), ← ew_7, mw_ne (mw_apart ha0 hQ (by simp))]; exact ha0
        refine lv_iload_n hx hb d_Q_removePending_28 rfl (lv_at hl 0 rfl) ?_
        refine lv_aload_n hx hb d_Q_removePending_29 rfl (lv_at hl 2 rfl) ?_
        refine mx_get G h f_12 rfl 3 (by decide) (tb_in in_Q) (tb_c k_101) rfl rfl d_Q_removePending_30 ?_
        refine lv_icmp_ge (tgt := 56) hx hb d_Q_removePending_33 (by decide) (fun c_15 => ?_) (fun c_15 => ?_)
        · refine lv_aload_n hx hb d_Q_removePending_56 rfl (lv_at hl 2 rfl) ?_
          refine mx_get G h f_12 rfl 0 (by decide) (tb_in in_Q) (tb_c k_95) rfl rfl d_Q_removePending_57 ?_
          refine lv_aload_n hx hb d_Q_removePending_60 rfl (lv_at hl 2 rfl) ?_
          refine mx_get G h f_12 rfl 3 (by decide) (tb_in in_Q) (tb_c k_101) rfl rfl d_Q_removePending_61 ?_
          refine lv_aload_n hx hb d_Q_removePending_64 rfl (lv_at hl 1 rfl) ?_
          refine ax_sa G h 4 2 f_13 rfl f_14 rfl (pn - 1) rfl (by omega) (by decide) d_Q_removePending_65 (fun H locs h => ?_)
          have h : mw_H n0 D cl s (mw_up w_11 hp (.inl (cA 4, 4, .inr (.inr (.inr (.inr (va_up (shf f k i) (pn - 1) (some a0)))))))) H locs := h
          obtain ⟨w_16, ew_16⟩ : ∃ xx : mw, mw_up w_11 hp (.inl (cA 4, 4, .inr (.inr (.inr (.inr (va_up (shf f k i) (pn - 1) (some a0))))))) = xx := ⟨_, rfl⟩
          rw [ew_16] at h
          have f_17 : w_16 hq = some (qcell hp hn hr (pn - 1) cn) := by rw [← ew_16, mw_ne (mw_apart f_12 f_13 (by simp))]; exact f_12
          have f_18 : w_16 a0 = some (kcell u0 y0 z0) := by rw [← ew_16, mw_ne (mw_apart f_14 f_13 (by simp))]; exact f_14
          have f_19 : w_16 hp = some (.inl (cA 4, 4, .inr (.inr (.inr (.inr (va_up (shf f k i) (pn - 1) (some a0))))))) := by rw [← ew_16]; exact mw_self
          exact mx_retv G h hrt hlocks d_Q_removePending_66 (by rw [← ew_16, ← ew_11, mw_uu, show pn - 1 = i by omega, ← hf0, shf_rot, ← ew_7, show pn - 1 = i by omega])
        · exact absurd ((nI_leI (by omega) (by omega)).mpr (by omega)) c_15
      | succ t ih =>
        intro i hi hk H locs ls h hl
        obtain ⟨a1, u1, y1, z1, hf1, ha1⟩ := hf (i + 1) (by omega)
        obtain ⟨w_20, ew_20⟩ : ∃ xx : mw, mw_up w_7 hp (refs cA 4 4 (shf f k i)) = xx := ⟨_, rfl⟩
        rw [ew_20] at h
        have f_21 : w_20 hq = some (qcell hp hn hr (pn - 1) cn) := by rw [← ew_20]; rw [mw_ne (mw_apart f_9 hP1 (by simp))]; exact f_9
        have f_22 : w_20 hp = some (refs cA 4 4 (shf f k i)) := by rw [← ew_20]; exact mw_self
        have f_23 : w_20 a1 = some (kcell u1 y1 z1) := by rw [← ew_20]; rw [mw_ne (mw_apart ha1 hP (by simp)), ← ew_7, mw_ne (mw_apart ha1 hQ (by simp))]; exact ha1
        refine lv_iload_n hx hb d_Q_removePending_28 rfl (lv_at hl 0 rfl) ?_
        refine lv_aload_n hx hb d_Q_removePending_29 rfl (lv_at hl 2 rfl) ?_
        refine mx_get G h f_21 rfl 3 (by decide) (tb_in in_Q) (tb_c k_101) rfl rfl d_Q_removePending_30 ?_
        refine lv_icmp_ge (tgt := 56) hx hb d_Q_removePending_33 (by decide) (fun c_24 => ?_) (fun c_24 => ?_)
        · exact absurd ((nI_leI (by omega) (by omega)).mp c_24) (by omega)
        · refine lv_aload_n hx hb d_Q_removePending_36 rfl (lv_at hl 2 rfl) ?_
          refine mx_get G h f_21 rfl 0 (by decide) (tb_in in_Q) (tb_c k_95) rfl rfl d_Q_removePending_37 ?_
          refine lv_iload_n hx hb d_Q_removePending_40 rfl (lv_at hl 0 rfl) ?_
          refine lv_aload_n hx hb d_Q_removePending_41 rfl (lv_at hl 2 rfl) ?_
          refine mx_get G h f_21 rfl 0 (by decide) (tb_in in_Q) (tb_c k_95) rfl rfl d_Q_removePending_42 ?_
          refine lv_iload_n hx hb d_Q_removePending_45 rfl (lv_at hl 0 rfl) ?_
          refine lv_iconst (v := 1) hx hb d_Q_removePending_46 (by decide) ?_
          refine lv_iadd hx hb d_Q_removePending_47 ?_
          refine ax_a G h 4 f_22 rfl (i + 1) (nI_1 i) (by omega) (by decide) (by rw [shf_at (by omega)]; exact hf1) d_Q_removePending_48 ?_
          refine ax_sa G h 4 2 f_22 rfl f_23 rfl i rfl (by omega) (by decide) d_Q_removePending_49 (fun H locs h => ?_)
          have h : mw_H n0 D cl s (mw_up w_20 hp (.inl (cA 4, 4, .inr (.inr (.inr (.inr (va_up (shf f k i) i (some a1)))))))) H locs := h
          obtain ⟨w_25, ew_25⟩ : ∃ xx : mw, mw_up w_20 hp (.inl (cA 4, 4, .inr (.inr (.inr (.inr (va_up (shf f k i) i (some a1))))))) = xx := ⟨_, rfl⟩
          rw [ew_25] at h
          have f_26 : w_25 hq = some (qcell hp hn hr (pn - 1) cn) := by rw [← ew_25, mw_ne (mw_apart f_21 f_22 (by simp))]; exact f_21
          have f_27 : w_25 a1 = some (kcell u1 y1 z1) := by rw [← ew_25, mw_ne (mw_apart f_23 f_22 (by simp))]; exact f_23
          have f_28 : w_25 hp = some (.inl (cA 4, 4, .inr (.inr (.inr (.inr (va_up (shf f k i) i (some a1))))))) := by rw [← ew_25]; exact mw_self
          refine lv_iinc (v := (nI i) + 1) (lv' := [(3, .int ((nI i) + 1)), (2, .ref a0), (0, .ref hq)]) hx hb d_Q_removePending_50 hl (k := 0) rfl rfl (by decide) rfl (fun ls hl => ?_)
          refine lv_goto (tgt := 28) hx hb d_Q_removePending_53 (by decide) ?_
          rw [nI_1] at hl
          refine ih (i + 1) (by omega) (by omega) H locs ls ?_ (lv_sub hl [0, 1, 2] rfl)
          rw [← shf_va hk, hf1, ← mw_uu (e := refs cA 4 4 (shf f k i)), ew_20, ew_25]
          exact h
    refine loop (pn - 1 - k) k (by omega) (Nat.le_refl k) H locs ls ?_ (lv_sub hl [0, 1, 2] rfl)
    rw [shf_0, mw_id hP1]
    exact h
  · exact absurd c_5 (by rw [bI_t ⟨by rw [hx1]; exact nI_pos' (by omega), by rw [hx1]; exact nI_lt hk (by omega)⟩]; decide)
set_option maxHeartbeats 4000000 in
set_option maxRecDepth 100000 in
theorem m_Q_addCompletion {l : Launch} {D : va_G} {cA : Nat → ClassId} {n0 : Nat} {w : mw} {hq hp hn hr pn cn : Nat} (hQ : w hq = some (qcell hp hn hr pn cn)) {fn : Nat → Int32} {fr : Nat → Int64} (hN : w hn = some (ints cA 4 fn)) (hR : w hr = some (longs cA 4 fr)) (hcn : cn < 4) {x : Int32} {y : Int64} :
    Mv l D cA n0 y_Q_addCompletion c_Q_addCompletion (rmd 0) [.ref hq, .int x, .long y] w (fun w' => w' = mw_up (mw_up (mw_up w hn (ints cA 4 (upd fn cn x))) hr (longs cA 4 (vp_updL fr cn y))) hq (qcell hp hn hr pn (cn + 1))) := by
  refine mw_met (cc := b_Q_addCompletion) (maxL := 4) (ret := (none)) (by decide) rfl (Nat.le_of_ble_eq_true rfl) ?_
  intro p e s m below meth c ls G hrt hlocks hname h hl
  have G : mw_G p m c b_Q_addCompletion 4 s _ (c_Q_addCompletion :: TB) R_Q D cl (tys cA) n0 := G
  have hx := G.1.1
  have hb := G.1.2.1
  have hl : lv_has ls 4 [(0, .ref hq), (1, .int x), (2, .long y)] := hl
  refine lv_aload_n hx hb d_Q_addCompletion_0 rfl (lv_at hl 0 rfl) ?_
  refine mx_get G h hQ rfl 4 (by decide) (tb_in in_Q) (tb_c k_104) rfl rfl d_Q_addCompletion_1 ?_
  refine lv_iconst (v := 4) hx hb d_Q_addCompletion_4 (by decide) ?_
  refine lv_icmp_lt (tgt := 9) hx hb d_Q_addCompletion_5 (by decide) (fun c_1 => ?_) (fun c_1 => ?_)
  · refine lv_aload_n hx hb d_Q_addCompletion_9 rfl (lv_at hl 0 rfl) ?_
    refine mx_get G h hQ rfl 1 (by decide) (tb_in in_Q) (tb_c k_97) rfl rfl d_Q_addCompletion_10 ?_
    refine lv_aload_n hx hb d_Q_addCompletion_13 rfl (lv_at hl 0 rfl) ?_
    refine mx_get G h hQ rfl 4 (by decide) (tb_in in_Q) (tb_c k_104) rfl rfl d_Q_addCompletion_14 ?_
    refine lv_iload_n hx hb d_Q_addCompletion_17 rfl (lv_at hl 1 rfl) ?_
    refine ax_si G h hN cn rfl hcn (by decide) d_Q_addCompletion_18 (fun H locs h => ?_)
    have h : mw_H n0 D cl s (mw_up w hn (.inl (cA 0, 4, .inl (upd fn cn x)))) H locs := h
    obtain ⟨w_2, ew_2⟩ : ∃ xx : mw, mw_up w hn (.inl (cA 0, 4, .inl (upd fn cn x))) = xx := ⟨_, rfl⟩
    rw [ew_2] at h
    have f_3 : w_2 hq = some (qcell hp hn hr pn cn) := by rw [← ew_2, mw_ne (mw_apart hQ hN (by simp))]; exact hQ
    have f_4 : w_2 hr = some (longs cA 4 fr) := by rw [← ew_2, mw_ne (mw_apart hR hN (by simp))]; exact hR
    have f_5 : w_2 hn = some (.inl (cA 0, 4, .inl (upd fn cn x))) := by rw [← ew_2]; exact mw_self
    refine lv_aload_n hx hb d_Q_addCompletion_19 rfl (lv_at hl 0 rfl) ?_
    refine mx_get G h f_3 rfl 2 (by decide) (tb_in in_Q) (tb_c k_99) rfl rfl d_Q_addCompletion_20 ?_
    refine lv_aload_n hx hb d_Q_addCompletion_23 rfl (lv_at hl 0 rfl) ?_
    refine mx_get G h f_3 rfl 4 (by decide) (tb_in in_Q) (tb_c k_104) rfl rfl d_Q_addCompletion_24 ?_
    refine lv_lload_n hx hb d_Q_addCompletion_27 rfl (lv_at hl 2 rfl) ?_
    refine ax_sl G h f_4 cn rfl hcn (by decide) d_Q_addCompletion_28 (fun H locs h => ?_)
    have h : mw_H n0 D cl s (mw_up w_2 hr (.inl (cA 1, 4, .inr (.inl (vp_updL fr cn y))))) H locs := h
    obtain ⟨w_6, ew_6⟩ : ∃ xx : mw, mw_up w_2 hr (.inl (cA 1, 4, .inr (.inl (vp_updL fr cn y)))) = xx := ⟨_, rfl⟩
    rw [ew_6] at h
    have f_7 : w_6 hq = some (qcell hp hn hr pn cn) := by rw [← ew_6, mw_ne (mw_apart f_3 f_4 (by simp))]; exact f_3
    have f_8 : w_6 hn = some (.inl (cA 0, 4, .inl (upd fn cn x))) := by rw [← ew_6, mw_ne (mw_apart f_5 f_4 (by simp))]; exact f_5
    have f_9 : w_6 hr = some (.inl (cA 1, 4, .inr (.inl (vp_updL fr cn y)))) := by rw [← ew_6]; exact mw_self
    refine lv_aload_n hx hb d_Q_addCompletion_29 rfl (lv_at hl 0 rfl) ?_
    refine lv_dup hx hb d_Q_addCompletion_30 rfl ?_
    refine mx_get G h f_7 rfl 4 (by decide) (tb_in in_Q) (tb_c k_104) rfl rfl d_Q_addCompletion_31 ?_
    refine lv_iconst (v := 1) hx hb d_Q_addCompletion_34 (by decide) ?_
    refine lv_iadd hx hb d_Q_addCompletion_35 ?_
    refine mx_put G h f_7 rfl 4 (by decide) (tb_in in_Q) t_Q t_Q_ok n_Q (tb_c k_104) rfl rfl rfl rfl rfl (Nat.le_of_ble_eq_true rfl) d_Q_addCompletion_36 (fun H locs h => ?_)
    have h : mw_H n0 D cl s (mw_up w_6 hq (.inr (3, [.ref hp, .ref hn, .ref hr, .int (nI pn), .int ((nI cn) + 1)]))) H locs := h
    obtain ⟨w_10, ew_10⟩ : ∃ xx : mw, mw_up w_6 hq (.inr (3, [.ref hp, .ref hn, .ref hr, .int (nI pn), .int ((nI cn) + 1)])) = xx := ⟨_, rfl⟩
    rw [ew_10] at h
    have f_11 : w_10 hn = some (.inl (cA 0, 4, .inl (upd fn cn x))) := by rw [← ew_10, mw_ne (mw_apart f_8 f_7 (by simp))]; exact f_8
    have f_12 : w_10 hr = some (.inl (cA 1, 4, .inr (.inl (vp_updL fr cn y)))) := by rw [← ew_10, mw_ne (mw_apart f_9 f_7 (by simp))]; exact f_9
    have f_13 : w_10 hq = some (.inr (3, [.ref hp, .ref hn, .ref hr, .int (nI pn), .int ((nI cn) + 1)])) := by rw [← ew_10]; exact mw_self
    exact mx_retv G h hrt hlocks d_Q_addCompletion_39 (by rw [← ew_10, ← ew_6, ← ew_2, nI_1])
  · exact absurd (nI_lt hcn (by omega)) c_1
set_option maxHeartbeats 4000000 in
set_option maxRecDepth 100000 in
theorem m_Q_removeOldestCompletion {l : Launch} {D : va_G} {cA : Nat → ClassId} {n0 : Nat} {w : mw} {hq hp hn hr pn cn : Nat} (hQ : w hq = some (qcell hp hn hr pn cn)) {fn : Nat → Int32} {fr : Nat → Int64} (hN : w hn = some (ints cA 4 fn)) (hR : w hr = some (longs cA 4 fr)) (h0 : 0 < cn) (hcn : cn ≤ 4) :
    Mv l D cA n0 y_Q_removeOldestCompletion c_Q_removeOldestCompletion (rmd 0) [.ref hq] w (fun w' => w' = mw_up (mw_up (mw_up w hq (qcell hp hn hr pn (cn - 1))) hn (ints cA 4 (shf fn 0 (cn - 1)))) hr (longs cA 4 (shf fr 0 (cn - 1)))) := by
  refine mw_met (cc := b_Q_removeOldestCompletion) (maxL := 2) (ret := (none)) (by decide) rfl (Nat.le_of_ble_eq_true rfl) ?_
  intro p e s m below meth c ls G hrt hlocks hname h hl
  have G : mw_G p m c b_Q_removeOldestCompletion 2 s _ (c_Q_removeOldestCompletion :: TB) R_Q D cl (tys cA) n0 := G
  have hx := G.1.1
  have hb := G.1.2.1
  have hl : lv_has ls 2 [(0, .ref hq)] := hl
  refine lv_aload_n hx hb d_Q_removeOldestCompletion_0 rfl (lv_at hl 0 rfl) ?_
  refine mx_get G h hQ rfl 4 (by decide) (tb_in in_Q) (tb_c k_104) rfl rfl d_Q_removeOldestCompletion_1 ?_
  refine lv_if_ne (tgt := 8) hx hb d_Q_removeOldestCompletion_4 (by decide) (fun c_1 => ?_) (fun c_1 => ?_)
  · refine lv_aload_n hx hb d_Q_removeOldestCompletion_8 rfl (lv_at hl 0 rfl) ?_
    refine lv_dup hx hb d_Q_removeOldestCompletion_9 rfl ?_
    refine mx_get G h hQ rfl 4 (by decide) (tb_in in_Q) (tb_c k_104) rfl rfl d_Q_removeOldestCompletion_10 ?_
    refine lv_iconst (v := 1) hx hb d_Q_removeOldestCompletion_13 (by decide) ?_
    refine lv_isub hx hb d_Q_removeOldestCompletion_14 ?_
    have et_2 : (nI cn) - 1 = nI (cn - 1) := nI_sub1 h0
    rw [et_2]
    refine mx_put G h hQ rfl 4 (by decide) (tb_in in_Q) t_Q t_Q_ok n_Q (tb_c k_104) rfl rfl rfl rfl rfl (Nat.le_of_ble_eq_true rfl) d_Q_removeOldestCompletion_15 (fun H locs h => ?_)
    have h : mw_H n0 D cl s (mw_up w hq (.inr (3, [.ref hp, .ref hn, .ref hr, .int (nI pn), .int (nI (cn - 1))]))) H locs := h
    obtain ⟨w_3, ew_3⟩ : ∃ xx : mw, mw_up w hq (.inr (3, [.ref hp, .ref hn, .ref hr, .int (nI pn), .int (nI (cn - 1))])) = xx := ⟨_, rfl⟩
    rw [ew_3] at h
    have f_4 : w_3 hn = some (ints cA 4 fn) := by rw [← ew_3, mw_ne (mw_apart hN hQ (by simp))]; exact hN
    have f_5 : w_3 hr = some (longs cA 4 fr) := by rw [← ew_3, mw_ne (mw_apart hR hQ (by simp))]; exact hR
    have f_6 : w_3 hq = some (.inr (3, [.ref hp, .ref hn, .ref hr, .int (nI pn), .int (nI (cn - 1))])) := by rw [← ew_3]; exact mw_self
    refine lv_iconst (v := 0) hx hb d_Q_removeOldestCompletion_18 (by decide) ?_
    refine lv_istore_n (lv' := [(1, .int 0), (0, .ref hq)]) hx hb d_Q_removeOldestCompletion_19 rfl hl (by decide) rfl (fun ls hl => ?_)
    have loop : ∀ (t i : Nat), i + t = cn - 1 → ∀ (H : Heap) (locs : List Loc) (ls : Array Slot), mw_H n0 D cl s (mw_up (mw_up w_3 hn (ints cA 4 (shf fn 0 i))) hr (longs cA 4 (shf fr 0 i))) H locs → lv_has ls 2 [(1, .int (nI i)), (0, .ref hq)] → W p l e (rmd 0) s m ([.ref hq] : List Value).toArray below meth c H locs 0 0 (MQ below (mw_Qv n0 D cl (fun w' => w' = mw_up (mw_up (mw_up w hq (qcell hp hn hr pn (cn - 1))) hn (ints cA 4 (shf fn 0 (cn - 1)))) hr (longs cA 4 (shf fr 0 (cn - 1))))) ([.ref hq] : List Value).toArray s 0 0 (mw_A n0)) (F0 m 20 ls []) := by
      intro t
      induction t with
      | zero =>
        intro i hi H locs ls h hl
        obtain ⟨w_7, ew_7⟩ : ∃ xx : mw, mw_up (mw_up w_3 hn (ints cA 4 (shf fn 0 i))) hr (longs cA 4 (shf fr 0 i)) = xx := ⟨_, rfl⟩
        rw [ew_7] at h
        have f_8 : w_7 hq = some (qcell hp hn hr pn (cn - 1)) := by rw [← ew_7]; rw [mw_ne (mw_apart f_6 f_5 (by simp)), mw_ne (mw_apart f_6 f_4 (by simp))]; exact f_6
        have f_9 : w_7 hn = some (ints cA 4 (shf fn 0 i)) := by rw [← ew_7]; rw [mw_ne (mw_apart f_4 f_5 (by simp))]; exact mw_self
        have f_10 : w_7 hr = some (longs cA 4 (shf fr 0 i)) := by rw [← ew_7]; exact mw_self
        refine lv_iload_n hx hb d_Q_removeOldestCompletion_20 rfl (lv_at hl 0 rfl) ?_
        refine lv_aload_n hx hb d_Q_removeOldestCompletion_21 rfl (lv_at hl 1 rfl) ?_
        refine mx_get G h f_8 rfl 4 (by decide) (tb_in in_Q) (tb_c k_104) rfl rfl d_Q_removeOldestCompletion_22 ?_
        refine lv_icmp_ge (tgt := 62) hx hb d_Q_removeOldestCompletion_25 (by decide) (fun c_11 => ?_) (fun c_11 => ?_)
        · exact mx_retv G h hrt hlocks d_Q_removeOldestCompletion_62 (by rw [← ew_7, ← ew_3, show cn - 1 = i by omega])
        · exact absurd ((nI_leI (by omega) (by omega)).mpr (by omega)) c_11
      | succ t ih =>
        intro i hi H locs ls h hl
        obtain ⟨w_12, ew_12⟩ : ∃ xx : mw, mw_up (mw_up w_3 hn (ints cA 4 (shf fn 0 i))) hr (longs cA 4 (shf fr 0 i)) = xx := ⟨_, rfl⟩
        rw [ew_12] at h
        have f_13 : w_12 hq = some (qcell hp hn hr pn (cn - 1)) := by rw [← ew_12]; rw [mw_ne (mw_apart f_6 f_5 (by simp)), mw_ne (mw_apart f_6 f_4 (by simp))]; exact f_6
        have f_14 : w_12 hn = some (ints cA 4 (shf fn 0 i)) := by rw [← ew_12]; rw [mw_ne (mw_apart f_4 f_5 (by simp))]; exact mw_self
        have f_15 : w_12 hr = some (longs cA 4 (shf fr 0 i)) := by rw [← ew_12]; exact mw_self
        refine lv_iload_n hx hb d_Q_removeOldestCompletion_20 rfl (lv_at hl 0 rfl) ?_
        refine lv_aload_n hx hb d_Q_removeOldestCompletion_21 rfl (lv_at hl 1 rfl) ?_
        refine mx_get G h f_13 rfl 4 (by decide) (tb_in in_Q) (tb_c k_104) rfl rfl d_Q_removeOldestCompletion_22 ?_
        refine lv_icmp_ge (tgt := 62) hx hb d_Q_removeOldestCompletion_25 (by decide) (fun c_16 => ?_) (fun c_16 => ?_)
        · exact absurd ((nI_leI (by omega) (by omega)).mp c_16) (by omega)
        · refine lv_aload_n hx hb d_Q_removeOldestCompletion_28 rfl (lv_at hl 1 rfl) ?_
          refine mx_get G h f_13 rfl 1 (by decide) (tb_in in_Q) (tb_c k_97) rfl rfl d_Q_removeOldestCompletion_29 ?_
          refine lv_iload_n hx hb d_Q_removeOldestCompletion_32 rfl (lv_at hl 0 rfl) ?_
          refine lv_aload_n hx hb d_Q_removeOldestCompletion_33 rfl (lv_at hl 1 rfl) ?_
          refine mx_get G h f_13 rfl 1 (by decide) (tb_in in_Q) (tb_c k_97) rfl rfl d_Q_removeOldestCompletion_34 ?_
          refine lv_iload_n hx hb d_Q_removeOldestCompletion_37 rfl (lv_at hl 0 rfl) ?_
          refine lv_iconst (v := 1) hx hb d_Q_removeOldestCompletion_38 (by decide) ?_
          refine lv_iadd hx hb d_Q_removeOldestCompletion_39 ?_
          refine ax_i G h f_14 (i + 1) (nI_1 i) (by omega) (by decide) d_Q_removeOldestCompletion_40 ?_
          have et_17 : (shf fn 0 i) (i + 1) = fn (i + 1) := shf_at (by omega)
          rw [et_17]
          refine ax_si G h f_14 i rfl (by omega) (by decide) d_Q_removeOldestCompletion_41 (fun H locs h => ?_)
          have h : mw_H n0 D cl s (mw_up w_12 hn (.inl (cA 0, 4, .inl (upd (shf fn 0 i) i (fn (i + 1)))))) H locs := h
          obtain ⟨w_18, ew_18⟩ : ∃ xx : mw, mw_up w_12 hn (.inl (cA 0, 4, .inl (upd (shf fn 0 i) i (fn (i + 1))))) = xx := ⟨_, rfl⟩
          rw [ew_18] at h
          have f_19 : w_18 hq = some (qcell hp hn hr pn (cn - 1)) := by rw [← ew_18, mw_ne (mw_apart f_13 f_14 (by simp))]; exact f_13
          have f_20 : w_18 hr = some (longs cA 4 (shf fr 0 i)) := by rw [← ew_18, mw_ne (mw_apart f_15 f_14 (by simp))]; exact f_15
          have f_21 : w_18 hn = some (.inl (cA 0, 4, .inl (upd (shf fn 0 i) i (fn (i + 1))))) := by rw [← ew_18]; exact mw_self
          refine lv_aload_n hx hb d_Q_removeOldestCompletion_42 rfl (lv_at hl 1 rfl) ?_
          refine mx_get G h f_19 rfl 2 (by decide) (tb_in in_Q) (tb_c k_99) rfl rfl d_Q_removeOldestCompletion_43 ?_
          refine lv_iload_n hx hb d_Q_removeOldestCompletion_46 rfl (lv_at hl 0 rfl) ?_
          refine lv_aload_n hx hb d_Q_removeOldestCompletion_47 rfl (lv_at hl 1 rfl) ?_
          refine mx_get G h f_19 rfl 2 (by decide) (tb_in in_Q) (tb_c k_99) rfl rfl d_Q_removeOldestCompletion_48 ?_
          refine lv_iload_n hx hb d_Q_removeOldestCompletion_51 rfl (lv_at hl 0 rfl) ?_
          refine lv_iconst (v := 1) hx hb d_Q_removeOldestCompletion_52 (by decide) ?_
          refine lv_iadd hx hb d_Q_removeOldestCompletion_53 ?_
          refine ax_l G h f_20 (i + 1) (nI_1 i) (by omega) (by decide) d_Q_removeOldestCompletion_54 ?_
          have et_22 : (shf fr 0 i) (i + 1) = fr (i + 1) := shf_at (by omega)
          rw [et_22]
          refine ax_sl G h f_20 i rfl (by omega) (by decide) d_Q_removeOldestCompletion_55 (fun H locs h => ?_)
          have h : mw_H n0 D cl s (mw_up w_18 hr (.inl (cA 1, 4, .inr (.inl (vp_updL (shf fr 0 i) i (fr (i + 1))))))) H locs := h
          obtain ⟨w_23, ew_23⟩ : ∃ xx : mw, mw_up w_18 hr (.inl (cA 1, 4, .inr (.inl (vp_updL (shf fr 0 i) i (fr (i + 1)))))) = xx := ⟨_, rfl⟩
          rw [ew_23] at h
          have f_24 : w_23 hq = some (qcell hp hn hr pn (cn - 1)) := by rw [← ew_23, mw_ne (mw_apart f_19 f_20 (by simp))]; exact f_19
          have f_25 : w_23 hn = some (.inl (cA 0, 4, .inl (upd (shf fn 0 i) i (fn (i + 1))))) := by rw [← ew_23, mw_ne (mw_apart f_21 f_20 (by simp))]; exact f_21
          have f_26 : w_23 hr = some (.inl (cA 1, 4, .inr (.inl (vp_updL (shf fr 0 i) i (fr (i + 1)))))) := by rw [← ew_23]; exact mw_self
          refine lv_iinc (v := (nI i) + 1) (lv' := [(1, .int ((nI i) + 1)), (0, .ref hq)]) hx hb d_Q_removeOldestCompletion_56 hl (k := 0) rfl rfl (by decide) rfl (fun ls hl => ?_)
          refine lv_goto (tgt := 20) hx hb d_Q_removeOldestCompletion_59 (by decide) ?_
          rw [nI_1] at hl
          refine ih (i + 1) (by omega) H locs ls ?_ (lv_sub hl [0, 1] rfl)
          have q1 : mw_up (mw_up w_3 hn (ints cA 4 (shf fn 0 (i + 1)))) hr (longs cA 4 (shf fr 0 (i + 1))) = w_23 := by
            rw [← ew_23, ← ew_18, ← ew_12, ← shf_i (Nat.zero_le i), ← shf_l (Nat.zero_le i)]
            funext b
            have hne : hn ≠ hr := mw_apart f_4 f_5 (by simp)
            by_cases b1 : b = hr
            · subst b1; simp only [mw_self]
            · rw [mw_ne b1, mw_ne b1]
              by_cases b2 : b = hn
              · subst b2; simp only [mw_self]
              · simp only [mw_ne b1, mw_ne b2]
          rw [q1]
          exact h
    refine loop (cn - 1) 0 (by omega) H locs ls ?_ (lv_sub hl [0, 1] rfl)
    rw [shf_0, shf_0, mw_id f_4, mw_id f_5]
    exact h
  · exact absurd c_1 (nI_ne0 h0 (by omega))
