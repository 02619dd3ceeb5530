theorem toI_neg {x : Int32} (h : x < 0) : x.toInt < 0 := by
  have := Int32.lt_iff_toInt_lt.mp h
  simpa using this
theorem toI_big {x : Int32} {n : Nat} (hn : n + 1 < 2 ^ 31) (h : nI (n + 1) ≤ x) : (n : Int) < x.toInt := by
  have := Int32.le_iff_toInt_le.mp h
  rw [nI_toInt hn] at this
  omega
theorem d_D_word_0 : decode b_D_word 0 = .ok (.iload_n 1, 1) := by decide +kernel
theorem d_D_word_1 : decode b_D_word 1 = .ok (.invokestatic 122, 3) := by decide +kernel
theorem d_D_word_4 : decode b_D_word 4 = .ok (.ifCond .eq 11, 3) := by decide +kernel
theorem d_D_word_7 : decode b_D_word 7 = .ok (.aload_n 0, 1) := by decide +kernel
theorem d_D_word_8 : decode b_D_word 8 = .ok (.iload_n 1, 1) := by decide +kernel
theorem d_D_word_9 : decode b_D_word 9 = .ok (.invokevirtual 125, 3) := by decide +kernel
theorem d_D_word_12 : decode b_D_word 12 = .ok (.goto 6, 3) := by decide +kernel
theorem d_D_word_15 : decode b_D_word 15 = .ok (.ldc2_w 13, 3) := by decide +kernel
theorem d_D_word_18 : decode b_D_word 18 = .ok (.lreturn, 1) := by decide +kernel
theorem d_D_flash_0 : decode b_D_flash 0 = .ok (.iload_n 1, 1) := by decide +kernel
theorem d_D_flash_1 : decode b_D_flash 1 = .ok (.invokestatic 122, 3) := by decide +kernel
theorem d_D_flash_4 : decode b_D_flash 4 = .ok (.ifCond .eq 12, 3) := by decide +kernel
theorem d_D_flash_7 : decode b_D_flash 7 = .ok (.aload_n 0, 1) := by decide +kernel
theorem d_D_flash_8 : decode b_D_flash 8 = .ok (.getfield 9, 3) := by decide +kernel
theorem d_D_flash_11 : decode b_D_flash 11 = .ok (.iload_n 1, 1) := by decide +kernel
theorem d_D_flash_12 : decode b_D_flash 12 = .ok (.laload, 1) := by decide +kernel
theorem d_D_flash_13 : decode b_D_flash 13 = .ok (.goto 6, 3) := by decide +kernel
theorem d_D_flash_16 : decode b_D_flash 16 = .ok (.ldc2_w 13, 3) := by decide +kernel
theorem d_D_flash_19 : decode b_D_flash 19 = .ok (.lreturn, 1) := by decide +kernel
theorem d_D_queue_0 : decode b_D_queue 0 = .ok (.iload_n 1, 1) := by decide +kernel
theorem d_D_queue_1 : decode b_D_queue 1 = .ok (.invokestatic 44, 3) := by decide +kernel
theorem d_D_queue_4 : decode b_D_queue 4 = .ok (.ifCond .ne 5, 3) := by decide +kernel
theorem d_D_queue_7 : decode b_D_queue 7 = .ok (.iconst (-1), 1) := by decide +kernel
theorem d_D_queue_8 : decode b_D_queue 8 = .ok (.ireturn, 1) := by decide +kernel
theorem d_D_queue_9 : decode b_D_queue 9 = .ok (.aload_n 0, 1) := by decide +kernel
theorem d_D_queue_10 : decode b_D_queue 10 = .ok (.getfield 35, 3) := by decide +kernel
theorem d_D_queue_13 : decode b_D_queue 13 = .ok (.iload_n 1, 1) := by decide +kernel
theorem d_D_queue_14 : decode b_D_queue 14 = .ok (.aaload, 1) := by decide +kernel
theorem d_D_queue_15 : decode b_D_queue 15 = .ok (.astore_n 3, 1) := by decide +kernel
theorem d_D_queue_16 : decode b_D_queue 16 = .ok (.iload_n 2, 1) := by decide +kernel
theorem d_D_queue_17 : decode b_D_queue 17 = .ok (.tableswitch 75 0 5 #[39, 44, 49, 49, 49, 49], 39) := by decide +kernel
theorem d_D_queue_56 : decode b_D_queue 56 = .ok (.aload_n 3, 1) := by decide +kernel
theorem d_D_queue_57 : decode b_D_queue 57 = .ok (.getfield 52, 3) := by decide +kernel
theorem d_D_queue_60 : decode b_D_queue 60 = .ok (.ireturn, 1) := by decide +kernel
theorem d_D_queue_61 : decode b_D_queue 61 = .ok (.aload_n 3, 1) := by decide +kernel
theorem d_D_queue_62 : decode b_D_queue 62 = .ok (.getfield 96, 3) := by decide +kernel
theorem d_D_queue_65 : decode b_D_queue 65 = .ok (.ireturn, 1) := by decide +kernel
theorem d_D_queue_66 : decode b_D_queue 66 = .ok (.aload_n 3, 1) := by decide +kernel
theorem d_D_queue_67 : decode b_D_queue 67 = .ok (.iload_n 2, 1) := by decide +kernel
theorem d_D_queue_68 : decode b_D_queue 68 = .ok (.iconst 2, 1) := by decide +kernel
theorem d_D_queue_69 : decode b_D_queue 69 = .ok (.isub, 1) := by decide +kernel
theorem d_D_queue_70 : decode b_D_queue 70 = .ok (.invokevirtual 129, 3) := by decide +kernel
theorem d_D_queue_73 : decode b_D_queue 73 = .ok (.ifCond .eq 17, 3) := by decide +kernel
theorem d_D_queue_76 : decode b_D_queue 76 = .ok (.aload_n 3, 1) := by decide +kernel
theorem d_D_queue_77 : decode b_D_queue 77 = .ok (.getfield 78, 3) := by decide +kernel
theorem d_D_queue_80 : decode b_D_queue 80 = .ok (.iload_n 2, 1) := by decide +kernel
theorem d_D_queue_81 : decode b_D_queue 81 = .ok (.iconst 2, 1) := by decide +kernel
theorem d_D_queue_82 : decode b_D_queue 82 = .ok (.isub, 1) := by decide +kernel
theorem d_D_queue_83 : decode b_D_queue 83 = .ok (.aaload, 1) := by decide +kernel
theorem d_D_queue_84 : decode b_D_queue 84 = .ok (.getfield 89, 3) := by decide +kernel
theorem d_D_queue_87 : decode b_D_queue 87 = .ok (.goto 4, 3) := by decide +kernel
theorem d_D_queue_90 : decode b_D_queue 90 = .ok (.iconst (-1), 1) := by decide +kernel
theorem d_D_queue_91 : decode b_D_queue 91 = .ok (.ireturn, 1) := by decide +kernel
theorem d_D_queue_92 : decode b_D_queue 92 = .ok (.iconst (-1), 1) := by decide +kernel
theorem d_D_queue_93 : decode b_D_queue 93 = .ok (.ireturn, 1) := by decide +kernel
theorem d_D_unit_0 : decode b_D_unit 0 = .ok (.iload_n 1, 1) := by decide +kernel
theorem d_D_unit_1 : decode b_D_unit 1 = .ok (.ifCond .lt 14, 3) := by decide +kernel
theorem d_D_unit_4 : decode b_D_unit 4 = .ok (.iload_n 1, 1) := by decide +kernel
theorem d_D_unit_5 : decode b_D_unit 5 = .ok (.aload_n 0, 1) := by decide +kernel
theorem d_D_unit_6 : decode b_D_unit 6 = .ok (.getfield 29, 3) := by decide +kernel
theorem d_D_unit_9 : decode b_D_unit 9 = .ok (.getfield 132, 3) := by decide +kernel
theorem d_D_unit_12 : decode b_D_unit 12 = .ok (.if_icmp .lt 5, 3) := by decide +kernel
theorem d_D_unit_15 : decode b_D_unit 15 = .ok (.iconst (-1), 1) := by decide +kernel
theorem d_D_unit_16 : decode b_D_unit 16 = .ok (.ireturn, 1) := by decide +kernel
theorem d_D_unit_17 : decode b_D_unit 17 = .ok (.aload_n 0, 1) := by decide +kernel
theorem d_D_unit_18 : decode b_D_unit 18 = .ok (.getfield 29, 3) := by decide +kernel
theorem d_D_unit_21 : decode b_D_unit 21 = .ok (.getfield 135, 3) := by decide +kernel
theorem d_D_unit_24 : decode b_D_unit 24 = .ok (.iload_n 1, 1) := by decide +kernel
theorem d_D_unit_25 : decode b_D_unit 25 = .ok (.aaload, 1) := by decide +kernel
theorem d_D_unit_26 : decode b_D_unit 26 = .ok (.astore_n 3, 1) := by decide +kernel
theorem d_D_unit_27 : decode b_D_unit 27 = .ok (.iload_n 2, 1) := by decide +kernel
theorem d_D_unit_28 : decode b_D_unit 28 = .ok (.tableswitch 51 0 2 #[28, 33, 38], 28) := by decide +kernel
theorem d_D_unit_56 : decode b_D_unit 56 = .ok (.aload_n 3, 1) := by decide +kernel
theorem d_D_unit_57 : decode b_D_unit 57 = .ok (.getfield 139, 3) := by decide +kernel
theorem d_D_unit_60 : decode b_D_unit 60 = .ok (.ireturn, 1) := by decide +kernel
theorem d_D_unit_61 : decode b_D_unit 61 = .ok (.aload_n 3, 1) := by decide +kernel
theorem d_D_unit_62 : decode b_D_unit 62 = .ok (.getfield 142, 3) := by decide +kernel
theorem d_D_unit_65 : decode b_D_unit 65 = .ok (.ireturn, 1) := by decide +kernel
theorem d_D_unit_66 : decode b_D_unit 66 = .ok (.aload_n 3, 1) := by decide +kernel
theorem d_D_unit_67 : decode b_D_unit 67 = .ok (.getfield 145, 3) := by decide +kernel
theorem d_D_unit_70 : decode b_D_unit 70 = .ok (.ifCond .eq 7, 3) := by decide +kernel
theorem d_D_unit_73 : decode b_D_unit 73 = .ok (.iconst 1, 1) := by decide +kernel
theorem d_D_unit_74 : decode b_D_unit 74 = .ok (.goto 4, 3) := by decide +kernel
theorem d_D_unit_77 : decode b_D_unit 77 = .ok (.iconst 0, 1) := by decide +kernel
theorem d_D_unit_78 : decode b_D_unit 78 = .ok (.ireturn, 1) := by decide +kernel
theorem d_D_unit_79 : decode b_D_unit 79 = .ok (.iconst (-1), 1) := by decide +kernel
theorem d_D_unit_80 : decode b_D_unit 80 = .ok (.ireturn, 1) := by decide +kernel
theorem d_D_count_0 : decode b_D_count 0 = .ok (.iload_n 1, 1) := by decide +kernel
theorem d_D_count_1 : decode b_D_count 1 = .ok (.tableswitch 63 0 4 #[35, 43, 48, 53, 58], 35) := by decide +kernel
theorem d_D_count_36 : decode b_D_count 36 = .ok (.aload_n 0, 1) := by decide +kernel
theorem d_D_count_37 : decode b_D_count 37 = .ok (.getfield 29, 3) := by decide +kernel
theorem d_D_count_40 : decode b_D_count 40 = .ok (.getfield 132, 3) := by decide +kernel
theorem d_D_count_43 : decode b_D_count 43 = .ok (.ireturn, 1) := by decide +kernel
theorem d_D_count_44 : decode b_D_count 44 = .ok (.aload_n 0, 1) := by decide +kernel
theorem d_D_count_45 : decode b_D_count 45 = .ok (.getfield 56, 3) := by decide +kernel
theorem d_D_count_48 : decode b_D_count 48 = .ok (.ireturn, 1) := by decide +kernel
theorem d_D_count_49 : decode b_D_count 49 = .ok (.aload_n 0, 1) := by decide +kernel
theorem d_D_count_50 : decode b_D_count 50 = .ok (.getfield 149, 3) := by decide +kernel
theorem d_D_count_53 : decode b_D_count 53 = .ok (.ireturn, 1) := by decide +kernel
theorem d_D_count_54 : decode b_D_count 54 = .ok (.aload_n 0, 1) := by decide +kernel
theorem d_D_count_55 : decode b_D_count 55 = .ok (.getfield 152, 3) := by decide +kernel
theorem d_D_count_58 : decode b_D_count 58 = .ok (.ireturn, 1) := by decide +kernel
theorem d_D_count_59 : decode b_D_count 59 = .ok (.aload_n 0, 1) := by decide +kernel
theorem d_D_count_60 : decode b_D_count 60 = .ok (.getfield 103, 3) := by decide +kernel
theorem d_D_count_63 : decode b_D_count 63 = .ok (.ireturn, 1) := by decide +kernel
theorem d_D_count_64 : decode b_D_count 64 = .ok (.iconst (-1), 1) := by decide +kernel
theorem d_D_count_65 : decode b_D_count 65 = .ok (.ireturn, 1) := by decide +kernel
set_option maxHeartbeats 4000000 in
set_option maxRecDepth 100000 in
theorem m_D_word {l : Launch} {D : va_G} {cA : Nat → ClassId} {n0 : Nat} {w : mw} {ρ k : Nat → Nat} {L : Nat} {fl : Nat → Int64} {us : List uU} {sn pw : Nat} {pq : Nat → List pC} {cq : Nat → List (Int32 × Int64)} {ln : Nat} {tn : Int32} {tr : Int64} (Y : DR cA w ρ k L (fl, us, sn, pw, pq, cq, ln, tn, tr)) {x : Int32} :
    Ml l D cA n0 y_D_word c_D_word (rmd 2) [.ref (k 0), .int x] w (fun r w' => r = wordS (fl, us, sn, pw, pq, cq, ln, tn, tr) x ∧ w' = w) := by
  refine mw_met (cc := b_D_word) (maxL := 2) (ret := (some .long)) (by decide) rfl (Nat.le_of_ble_eq_true rfl) ?_
  intro p e s m below meth c ls G hrt hlocks hname h hl
  have G : mw_G p m c b_D_word 2 s _ (c_D_word :: TB) R_D D cl (tys cA) n0 := G
  have hx := G.1.1
  have hb := G.1.2.1
  have hl : lv_has ls 2 [(0, .ref (k 0)), (1, .int x)] := hl
  obtain ⟨pl, Z⟩ := id Y
  have Z : DRp cA w ρ k L fl us sn pw pq cq ln tn tr pl := Z
  obtain ⟨K0, ⟨qf, hq1, hq2⟩, hQ, r0, r1, r4, hL1, hvC⟩ := id Z
  have hD : w (k 0) = some (dcell (k 1) (k 2) (k 4) ln tn tr sn pw pl) := K0.1
  refine lv_iload_n hx hb d_D_word_0 rfl (lv_at hl 1 rfl) ?_
  refine mx_ci (cS (As := [.int x]) (rest := []) G h (m_D_isAddress (x := x)) k_283 k_284 k_1 k_285 rfl hd_D_isAddress rfl rfl ⟨Nat.le_of_ble_eq_true rfl, Nat.le_of_ble_eq_true rfl⟩ rfl hl.1 rfl (Nat.le_of_ble_eq_true rfl) d_D_word_1 ⟨Nat.le_of_ble_eq_true rfl, Nat.le_of_ble_eq_true rfl⟩) h (fun r_2 w_1 H locs h hcp => ?_)
  obtain ⟨er_3, ew_4⟩ := hcp
  subst er_3
  rw [ew_4] at h
  refine lv_if_eq (tgt := 15) hx hb d_D_word_4 (by decide) (fun c_5 => ?_) (fun c_5 => ?_)
  · refine lv_ldc2 (v := NN) hx hb G.1.2.2.2.1 (G.1.2.2.2.2 _ (tb_c k_16)) d_D_word_15 ?_
    exact mx_retl G h hrt hlocks d_D_word_18 (⟨by rw [wordS, if_neg (bI_0 c_5)], rfl⟩)
  · have hi3 := bI_n c_5
    obtain ⟨j, hj, hxj⟩ := ixQ 24 rfl (by decide) hi3.1 hi3.2
    have hxc : x.toNatClampNeg = j := by rw [hxj]; exact nI_c (by omega)
    refine lv_aload_n hx hb d_D_word_7 rfl (lv_at hl 0 rfl) ?_
    refine lv_iload_n hx hb d_D_word_8 rfl (lv_at hl 1 rfl) ?_
    refine mx_cl (cV (As := [.int x]) (rest := []) G h (m_D_heldWord K0 hj hxj) k_183 k_185 ks_3 k_1 k_186 hd_D_heldWord rfl rfl ⟨Nat.le_of_ble_eq_true rfl, Nat.le_of_ble_eq_true rfl⟩ hD rfl rfl hl.1 rfl (Nat.le_of_ble_eq_true rfl) d_D_word_9 ⟨Nat.le_of_ble_eq_true rfl, Nat.le_of_ble_eq_true rfl⟩) h (fun r_7 w_6 H locs h hcp => ?_)
    obtain ⟨er_8, ew_9⟩ := hcp
    subst er_8
    rw [ew_9] at h
    refine lv_goto (tgt := 18) hx hb d_D_word_12 (by decide) ?_
    exact mx_retl G h hrt hlocks d_D_word_18 (⟨by rw [wordS, if_pos hi3, hxc], rfl⟩)
set_option maxHeartbeats 4000000 in
set_option maxRecDepth 100000 in
theorem m_D_flash {l : Launch} {D : va_G} {cA : Nat → ClassId} {n0 : Nat} {w : mw} {ρ k : Nat → Nat} {L : Nat} {fl : Nat → Int64} {us : List uU} {sn pw : Nat} {pq : Nat → List pC} {cq : Nat → List (Int32 × Int64)} {ln : Nat} {tn : Int32} {tr : Int64} (Y : DR cA w ρ k L (fl, us, sn, pw, pq, cq, ln, tn, tr)) {x : Int32} :
    Ml l D cA n0 y_D_flash c_D_flash (rmd 2) [.ref (k 0), .int x] w (fun r w' => r = flashS (fl, us, sn, pw, pq, cq, ln, tn, tr) x ∧ w' = w) := by
  refine mw_met (cc := b_D_flash) (maxL := 2) (ret := (some .long)) (by decide) rfl (Nat.le_of_ble_eq_true rfl) ?_
  intro p e s m below meth c ls G hrt hlocks hname h hl
  have G : mw_G p m c b_D_flash 2 s _ (c_D_flash :: TB) R_D D cl (tys cA) n0 := G
  have hx := G.1.1
  have hb := G.1.2.1
  have hl : lv_has ls 2 [(0, .ref (k 0)), (1, .int x)] := hl
  obtain ⟨pl, Z⟩ := id Y
  have Z : DRp cA w ρ k L fl us sn pw pq cq ln tn tr pl := Z
  obtain ⟨K0, ⟨qf, hq1, hq2⟩, hQ, r0, r1, r4, hL1, hvC⟩ := id Z
  have hD : w (k 0) = some (dcell (k 1) (k 2) (k 4) ln tn tr sn pw pl) := K0.1
  refine lv_iload_n hx hb d_D_flash_0 rfl (lv_at hl 1 rfl) ?_
  refine mx_ci (cS (As := [.int x]) (rest := []) G h (m_D_isAddress (x := x)) k_283 k_284 k_1 k_285 rfl hd_D_isAddress rfl rfl ⟨Nat.le_of_ble_eq_true rfl, Nat.le_of_ble_eq_true rfl⟩ rfl hl.1 rfl (Nat.le_of_ble_eq_true rfl) d_D_flash_1 ⟨Nat.le_of_ble_eq_true rfl, Nat.le_of_ble_eq_true rfl⟩) h (fun r_2 w_1 H locs h hcp => ?_)
  obtain ⟨er_3, ew_4⟩ := hcp
  subst er_3
  rw [ew_4] at h
  refine lv_if_eq (tgt := 16) hx hb d_D_flash_4 (by decide) (fun c_5 => ?_) (fun c_5 => ?_)
  · refine lv_ldc2 (v := NN) hx hb G.1.2.2.2.1 (G.1.2.2.2.2 _ (tb_c k_16)) d_D_flash_16 ?_
    exact mx_retl G h hrt hlocks d_D_flash_19 (⟨by rw [flashS, if_neg (bI_0 c_5)], rfl⟩)
  · have hi3 := bI_n c_5
    obtain ⟨j, hj, hxj⟩ := ixQ 24 rfl (by decide) hi3.1 hi3.2
    have hxc : x.toNatClampNeg = j := by rw [hxj]; exact nI_c (by omega)
    refine lv_aload_n hx hb d_D_flash_7 rfl (lv_at hl 0 rfl) ?_
    refine mx_get G h hD rfl 0 (by decide) (tb_in in_D) (tb_c k_117) rfl rfl d_D_flash_8 ?_
    refine lv_iload_n hx hb d_D_flash_11 rfl (lv_at hl 1 rfl) ?_
    refine ax_l G h K0.2.1 j hxj hj (by decide) d_D_flash_12 ?_
    refine lv_goto (tgt := 19) hx hb d_D_flash_13 (by decide) ?_
    exact mx_retl G h hrt hlocks d_D_flash_19 (⟨by rw [flashS, if_pos hi3, hxc], rfl⟩)
set_option maxHeartbeats 4000000 in
set_option maxRecDepth 100000 in
theorem m_D_queue {l : Launch} {D : va_G} {cA : Nat → ClassId} {n0 : Nat} {w : mw} {ρ k : Nat → Nat} {L : Nat} {fl : Nat → Int64} {us : List uU} {sn pw : Nat} {pq : Nat → List pC} {cq : Nat → List (Int32 × Int64)} {ln : Nat} {tn : Int32} {tr : Int64} (Y : DR cA w ρ k L (fl, us, sn, pw, pq, cq, ln, tn, tr)) {q x : Int32} :
    Mi l D cA n0 y_D_queue c_D_queue (rmd 1) [.ref (k 0), .int q, .int x] w (fun r w' => r = queueS (fl, us, sn, pw, pq, cq, ln, tn, tr) q x ∧ w' = w) := by
  refine mw_met (cc := b_D_queue) (maxL := 4) (ret := (some .int)) (by decide) rfl (Nat.le_of_ble_eq_true rfl) ?_
  intro p e s m below meth c ls G hrt hlocks hname h hl
  have G : mw_G p m c b_D_queue 4 s _ (c_D_queue :: TB) R_D D cl (tys cA) n0 := G
  have hx := G.1.1
  have hb := G.1.2.1
  have hl : lv_has ls 4 [(0, .ref (k 0)), (1, .int q), (2, .int x)] := hl
  obtain ⟨pl, Z⟩ := id Y
  have Z : DRp cA w ρ k L fl us sn pw pq cq ln tn tr pl := Z
  obtain ⟨K0, ⟨qf, hq1, hq2⟩, hQ, r0, r1, r4, hL1, hvC⟩ := id Z
  have hD : w (k 0) = some (dcell (k 1) (k 2) (k 4) ln tn tr sn pw pl) := K0.1
  refine lv_iload_n hx hb d_D_queue_0 rfl (lv_at hl 1 rfl) ?_
  refine mx_ci (cS (As := [.int q]) (rest := []) G h (m_D_isQueue (x := q)) k_149 k_150 k_1 k_151 rfl hd_D_isQueue rfl rfl ⟨Nat.le_of_ble_eq_true rfl, Nat.le_of_ble_eq_true rfl⟩ rfl hl.1 rfl (Nat.le_of_ble_eq_true rfl) d_D_queue_1 ⟨Nat.le_of_ble_eq_true rfl, Nat.le_of_ble_eq_true rfl⟩) h (fun r_2 w_1 H locs h hcp => ?_)
  obtain ⟨er_3, ew_4⟩ := hcp
  subst er_3
  rw [ew_4] at h
  refine lv_if_ne (tgt := 9) hx hb d_D_queue_4 (by decide) (fun c_5 => ?_) (fun c_5 => ?_)
  · have hi3 := bI_n c_5
    obtain ⟨j, hj, hqj⟩ := ixQ 3 rfl (by decide) hi3.1 hi3.2
    have hqc : q.toNatClampNeg = j := by rw [hqj]; exact nI_c (by omega)
    obtain ⟨f, g, gu, fn, fr, hX⟩ := hQ j hj
    have hX1 := hX.1
    have hps4 : (pq j).length ≤ 4 := hX.2.2.2.2.1
    refine lv_aload_n hx hb d_D_queue_9 rfl (lv_at hl 0 rfl) ?_
    refine mx_get G h hD rfl 2 (by decide) (tb_in in_D) (tb_c k_119) rfl rfl d_D_queue_10 ?_
    refine lv_iload_n hx hb d_D_queue_13 rfl (lv_at hl 1 rfl) ?_
    refine ax_a G h 5 hq1 rfl j hqj hj (by decide) (hq2 j hj) d_D_queue_14 ?_
    refine lv_astore_n (lv' := [(3, .ref (k (5 + j))), (0, .ref (k 0)), (1, .int q), (2, .int x)]) hx hb d_D_queue_15 rfl hl (by decide) rfl (fun ls hl => ?_)
    refine lv_iload_n hx hb d_D_queue_16 rfl (lv_at hl 3 rfl) ?_
    rcases pk_ix x (n := 6) (by decide) with ho | ho | ⟨jx, hjx, hxj⟩
    · have hno : ∀ i, i < 6 → ¬ x = nI i := fun i hi z => absurd ho (by rw [z]; exact nI_pos (by omega))
      have hn0 : ¬ x = 0 := hno 0 (by decide)
      have hn1 : ¬ x = 1 := hno 1 (by decide)
      have hn2 : ¬ x = 2 := hno 2 (by decide)
      have hn3 : ¬ x = 3 := hno 3 (by decide)
      have hn4 : ¬ x = 4 := hno 4 (by decide)
      have hn5 : ¬ x = 5 := hno 5 (by decide)
      refine lv_tableOut (tgt := 92) hx hb d_D_queue_17 (Or.inl (toI_neg ho)) (by decide) ?_
      refine lv_iconst (v := (-1)) hx hb d_D_queue_92 (by decide) ?_
      exact mx_reti G h hrt hlocks d_D_queue_93 (⟨by rw [queueS, if_pos hi3, if_neg hn0, if_neg hn1, if_neg (fun z => by obtain ⟨i9, h9, e9⟩ := ixL 5 rfl (by decide) (Int32.le_trans (by decide) z.1) z.2; exact hno i9 (by omega) e9)], rfl⟩)
    · have hno : ∀ i, i < 6 → ¬ x = nI i := fun i hi z => absurd ho (by rw [z, nI_leI (by decide) (by omega)]; omega)
      have hn0 : ¬ x = 0 := hno 0 (by decide)
      have hn1 : ¬ x = 1 := hno 1 (by decide)
      have hn2 : ¬ x = 2 := hno 2 (by decide)
      have hn3 : ¬ x = 3 := hno 3 (by decide)
      have hn4 : ¬ x = 4 := hno 4 (by decide)
      have hn5 : ¬ x = 5 := hno 5 (by decide)
      refine lv_tableOut (tgt := 92) hx hb d_D_queue_17 (Or.inr (toI_big (n := 5) (by decide) ho)) (by decide) ?_
      refine lv_iconst (v := (-1)) hx hb d_D_queue_92 (by decide) ?_
      exact mx_reti G h hrt hlocks d_D_queue_93 (⟨by rw [queueS, if_pos hi3, if_neg hn0, if_neg hn1, if_neg (fun z => by obtain ⟨i9, h9, e9⟩ := ixL 5 rfl (by decide) (Int32.le_trans (by decide) z.1) z.2; exact hno i9 (by omega) e9)], rfl⟩)
    · rcases (show jx = 0 ∨ jx = 1 ∨ jx = 2 ∨ jx = 3 ∨ jx = 4 ∨ jx = 5 by omega) with rfl | rfl | rfl | rfl | rfl | rfl
      · subst hxj
        refine lv_tableIn (tgt := 56) hx hb d_D_queue_17 (by decide) (by decide) rfl (by decide) ?_
        refine lv_aload_n hx hb d_D_queue_56 rfl (lv_at hl 0 rfl) ?_
        refine mx_get G h hX1 rfl 3 (by decide) (tb_in in_Q) (tb_c k_102) rfl rfl d_D_queue_57 ?_
        exact mx_reti G h hrt hlocks d_D_queue_60 (⟨by rw [queueS, if_pos hi3, if_pos (by decide), hqc], rfl⟩)
      · subst hxj
        refine lv_tableIn (tgt := 61) hx hb d_D_queue_17 (by decide) (by decide) rfl (by decide) ?_
        refine lv_aload_n hx hb d_D_queue_61 rfl (lv_at hl 0 rfl) ?_
        refine mx_get G h hX1 rfl 4 (by decide) (tb_in in_Q) (tb_c k_103) rfl rfl d_D_queue_62 ?_
        exact mx_reti G h hrt hlocks d_D_queue_65 (⟨by rw [queueS, if_pos hi3, if_neg (by decide), if_pos (by decide), hqc], rfl⟩)
      · subst hxj
        refine lv_tableIn (tgt := 66) hx hb d_D_queue_17 (by decide) (by decide) rfl (by decide) ?_
        refine lv_aload_n hx hb d_D_queue_66 rfl (lv_at hl 0 rfl) ?_
        refine lv_iload_n hx hb d_D_queue_67 rfl (lv_at hl 3 rfl) ?_
        refine lv_iconst (v := 2) hx hb d_D_queue_68 (by decide) ?_
        refine lv_isub hx hb d_D_queue_69 ?_
        have et_6 : (nI 2) - 2 = nI 0 := by decide
        rw [et_6]
        refine mx_ci (cV (As := [.int (nI 0)]) (rest := []) G h (m_Q_hasPending hX1 (x := nI 0)) k_171 k_172 k_173 k_5 k_174 hd_Q_hasPending rfl rfl ⟨Nat.le_of_ble_eq_true rfl, Nat.le_of_ble_eq_true rfl⟩ hX1 rfl rfl hl.1 rfl (Nat.le_of_ble_eq_true rfl) d_D_queue_70 ⟨Nat.le_of_ble_eq_true rfl, Nat.le_of_ble_eq_true rfl⟩) h (fun r_8 w_7 H locs h hcp => ?_)
        obtain ⟨er_9, ew_10⟩ := hcp
        subst er_9
        rw [ew_10] at h
        refine lv_if_eq (tgt := 90) hx hb d_D_queue_73 (by decide) (fun c_11 => ?_) (fun c_11 => ?_)
        · refine lv_iconst (v := (-1)) hx hb d_D_queue_90 (by decide) ?_
          have hnl : (pq j)[0]? = none := List.getElem?_eq_none (Nat.not_lt.mp (fun z => bI_0 c_11 ⟨nI_pos' (by decide), (nI_ltI (by decide) (by omega)).mpr z⟩))
          exact mx_reti G h hrt hlocks d_D_queue_91 (⟨by rw [queueS, if_pos hi3, if_neg (by decide), if_neg (by decide), if_pos (by decide), hqc, show (nI 2 - 2).toNatClampNeg = 0 from by decide]; show (-1 : Int32) = match (pq j)[0]? with | some c => c.1 | none => -1; rw [hnl], rfl⟩)
        · have hlt : 0 < (pq j).length := (nI_ltI (by decide) (by omega)).mp (bI_n c_11).2
          obtain ⟨d, hd⟩ := getQ (l := pq j) hlt
          have hgi := (hX.2.2.2.2.2.2.2.1 0 d hd).1
          refine lv_aload_n hx hb d_D_queue_76 rfl (lv_at hl 0 rfl) ?_
          refine mx_get G h hX1 rfl 0 (by decide) (tb_in in_Q) (tb_c k_96) rfl rfl d_D_queue_77 ?_
          refine lv_iload_n hx hb d_D_queue_80 rfl (lv_at hl 3 rfl) ?_
          refine lv_iconst (v := 2) hx hb d_D_queue_81 (by decide) ?_
          refine lv_isub hx hb d_D_queue_82 ?_
          refine ax_a G h 4 hX.2.1 rfl 0 (by decide) (by decide) (by decide) ((hX.2.2.2.2.2.2.1 0 (by decide)).1) d_D_queue_83 ?_
          refine mx_get G h hgi rfl 1 (by decide) (tb_in in_K) (tb_c k_85) rfl rfl d_D_queue_84 ?_
          refine lv_goto (tgt := 91) hx hb d_D_queue_87 (by decide) ?_
          exact mx_reti G h hrt hlocks d_D_queue_91 (⟨by rw [queueS, if_pos hi3, if_neg (by decide), if_neg (by decide), if_pos (by decide), hqc, show (nI 2 - 2).toNatClampNeg = 0 from by decide]; show d.1 = match (pq j)[0]? with | some c => c.1 | none => -1; rw [hd], rfl⟩)
      · subst hxj
        refine lv_tableIn (tgt := 66) hx hb d_D_queue_17 (by decide) (by decide) rfl (by decide) ?_
        refine lv_aload_n hx hb d_D_queue_66 rfl (lv_at hl 0 rfl) ?_
        refine lv_iload_n hx hb d_D_queue_67 rfl (lv_at hl 3 rfl) ?_
        refine lv_iconst (v := 2) hx hb d_D_queue_68 (by decide) ?_
        refine lv_isub hx hb d_D_queue_69 ?_
        have et_12 : (nI 3) - 2 = nI 1 := by decide
        rw [et_12]
        refine mx_ci (cV (As := [.int (nI 1)]) (rest := []) G h (m_Q_hasPending hX1 (x := nI 1)) k_171 k_172 k_173 k_5 k_174 hd_Q_hasPending rfl rfl ⟨Nat.le_of_ble_eq_true rfl, Nat.le_of_ble_eq_true rfl⟩ hX1 rfl rfl hl.1 rfl (Nat.le_of_ble_eq_true rfl) d_D_queue_70 ⟨Nat.le_of_ble_eq_true rfl, Nat.le_of_ble_eq_true rfl⟩) h (fun r_14 w_13 H locs h hcp => ?_)
        obtain ⟨er_15, ew_16⟩ := hcp
        subst er_15
        rw [ew_16] at h
        refine lv_if_eq (tgt := 90) hx hb d_D_queue_73 (by decide) (fun c_17 => ?_) (fun c_17 => ?_)
        · refine lv_iconst (v := (-1)) hx hb d_D_queue_90 (by decide) ?_
          have hnl : (pq j)[1]? = none := List.getElem?_eq_none (Nat.not_lt.mp (fun z => bI_0 c_17 ⟨nI_pos' (by decide), (nI_ltI (by decide) (by omega)).mpr z⟩))
          exact mx_reti G h hrt hlocks d_D_queue_91 (⟨by rw [queueS, if_pos hi3, if_neg (by decide), if_neg (by decide), if_pos (by decide), hqc, show (nI 3 - 2).toNatClampNeg = 1 from by decide]; show (-1 : Int32) = match (pq j)[1]? with | some c => c.1 | none => -1; rw [hnl], rfl⟩)
        · have hlt : 1 < (pq j).length := (nI_ltI (by decide) (by omega)).mp (bI_n c_17).2
          obtain ⟨d, hd⟩ := getQ (l := pq j) hlt
          have hgi := (hX.2.2.2.2.2.2.2.1 1 d hd).1
          refine lv_aload_n hx hb d_D_queue_76 rfl (lv_at hl 0 rfl) ?_
          refine mx_get G h hX1 rfl 0 (by decide) (tb_in in_Q) (tb_c k_96) rfl rfl d_D_queue_77 ?_
          refine lv_iload_n hx hb d_D_queue_80 rfl (lv_at hl 3 rfl) ?_
          refine lv_iconst (v := 2) hx hb d_D_queue_81 (by decide) ?_
          refine lv_isub hx hb d_D_queue_82 ?_
          refine ax_a G h 4 hX.2.1 rfl 1 (by decide) (by decide) (by decide) ((hX.2.2.2.2.2.2.1 1 (by decide)).1) d_D_queue_83 ?_
          refine mx_get G h hgi rfl 1 (by decide) (tb_in in_K) (tb_c k_85) rfl rfl d_D_queue_84 ?_
          refine lv_goto (tgt := 91) hx hb d_D_queue_87 (by decide) ?_
          exact mx_reti G h hrt hlocks d_D_queue_91 (⟨by rw [queueS, if_pos hi3, if_neg (by decide), if_neg (by decide), if_pos (by decide), hqc, show (nI 3 - 2).toNatClampNeg = 1 from by decide]; show d.1 = match (pq j)[1]? with | some c => c.1 | none => -1; rw [hd], rfl⟩)
      · subst hxj
        refine lv_tableIn (tgt := 66) hx hb d_D_queue_17 (by decide) (by decide) rfl (by decide) ?_
        refine lv_aload_n hx hb d_D_queue_66 rfl (lv_at hl 0 rfl) ?_
        refine lv_iload_n hx hb d_D_queue_67 rfl (lv_at hl 3 rfl) ?_
        refine lv_iconst (v := 2) hx hb d_D_queue_68 (by decide) ?_
        refine lv_isub hx hb d_D_queue_69 ?_
        have et_18 : (nI 4) - 2 = nI 2 := by decide
        rw [et_18]
        refine mx_ci (cV (As := [.int (nI 2)]) (rest := []) G h (m_Q_hasPending hX1 (x := nI 2)) k_171 k_172 k_173 k_5 k_174 hd_Q_hasPending rfl rfl ⟨Nat.le_of_ble_eq_true rfl, Nat.le_of_ble_eq_true rfl⟩ hX1 rfl rfl hl.1 rfl (Nat.le_of_ble_eq_true rfl) d_D_queue_70 ⟨Nat.le_of_ble_eq_true rfl, Nat.le_of_ble_eq_true rfl⟩) h (fun r_20 w_19 H locs h hcp => ?_)
        obtain ⟨er_21, ew_22⟩ := hcp
        subst er_21
        rw [ew_22] at h
        refine lv_if_eq (tgt := 90) hx hb d_D_queue_73 (by decide) (fun c_23 => ?_) (fun c_23 => ?_)
        · refine lv_iconst (v := (-1)) hx hb d_D_queue_90 (by decide) ?_
          have hnl : (pq j)[2]? = none := List.getElem?_eq_none (Nat.not_lt.mp (fun z => bI_0 c_23 ⟨nI_pos' (by decide), (nI_ltI (by decide) (by omega)).mpr z⟩))
          exact mx_reti G h hrt hlocks d_D_queue_91 (⟨by rw [queueS, if_pos hi3, if_neg (by decide), if_neg (by decide), if_pos (by decide), hqc, show (nI 4 - 2).toNatClampNeg = 2 from by decide]; show (-1 : Int32) = match (pq j)[2]? with | some c => c.1 | none => -1; rw [hnl], rfl⟩)
        · have hlt : 2 < (pq j).length := (nI_ltI (by decide) (by omega)).mp (bI_n c_23).2
          obtain ⟨d, hd⟩ := getQ (l := pq j) hlt
          have hgi := (hX.2.2.2.2.2.2.2.1 2 d hd).1
          refine lv_aload_n hx hb d_D_queue_76 rfl (lv_at hl 0 rfl) ?_
          refine mx_get G h hX1 rfl 0 (by decide) (tb_in in_Q) (tb_c k_96) rfl rfl d_D_queue_77 ?_
          refine lv_iload_n hx hb d_D_queue_80 rfl (lv_at hl 3 rfl) ?_
          refine lv_iconst (v := 2) hx hb d_D_queue_81 (by decide) ?_
          refine lv_isub hx hb d_D_queue_82 ?_
          refine ax_a G h 4 hX.2.1 rfl 2 (by decide) (by decide) (by decide) ((hX.2.2.2.2.2.2.1 2 (by decide)).1) d_D_queue_83 ?_
          refine mx_get G h hgi rfl 1 (by decide) (tb_in in_K) (tb_c k_85) rfl rfl d_D_queue_84 ?_
          refine lv_goto (tgt := 91) hx hb d_D_queue_87 (by decide) ?_
          exact mx_reti G h hrt hlocks d_D_queue_91 (⟨by rw [queueS, if_pos hi3, if_neg (by decide), if_neg (by decide), if_pos (by decide), hqc, show (nI 4 - 2).toNatClampNeg = 2 from by decide]; show d.1 = match (pq j)[2]? with | some c => c.1 | none => -1; rw [hd], rfl⟩)
      · subst hxj
        refine lv_tableIn (tgt := 66) hx hb d_D_queue_17 (by decide) (by decide) rfl (by decide) ?_
        refine lv_aload_n hx hb d_D_queue_66 rfl (lv_at hl 0 rfl) ?_
        refine lv_iload_n hx hb d_D_queue_67 rfl (lv_at hl 3 rfl) ?_
        refine lv_iconst (v := 2) hx hb d_D_queue_68 (by decide) ?_
        refine lv_isub hx hb d_D_queue_69 ?_
        have et_24 : (nI 5) - 2 = nI 3 := by decide
        rw [et_24]
        refine mx_ci (cV (As := [.int (nI 3)]) (rest := []) G h (m_Q_hasPending hX1 (x := nI 3)) k_171 k_172 k_173 k_5 k_174 hd_Q_hasPending rfl rfl ⟨Nat.le_of_ble_eq_true rfl, Nat.le_of_ble_eq_true rfl⟩ hX1 rfl rfl hl.1 rfl (Nat.le_of_ble_eq_true rfl) d_D_queue_70 ⟨Nat.le_of_ble_eq_true rfl, Nat.le_of_ble_eq_true rfl⟩) h (fun r_26 w_25 H locs h hcp => ?_)
        obtain ⟨er_27, ew_28⟩ := hcp
        subst er_27
        rw [ew_28] at h
        refine lv_if_eq (tgt := 90) hx hb d_D_queue_73 (by decide) (fun c_29 => ?_) (fun c_29 => ?_)
        · refine lv_iconst (v := (-1)) hx hb d_D_queue_90 (by decide) ?_
          have hnl : (pq j)[3]? = none := List.getElem?_eq_none (Nat.not_lt.mp (fun z => bI_0 c_29 ⟨nI_pos' (by decide), (nI_ltI (by decide) (by omega)).mpr z⟩))
          exact mx_reti G h hrt hlocks d_D_queue_91 (⟨by rw [queueS, if_pos hi3, if_neg (by decide), if_neg (by decide), if_pos (by decide), hqc, show (nI 5 - 2).toNatClampNeg = 3 from by decide]; show (-1 : Int32) = match (pq j)[3]? with | some c => c.1 | none => -1; rw [hnl], rfl⟩)
        · have hlt : 3 < (pq j).length := (nI_ltI (by decide) (by omega)).mp (bI_n c_29).2
          obtain ⟨d, hd⟩ := getQ (l := pq j) hlt
          have hgi := (hX.2.2.2.2.2.2.2.1 3 d hd).1
          refine lv_aload_n hx hb d_D_queue_76 rfl (lv_at hl 0 rfl) ?_
          refine mx_get G h hX1 rfl 0 (by decide) (tb_in in_Q) (tb_c k_96) rfl rfl d_D_queue_77 ?_
          refine lv_iload_n hx hb d_D_queue_80 rfl (lv_at hl 3 rfl) ?_
          refine lv_iconst (v := 2) hx hb d_D_queue_81 (by decide) ?_
          refine lv_isub hx hb d_D_queue_82 ?_
          refine ax_a G h 4 hX.2.1 rfl 3 (by decide) (by decide) (by decide) ((hX.2.2.2.2.2.2.1 3 (by decide)).1) d_D_queue_83 ?_
          refine mx_get G h hgi rfl 1 (by decide) (tb_in in_K) (tb_c k_85) rfl rfl d_D_queue_84 ?_
          refine lv_goto (tgt := 91) hx hb d_D_queue_87 (by decide) ?_
          exact mx_reti G h hrt hlocks d_D_queue_91 (⟨by rw [queueS, if_pos hi3, if_neg (by decide), if_neg (by decide), if_pos (by decide), hqc, show (nI 5 - 2).toNatClampNeg = 3 from by decide]; show d.1 = match (pq j)[3]? with | some c => c.1 | none => -1; rw [hd], rfl⟩)
  · refine lv_iconst (v := (-1)) hx hb d_D_queue_7 (by decide) ?_
    exact mx_reti G h hrt hlocks d_D_queue_8 (⟨by rw [queueS, if_neg (bI_0 c_5)], rfl⟩)
set_option maxHeartbeats 4000000 in
set_option maxRecDepth 100000 in
theorem m_D_unit {l : Launch} {D : va_G} {cA : Nat → ClassId} {n0 : Nat} {w : mw} {ρ k : Nat → Nat} {L : Nat} {fl : Nat → Int64} {us : List uU} {sn pw : Nat} {pq : Nat → List pC} {cq : Nat → List (Int32 × Int64)} {ln : Nat} {tn : Int32} {tr : Int64} (Y : DR cA w ρ k L (fl, us, sn, pw, pq, cq, ln, tn, tr)) {y x : Int32} :
    Mi l D cA n0 y_D_unit c_D_unit (rmd 0) [.ref (k 0), .int y, .int x] w (fun r w' => r = unitS (fl, us, sn, pw, pq, cq, ln, tn, tr) y x ∧ w' = w) := by
  refine mw_met (cc := b_D_unit) (maxL := 4) (ret := (some .int)) (by decide) rfl (Nat.le_of_ble_eq_true rfl) ?_
  intro p e s m below meth c ls G hrt hlocks hname h hl
  have G : mw_G p m c b_D_unit 4 s _ (c_D_unit :: TB) R_D D cl (tys cA) n0 := G
  have hx := G.1.1
  have hb := G.1.2.1
  have hl : lv_has ls 4 [(0, .ref (k 0)), (1, .int y), (2, .int x)] := hl
  obtain ⟨pl, Z⟩ := id Y
  have Z : DRp cA w ρ k L fl us sn pw pq cq ln tn tr pl := Z
  obtain ⟨K0, ⟨qf, hq1, hq2⟩, hQ, r0, r1, r4, hL1, hvC⟩ := id Z
  have hD : w (k 0) = some (dcell (k 1) (k 2) (k 4) ln tn tr sn pw pl) := K0.1
  obtain ⟨-, -, ⟨f, g, hC⟩, -, -, hv⟩ := id K0
  have hC : CAx cA w (fun x => ρ x = 1) (k 2) (k 3) L us f g := hC
  have hC1 := hC.1
  have hC2 := hC.2.1
  have hlen := hC.2.2.1
  have hL6 := hC.2.2.2.1
  refine lv_iload_n hx hb d_D_unit_0 rfl (lv_at hl 1 rfl) ?_
  refine lv_if_lt (tgt := 15) hx hb d_D_unit_1 (by decide) (fun c_1 => ?_) (fun c_1 => ?_)
  · refine lv_iconst (v := (-1)) hx hb d_D_unit_15 (by decide) ?_
    exact mx_reti G h hrt hlocks d_D_unit_16 (⟨by rw [unitS, if_neg (fun z => absurd z.1 (Int32.not_le.mpr c_1))], rfl⟩)
  · refine lv_iload_n hx hb d_D_unit_4 rfl (lv_at hl 1 rfl) ?_
    refine lv_aload_n hx hb d_D_unit_5 rfl (lv_at hl 0 rfl) ?_
    refine mx_get G h hD rfl 1 (by decide) (tb_in in_D) (tb_c k_118) rfl rfl d_D_unit_6 ?_
    refine mx_get G h hC1 rfl 1 (by decide) (tb_in in_C) (tb_c k_60) rfl rfl d_D_unit_9 ?_
    refine lv_icmp_lt (tgt := 17) hx hb d_D_unit_12 (by decide) (fun c_2 => ?_) (fun c_2 => ?_)
    · have hi3 : 0 ≤ y ∧ y < nI us.length := ⟨Int32.not_lt.mp c_1, c_2⟩
      obtain ⟨j, hj, hyj⟩ := ixQ us.length rfl (by omega) hi3.1 hi3.2
      have hyc : y.toNatClampNeg = j := by rw [hyj]; exact nI_c (by omega)
      obtain ⟨u, hu⟩ := getQ (l := us) hj
      have hgj := hC.2.2.2.2.2.1 j u hu
      have hVu := hv u (List.mem_of_getElem? hu)
      refine lv_aload_n hx hb d_D_unit_17 rfl (lv_at hl 0 rfl) ?_
      refine mx_get G h hD rfl 1 (by decide) (tb_in in_D) (tb_c k_118) rfl rfl d_D_unit_18 ?_
      refine mx_get G h hC1 rfl 0 (by decide) (tb_in in_C) (tb_c k_58) rfl rfl d_D_unit_21 ?_
      refine lv_iload_n hx hb d_D_unit_24 rfl (lv_at hl 1 rfl) ?_
      refine ax_a G h 3 hC2 rfl j hyj (by omega) (by omega) ((hC.2.2.2.2.1 j (by omega)).1) d_D_unit_25 ?_
      refine lv_astore_n (lv' := [(3, .ref (g j)), (0, .ref (k 0)), (1, .int y), (2, .int x)]) hx hb d_D_unit_26 rfl hl (by decide) rfl (fun ls hl => ?_)
      refine lv_iload_n hx hb d_D_unit_27 rfl (lv_at hl 3 rfl) ?_
      rcases pk_ix x (n := 3) (by decide) with ho | ho | ⟨jx, hjx, hxj⟩
      · have hno : ∀ i, i < 3 → ¬ x = nI i := fun i hi z => absurd ho (by rw [z]; exact nI_pos (by omega))
        have hn0 : ¬ x = 0 := hno 0 (by decide)
        have hn1 : ¬ x = 1 := hno 1 (by decide)
        have hn2 : ¬ x = 2 := hno 2 (by decide)
        refine lv_tableOut (tgt := 79) hx hb d_D_unit_28 (Or.inl (toI_neg ho)) (by decide) ?_
        refine lv_iconst (v := (-1)) hx hb d_D_unit_79 (by decide) ?_
        exact mx_reti G h hrt hlocks d_D_unit_80 (⟨by rw [unitS, if_pos hi3, hyc]; show (-1 : Int32) = match us[j]? with | some v => if x = 0 then v.1 else if x = 1 then v.2.1 else if x = 2 then v.2.2.2 else -1 | none => -1; rw [hu]; show (-1 : Int32) = if x = 0 then u.1 else if x = 1 then u.2.1 else if x = 2 then u.2.2.2 else -1; rw [if_neg hn0, if_neg hn1, if_neg hn2], rfl⟩)
      · have hno : ∀ i, i < 3 → ¬ x = nI i := fun i hi z => absurd ho (by rw [z, nI_leI (by decide) (by omega)]; omega)
        have hn0 : ¬ x = 0 := hno 0 (by decide)
        have hn1 : ¬ x = 1 := hno 1 (by decide)
        have hn2 : ¬ x = 2 := hno 2 (by decide)
        refine lv_tableOut (tgt := 79) hx hb d_D_unit_28 (Or.inr (toI_big (n := 2) (by decide) ho)) (by decide) ?_
        refine lv_iconst (v := (-1)) hx hb d_D_unit_79 (by decide) ?_
        exact mx_reti G h hrt hlocks d_D_unit_80 (⟨by rw [unitS, if_pos hi3, hyc]; show (-1 : Int32) = match us[j]? with | some v => if x = 0 then v.1 else if x = 1 then v.2.1 else if x = 2 then v.2.2.2 else -1 | none => -1; rw [hu]; show (-1 : Int32) = if x = 0 then u.1 else if x = 1 then u.2.1 else if x = 2 then u.2.2.2 else -1; rw [if_neg hn0, if_neg hn1, if_neg hn2], rfl⟩)
      · rcases (show jx = 0 ∨ jx = 1 ∨ jx = 2 by omega) with rfl | rfl | rfl
        · subst hxj
          refine lv_tableIn (tgt := 56) hx hb d_D_unit_28 (by decide) (by decide) rfl (by decide) ?_
          refine lv_aload_n hx hb d_D_unit_56 rfl (lv_at hl 0 rfl) ?_
          refine mx_get G h hgj rfl 0 (by decide) (tb_in in_U) (tb_c k_38) rfl rfl d_D_unit_57 ?_
          exact mx_reti G h hrt hlocks d_D_unit_60 (⟨by rw [unitS, if_pos hi3, hyc]; show u.1 = match us[j]? with | some v => if nI 0 = 0 then v.1 else if nI 0 = 1 then v.2.1 else if nI 0 = 2 then v.2.2.2 else -1 | none => -1; rw [hu]; show u.1 = if nI 0 = 0 then u.1 else if nI 0 = 1 then u.2.1 else if nI 0 = 2 then u.2.2.2 else -1; rw [if_pos (by decide)], rfl⟩)
        · subst hxj
          refine lv_tableIn (tgt := 61) hx hb d_D_unit_28 (by decide) (by decide) rfl (by decide) ?_
          refine lv_aload_n hx hb d_D_unit_61 rfl (lv_at hl 0 rfl) ?_
          refine mx_get G h hgj rfl 1 (by decide) (tb_in in_U) (tb_c k_41) rfl rfl d_D_unit_62 ?_
          exact mx_reti G h hrt hlocks d_D_unit_65 (⟨by rw [unitS, if_pos hi3, hyc]; show u.2.1 = match us[j]? with | some v => if nI 1 = 0 then v.1 else if nI 1 = 1 then v.2.1 else if nI 1 = 2 then v.2.2.2 else -1 | none => -1; rw [hu]; show u.2.1 = if nI 1 = 0 then u.1 else if nI 1 = 1 then u.2.1 else if nI 1 = 2 then u.2.2.2 else -1; rw [if_neg (by decide), if_pos (by decide)], rfl⟩)
        · subst hxj
          refine lv_tableIn (tgt := 66) hx hb d_D_unit_28 (by decide) (by decide) rfl (by decide) ?_
          refine lv_aload_n hx hb d_D_unit_66 rfl (lv_at hl 0 rfl) ?_
          refine mx_get G h hgj rfl 3 (by decide) (tb_in in_U) (tb_c k_46) rfl rfl d_D_unit_67 ?_
          refine lv_if_eq (tgt := 77) hx hb d_D_unit_70 (by decide) (fun c_3 => ?_) (fun c_3 => ?_)
          · refine lv_iconst (v := 0) hx hb d_D_unit_77 (by decide) ?_
            exact mx_reti G h hrt hlocks d_D_unit_78 (⟨by rw [unitS, if_pos hi3, hyc]; show (0 : Int32) = match us[j]? with | some v => if nI 2 = 0 then v.1 else if nI 2 = 1 then v.2.1 else if nI 2 = 2 then v.2.2.2 else -1 | none => -1; rw [hu]; show (0 : Int32) = if nI 2 = 0 then u.1 else if nI 2 = 1 then u.2.1 else if nI 2 = 2 then u.2.2.2 else -1; rw [if_neg (by decide), if_neg (by decide), if_pos (by decide), c_3], rfl⟩)
          · refine lv_iconst (v := 1) hx hb d_D_unit_73 (by decide) ?_
            refine lv_goto (tgt := 78) hx hb d_D_unit_74 (by decide) ?_
            exact mx_reti G h hrt hlocks d_D_unit_78 (⟨by rw [unitS, if_pos hi3, hyc]; show (1 : Int32) = match us[j]? with | some v => if nI 2 = 0 then v.1 else if nI 2 = 1 then v.2.1 else if nI 2 = 2 then v.2.2.2 else -1 | none => -1; rw [hu]; show (1 : Int32) = if nI 2 = 0 then u.1 else if nI 2 = 1 then u.2.1 else if nI 2 = 2 then u.2.2.2 else -1; rw [if_neg (by decide), if_neg (by decide), if_pos (by decide), hVu.2.2.2.2.2.resolve_left c_3], rfl⟩)
    · refine lv_iconst (v := (-1)) hx hb d_D_unit_15 (by decide) ?_
      exact mx_reti G h hrt hlocks d_D_unit_16 (⟨by rw [unitS, if_neg (fun z => c_2 z.2)], rfl⟩)
set_option maxHeartbeats 4000000 in
set_option maxRecDepth 100000 in
theorem m_D_count {l : Launch} {D : va_G} {cA : Nat → ClassId} {n0 : Nat} {w : mw} {ρ k : Nat → Nat} {L : Nat} {fl : Nat → Int64} {us : List uU} {sn pw : Nat} {pq : Nat → List pC} {cq : Nat → List (Int32 × Int64)} {ln : Nat} {tn : Int32} {tr : Int64} (Y : DR cA w ρ k L (fl, us, sn, pw, pq, cq, ln, tn, tr)) {x : Int32} :
    Mi l D cA n0 y_D_count c_D_count (rmd 0) [.ref (k 0), .int x] w (fun r w' => r = countS (fl, us, sn, pw, pq, cq, ln, tn, tr) x ∧ w' = w) := by
  refine mw_met (cc := b_D_count) (maxL := 2) (ret := (some .int)) (by decide) rfl (Nat.le_of_ble_eq_true rfl) ?_
  intro p e s m below meth c ls G hrt hlocks hname h hl
  have G : mw_G p m c b_D_count 2 s _ (c_D_count :: TB) R_D D cl (tys cA) n0 := G
  have hx := G.1.1
  have hb := G.1.2.1
  have hl : lv_has ls 2 [(0, .ref (k 0)), (1, .int x)] := hl
  obtain ⟨pl, Z⟩ := id Y
  have Z : DRp cA w ρ k L fl us sn pw pq cq ln tn tr pl := Z
  obtain ⟨K0, ⟨qf, hq1, hq2⟩, hQ, r0, r1, r4, hL1, hvC⟩ := id Z
  have hD : w (k 0) = some (dcell (k 1) (k 2) (k 4) ln tn tr sn pw pl) := K0.1
  obtain ⟨-, -, ⟨f, g, hC⟩, -, -, hv⟩ := id K0
  have hC : CAx cA w (fun x => ρ x = 1) (k 2) (k 3) L us f g := hC
  have hC1 := hC.1
  refine lv_iload_n hx hb d_D_count_0 rfl (lv_at hl 1 rfl) ?_
  rcases pk_ix x (n := 5) (by decide) with ho | ho | ⟨jx, hjx, hxj⟩
  · have hno : ∀ i, i < 5 → ¬ x = nI i := fun i hi z => absurd ho (by rw [z]; exact nI_pos (by omega))
    have hn0 : ¬ x = 0 := hno 0 (by decide)
    have hn1 : ¬ x = 1 := hno 1 (by decide)
    have hn2 : ¬ x = 2 := hno 2 (by decide)
    have hn3 : ¬ x = 3 := hno 3 (by decide)
    have hn4 : ¬ x = 4 := hno 4 (by decide)
    refine lv_tableOut (tgt := 64) hx hb d_D_count_1 (Or.inl (toI_neg ho)) (by decide) ?_
    refine lv_iconst (v := (-1)) hx hb d_D_count_64 (by decide) ?_
    exact mx_reti G h hrt hlocks d_D_count_65 (⟨by rw [countS, if_neg hn0, if_neg hn1, if_neg hn2, if_neg hn3, if_neg hn4], rfl⟩)
  · have hno : ∀ i, i < 5 → ¬ x = nI i := fun i hi z => absurd ho (by rw [z, nI_leI (by decide) (by omega)]; omega)
    have hn0 : ¬ x = 0 := hno 0 (by decide)
    have hn1 : ¬ x = 1 := hno 1 (by decide)
    have hn2 : ¬ x = 2 := hno 2 (by decide)
    have hn3 : ¬ x = 3 := hno 3 (by decide)
    have hn4 : ¬ x = 4 := hno 4 (by decide)
    refine lv_tableOut (tgt := 64) hx hb d_D_count_1 (Or.inr (toI_big (n := 4) (by decide) ho)) (by decide) ?_
    refine lv_iconst (v := (-1)) hx hb d_D_count_64 (by decide) ?_
    exact mx_reti G h hrt hlocks d_D_count_65 (⟨by rw [countS, if_neg hn0, if_neg hn1, if_neg hn2, if_neg hn3, if_neg hn4], rfl⟩)
  · rcases (show jx = 0 ∨ jx = 1 ∨ jx = 2 ∨ jx = 3 ∨ jx = 4 by omega) with rfl | rfl | rfl | rfl | rfl
    · subst hxj
      refine lv_tableIn (tgt := 36) hx hb d_D_count_1 (by decide) (by decide) rfl (by decide) ?_
      refine lv_aload_n hx hb d_D_count_36 rfl (lv_at hl 0 rfl) ?_
      refine mx_get G h hD rfl 1 (by decide) (tb_in in_D) (tb_c k_118) rfl rfl d_D_count_37 ?_
      refine mx_get G h hC1 rfl 1 (by decide) (tb_in in_C) (tb_c k_60) rfl rfl d_D_count_40 ?_
      exact mx_reti G h hrt hlocks d_D_count_43 (⟨by rw [countS, if_pos (by decide)], rfl⟩)
    · subst hxj
      refine lv_tableIn (tgt := 44) hx hb d_D_count_1 (by decide) (by decide) rfl (by decide) ?_
      refine lv_aload_n hx hb d_D_count_44 rfl (lv_at hl 0 rfl) ?_
      refine mx_get G h hD rfl 3 (by decide) (tb_in in_D) (tb_c k_120) rfl rfl d_D_count_45 ?_
      exact mx_reti G h hrt hlocks d_D_count_48 (⟨by rw [countS, if_neg (by decide), if_pos (by decide)], rfl⟩)
    · subst hxj
      refine lv_tableIn (tgt := 49) hx hb d_D_count_1 (by decide) (by decide) rfl (by decide) ?_
      refine lv_aload_n hx hb d_D_count_49 rfl (lv_at hl 0 rfl) ?_
      refine mx_get G h hD rfl 6 (by decide) (tb_in in_D) (tb_c k_123) rfl rfl d_D_count_50 ?_
      exact mx_reti G h hrt hlocks d_D_count_53 (⟨by rw [countS, if_neg (by decide), if_neg (by decide), if_pos (by decide)], rfl⟩)
    · subst hxj
      refine lv_tableIn (tgt := 54) hx hb d_D_count_1 (by decide) (by decide) rfl (by decide) ?_
      refine lv_aload_n hx hb d_D_count_54 rfl (lv_at hl 0 rfl) ?_
      refine mx_get G h hD rfl 7 (by decide) (tb_in in_D) (tb_c k_124) rfl rfl d_D_count_55 ?_
      exact mx_reti G h hrt hlocks d_D_count_58 (⟨by rw [countS, if_neg (by decide), if_neg (by decide), if_neg (by decide), if_pos (by decide)], rfl⟩)
    · subst hxj
      refine lv_tableIn (tgt := 59) hx hb d_D_count_1 (by decide) (by decide) rfl (by decide) ?_
      refine lv_aload_n hx hb d_D_count_59 rfl (lv_at hl 0 rfl) ?_
      refine mx_get G h hD rfl 4 (by decide) (tb_in in_D) (tb_c k_121) rfl rfl d_D_count_60 ?_
      exact mx_reti G h hrt hlocks d_D_count_63 (⟨by rw [countS, if_neg (by decide), if_neg (by decide), if_neg (by decide), if_neg (by decide), if_pos (by decide)], rfl⟩)
