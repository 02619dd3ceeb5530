theorem d_D_emptyCache_0 : decode b_D_emptyCache 0 = .ok (.aload_n 0, 1) := by decide +kernel
theorem d_D_emptyCache_1 : decode b_D_emptyCache 1 = .ok (.getfield 29, 3) := by decide +kernel
theorem d_D_emptyCache_4 : decode b_D_emptyCache 4 = .ok (.getfield 132, 3) := by decide +kernel
theorem d_D_emptyCache_7 : decode b_D_emptyCache 7 = .ok (.istore_n 1, 1) := by decide +kernel
theorem d_D_emptyCache_8 : decode b_D_emptyCache 8 = .ok (.iconst 0, 1) := by decide +kernel
theorem d_D_emptyCache_9 : decode b_D_emptyCache 9 = .ok (.istore_n 2, 1) := by decide +kernel
theorem d_D_emptyCache_10 : decode b_D_emptyCache 10 = .ok (.iload_n 2, 1) := by decide +kernel
theorem d_D_emptyCache_11 : decode b_D_emptyCache 11 = .ok (.iload_n 1, 1) := by decide +kernel
theorem d_D_emptyCache_12 : decode b_D_emptyCache 12 = .ok (.if_icmp .ge 18, 3) := by decide +kernel
theorem d_D_emptyCache_15 : decode b_D_emptyCache 15 = .ok (.aload_n 0, 1) := by decide +kernel
theorem d_D_emptyCache_16 : decode b_D_emptyCache 16 = .ok (.invokevirtual 183, 3) := by decide +kernel
theorem d_D_emptyCache_19 : decode b_D_emptyCache 19 = .ok (.ifCond .ne 5, 3) := by decide +kernel
theorem d_D_emptyCache_22 : decode b_D_emptyCache 22 = .ok (.iconst 0, 1) := by decide +kernel
theorem d_D_emptyCache_23 : decode b_D_emptyCache 23 = .ok (.ireturn, 1) := by decide +kernel
theorem d_D_emptyCache_24 : decode b_D_emptyCache 24 = .ok (.iinc 2 1, 3) := by decide +kernel
theorem d_D_emptyCache_27 : decode b_D_emptyCache 27 = .ok (.goto (-17), 3) := by decide +kernel
theorem d_D_emptyCache_30 : decode b_D_emptyCache 30 = .ok (.iconst 1, 1) := by decide +kernel
theorem d_D_emptyCache_31 : decode b_D_emptyCache 31 = .ok (.ireturn, 1) := by decide +kernel
theorem d_D_cacheUnit_0 : decode b_D_cacheUnit 0 = .ok (.aload_n 0, 1) := by decide +kernel
theorem d_D_cacheUnit_1 : decode b_D_cacheUnit 1 = .ok (.getfield 29, 3) := by decide +kernel
theorem d_D_cacheUnit_4 : decode b_D_cacheUnit 4 = .ok (.invokevirtual 179, 3) := by decide +kernel
theorem d_D_cacheUnit_7 : decode b_D_cacheUnit 7 = .ok (.ifCond .eq 11, 3) := by decide +kernel
theorem d_D_cacheUnit_10 : decode b_D_cacheUnit 10 = .ok (.aload_n 0, 1) := by decide +kernel
theorem d_D_cacheUnit_11 : decode b_D_cacheUnit 11 = .ok (.invokevirtual 183, 3) := by decide +kernel
theorem d_D_cacheUnit_14 : decode b_D_cacheUnit 14 = .ok (.ifCond .ne 4, 3) := by decide +kernel
theorem d_D_cacheUnit_17 : decode b_D_cacheUnit 17 = .ok (.return_, 1) := by decide +kernel
theorem d_D_cacheUnit_18 : decode b_D_cacheUnit 18 = .ok (.aload_n 0, 1) := by decide +kernel
theorem d_D_cacheUnit_19 : decode b_D_cacheUnit 19 = .ok (.getfield 29, 3) := by decide +kernel
theorem d_D_cacheUnit_22 : decode b_D_cacheUnit 22 = .ok (.aload_n 1, 1) := by decide +kernel
theorem d_D_cacheUnit_23 : decode b_D_cacheUnit 23 = .ok (.invokevirtual 186, 3) := by decide +kernel
theorem d_D_cacheUnit_26 : decode b_D_cacheUnit 26 = .ok (.return_, 1) := by decide +kernel
theorem d_D_force_0 : decode b_D_force 0 = .ok (.aload_n 0, 1) := by decide +kernel
theorem d_D_force_1 : decode b_D_force 1 = .ok (.invokevirtual 189, 3) := by decide +kernel
theorem d_D_force_4 : decode b_D_force 4 = .ok (.ifCond .eq 9, 3) := by decide +kernel
theorem d_D_force_7 : decode b_D_force 7 = .ok (.aload_n 0, 1) := by decide +kernel
theorem d_D_force_8 : decode b_D_force 8 = .ok (.aload_n 1, 1) := by decide +kernel
theorem d_D_force_9 : decode b_D_force 9 = .ok (.invokevirtual 192, 3) := by decide +kernel
theorem d_D_force_12 : decode b_D_force 12 = .ok (.pop, 1) := by decide +kernel
theorem d_D_force_13 : decode b_D_force 13 = .ok (.return_, 1) := by decide +kernel
theorem d_D_flush_0 : decode b_D_flush 0 = .ok (.aload_n 0, 1) := by decide +kernel
theorem d_D_flush_1 : decode b_D_flush 1 = .ok (.getfield 29, 3) := by decide +kernel
theorem d_D_flush_4 : decode b_D_flush 4 = .ok (.getfield 132, 3) := by decide +kernel
theorem d_D_flush_7 : decode b_D_flush 7 = .ok (.istore_n 1, 1) := by decide +kernel
theorem d_D_flush_8 : decode b_D_flush 8 = .ok (.aload_n 0, 1) := by decide +kernel
theorem d_D_flush_9 : decode b_D_flush 9 = .ok (.invokevirtual 189, 3) := by decide +kernel
theorem d_D_flush_12 : decode b_D_flush 12 = .ok (.pop, 1) := by decide +kernel
theorem d_D_flush_13 : decode b_D_flush 13 = .ok (.iload_n 1, 1) := by decide +kernel
theorem d_D_flush_14 : decode b_D_flush 14 = .ok (.ireturn, 1) := by decide +kernel
theorem d_D_sumOfHeld_0 : decode b_D_sumOfHeld 0 = .ok (.lconst 0, 1) := by decide +kernel
theorem d_D_sumOfHeld_1 : decode b_D_sumOfHeld 1 = .ok (.lstore_n 2, 1) := by decide +kernel
theorem d_D_sumOfHeld_2 : decode b_D_sumOfHeld 2 = .ok (.iconst 0, 1) := by decide +kernel
theorem d_D_sumOfHeld_3 : decode b_D_sumOfHeld 3 = .ok (.istore 4, 2) := by decide +kernel
theorem d_D_sumOfHeld_5 : decode b_D_sumOfHeld 5 = .ok (.iload 4, 2) := by decide +kernel
theorem d_D_sumOfHeld_7 : decode b_D_sumOfHeld 7 = .ok (.aload_n 1, 1) := by decide +kernel
theorem d_D_sumOfHeld_8 : decode b_D_sumOfHeld 8 = .ok (.getfield 142, 3) := by decide +kernel
theorem d_D_sumOfHeld_11 : decode b_D_sumOfHeld 11 = .ok (.if_icmp .ge 36, 3) := by decide +kernel
theorem d_D_sumOfHeld_14 : decode b_D_sumOfHeld 14 = .ok (.aload_n 0, 1) := by decide +kernel
theorem d_D_sumOfHeld_15 : decode b_D_sumOfHeld 15 = .ok (.aload_n 1, 1) := by decide +kernel
theorem d_D_sumOfHeld_16 : decode b_D_sumOfHeld 16 = .ok (.getfield 139, 3) := by decide +kernel
theorem d_D_sumOfHeld_19 : decode b_D_sumOfHeld 19 = .ok (.iload 4, 2) := by decide +kernel
theorem d_D_sumOfHeld_21 : decode b_D_sumOfHeld 21 = .ok (.iadd, 1) := by decide +kernel
theorem d_D_sumOfHeld_22 : decode b_D_sumOfHeld 22 = .ok (.invokevirtual 125, 3) := by decide +kernel
theorem d_D_sumOfHeld_25 : decode b_D_sumOfHeld 25 = .ok (.lstore 5, 2) := by decide +kernel
theorem d_D_sumOfHeld_27 : decode b_D_sumOfHeld 27 = .ok (.lload 5, 2) := by decide +kernel
theorem d_D_sumOfHeld_29 : decode b_D_sumOfHeld 29 = .ok (.ldc2_w 13, 3) := by decide +kernel
theorem d_D_sumOfHeld_32 : decode b_D_sumOfHeld 32 = .ok (.lcmp, 1) := by decide +kernel
theorem d_D_sumOfHeld_33 : decode b_D_sumOfHeld 33 = .ok (.ifCond .eq 8, 3) := by decide +kernel
theorem d_D_sumOfHeld_36 : decode b_D_sumOfHeld 36 = .ok (.lload_n 2, 1) := by decide +kernel
theorem d_D_sumOfHeld_37 : decode b_D_sumOfHeld 37 = .ok (.lload 5, 2) := by decide +kernel
theorem d_D_sumOfHeld_39 : decode b_D_sumOfHeld 39 = .ok (.ladd, 1) := by decide +kernel
theorem d_D_sumOfHeld_40 : decode b_D_sumOfHeld 40 = .ok (.lstore_n 2, 1) := by decide +kernel
theorem d_D_sumOfHeld_41 : decode b_D_sumOfHeld 41 = .ok (.iinc 4 1, 3) := by decide +kernel
theorem d_D_sumOfHeld_44 : decode b_D_sumOfHeld 44 = .ok (.goto (-39), 3) := by decide +kernel
theorem d_D_sumOfHeld_47 : decode b_D_sumOfHeld 47 = .ok (.lload_n 2, 1) := by decide +kernel
theorem d_D_sumOfHeld_48 : decode b_D_sumOfHeld 48 = .ok (.lreturn, 1) := by decide +kernel
theorem d_D_mismatches_0 : decode b_D_mismatches 0 = .ok (.iconst 0, 1) := by decide +kernel
theorem d_D_mismatches_1 : decode b_D_mismatches 1 = .ok (.istore_n 2, 1) := by decide +kernel
theorem d_D_mismatches_2 : decode b_D_mismatches 2 = .ok (.iconst 0, 1) := by decide +kernel
theorem d_D_mismatches_3 : decode b_D_mismatches 3 = .ok (.istore_n 3, 1) := by decide +kernel
theorem d_D_mismatches_4 : decode b_D_mismatches 4 = .ok (.iload_n 3, 1) := by decide +kernel
theorem d_D_mismatches_5 : decode b_D_mismatches 5 = .ok (.aload_n 1, 1) := by decide +kernel
theorem d_D_mismatches_6 : decode b_D_mismatches 6 = .ok (.getfield 142, 3) := by decide +kernel
theorem d_D_mismatches_9 : decode b_D_mismatches 9 = .ok (.if_icmp .ge 36, 3) := by decide +kernel
theorem d_D_mismatches_12 : decode b_D_mismatches 12 = .ok (.aload_n 0, 1) := by decide +kernel
theorem d_D_mismatches_13 : decode b_D_mismatches 13 = .ok (.aload_n 1, 1) := by decide +kernel
theorem d_D_mismatches_14 : decode b_D_mismatches 14 = .ok (.getfield 139, 3) := by decide +kernel
theorem d_D_mismatches_17 : decode b_D_mismatches 17 = .ok (.iload_n 3, 1) := by decide +kernel
theorem d_D_mismatches_18 : decode b_D_mismatches 18 = .ok (.iadd, 1) := by decide +kernel
theorem d_D_mismatches_19 : decode b_D_mismatches 19 = .ok (.invokevirtual 125, 3) := by decide +kernel
theorem d_D_mismatches_22 : decode b_D_mismatches 22 = .ok (.aload_n 1, 1) := by decide +kernel
theorem d_D_mismatches_23 : decode b_D_mismatches 23 = .ok (.aload_n 1, 1) := by decide +kernel
theorem d_D_mismatches_24 : decode b_D_mismatches 24 = .ok (.getfield 139, 3) := by decide +kernel
theorem d_D_mismatches_27 : decode b_D_mismatches 27 = .ok (.iload_n 3, 1) := by decide +kernel
theorem d_D_mismatches_28 : decode b_D_mismatches 28 = .ok (.iadd, 1) := by decide +kernel
theorem d_D_mismatches_29 : decode b_D_mismatches 29 = .ok (.invokevirtual 176, 3) := by decide +kernel
theorem d_D_mismatches_32 : decode b_D_mismatches 32 = .ok (.lcmp, 1) := by decide +kernel
theorem d_D_mismatches_33 : decode b_D_mismatches 33 = .ok (.ifCond .eq 6, 3) := by decide +kernel
theorem d_D_mismatches_36 : decode b_D_mismatches 36 = .ok (.iinc 2 1, 3) := by decide +kernel
theorem d_D_mismatches_39 : decode b_D_mismatches 39 = .ok (.iinc 3 1, 3) := by decide +kernel
theorem d_D_mismatches_42 : decode b_D_mismatches 42 = .ok (.goto (-38), 3) := by decide +kernel
theorem d_D_mismatches_45 : decode b_D_mismatches 45 = .ok (.iload_n 2, 1) := by decide +kernel
theorem d_D_mismatches_46 : decode b_D_mismatches 46 = .ok (.ireturn, 1) := by decide +kernel
theorem empA_f {fl : Nat → Int64} {u : uU} {us : List uU} {st pw pl : Nat} (h : pl < lnU u) : empA (u :: us) fl st pw pl = (false, (fl, u :: us, st, pw + pl, 0)) := by simp only [empA]; rw [if_neg (by omega)]
theorem empA_t {fl : Nat → Int64} {u : uU} {us : List uU} {st pw pl : Nat} (h : lnU u ≤ pl) : empA (u :: us) fl st pw pl = empA us (apU u (lnU u) fl) (st + 1) (pw + lnU u) (pl - lnU u) := by simp only [empA]; rw [if_pos h]
theorem empA_pl : ∀ {us : List uU} {fl : Nat → Int64} {st pw pl : Nat}, (empA us fl st pw pl).2.2.2.2.2 ≤ pl
  | [], _, _, _, _ => Nat.le_refl _
  | u :: us, fl, st, pw, pl => by
    rcases Nat.lt_or_ge pl (lnU u) with h | h
    · rw [empA_f h]; exact Nat.zero_le _
    · rw [empA_t h]; exact Nat.le_trans empA_pl (Nat.sub_le _ _)
set_option maxHeartbeats 4000000 in
set_option maxRecDepth 100000 in
theorem m_D_emptyCache {l : Launch} {D : va_G} {cA : Nat → ClassId} {n0 : Nat} {w : mw} {S : Nat → Prop} {h0 hf hc hu hq L ln : Nat} {tn : Int32} {tr : Int64} {fl : Nat → Int64} {us : List uU} {st pw pl : Nat} (K : DC cA w S h0 hf hc hu hq L ln tn tr (fl, us, st, pw, pl)) (hpl : pl < 1000) :
    Mi l D cA n0 y_D_emptyCache c_D_emptyCache (rmd 3) [.ref h0] w (fun r w' => r = bI ((empK (fl, us, st, pw, pl)).1 = true) ∧ DC cA w' S h0 hf hc hu hq L ln tn tr (empK (fl, us, st, pw, pl)).2 ∧ FR w w' (PP S h0 hf)) := by
  refine mw_met (cc := b_D_emptyCache) (maxL := 3) (ret := (some .boolean)) (by decide) rfl (Nat.le_of_ble_eq_true rfl) ?_
  intro p e s m below meth c ls G hrt hlocks hname h hl
  have G : mw_G p m c b_D_emptyCache 3 s _ (c_D_emptyCache :: TB) R_D D cl (tys cA) n0 := G
  have hx := G.1.1
  have hb := G.1.2.1
  have hl : lv_has ls 3 [(0, .ref h0)] := hl
  obtain ⟨hD, hF, ⟨f, g, hC, hU, hlen, hL, hg, hus, hinj, hSc, hSu⟩, hS0, hSf, hv⟩ := id K
  have hD : w h0 = some (dcell hf hc hq ln tn tr st pw pl) := hD
  have hF : w hf = some (longs cA 24 fl) := hF
  have hC : w hc = some (ccell hu us.length) := hC
  have hlen : us.length ≤ L := hlen
  refine lv_aload_n hx hb d_D_emptyCache_0 rfl (lv_at hl 0 rfl) ?_
  refine mx_get G h hD rfl 1 (by decide) (tb_in in_D) (tb_c k_118) rfl rfl d_D_emptyCache_1 ?_
  refine mx_get G h hC rfl 1 (by decide) (tb_in in_C) (tb_c k_60) rfl rfl d_D_emptyCache_4 ?_
  refine lv_istore_n (lv' := [(1, .int (nI us.length)), (0, .ref h0)]) hx hb d_D_emptyCache_7 rfl hl (by decide) rfl (fun ls hl => ?_)
  refine lv_iconst (v := 0) hx hb d_D_emptyCache_8 (by decide) ?_
  refine lv_istore_n (lv' := [(2, .int 0), (1, .int (nI us.length)), (0, .ref h0)]) hx hb d_D_emptyCache_9 rfl hl (by decide) rfl (fun ls hl => ?_)
  have loop : ∀ (vs : List uU) (i : Nat) (gl : Nat → Int64) (s1 p1 l1 : Nat) (v : mw), i + vs.length = us.length → l1 < 1000 → DC cA v S h0 hf hc hu hq L ln tn tr (gl, vs, s1, p1, l1) → FR w v (PP S h0 hf) → empA vs gl s1 p1 l1 = empA us fl st pw pl → ∀ (H : Heap) (locs : List Loc) (ls : Array Slot), mw_H n0 D cl s v H locs → lv_has ls 3 [(2, .int (nI i)), (1, .int (nI us.length)), (0, .ref h0)] → W p l e (rmd 3) s m ([.ref h0] : List Value).toArray below meth c H locs 0 0 (MQ below (mw_Qi n0 D cl (fun r w' => r = bI ((empK (fl, us, st, pw, pl)).1 = true) ∧ DC cA w' S h0 hf hc hu hq L ln tn tr (empK (fl, us, st, pw, pl)).2 ∧ FR w w' (PP S h0 hf))) ([.ref h0] : List Value).toArray s 0 0 (mw_A n0)) (F0 m 10 ls []) := by
    intro vs
    induction vs with
    | nil =>
      intro i gl s1 p1 l1 v hi hl1 Kv hfr he H locs ls h hl
      have hi : i = us.length := hi
      refine lv_iload_n hx hb d_D_emptyCache_10 rfl (lv_at hl 0 rfl) ?_
      refine lv_iload_n hx hb d_D_emptyCache_11 rfl (lv_at hl 1 rfl) ?_
      refine lv_icmp_ge (tgt := 30) hx hb d_D_emptyCache_12 (by decide) (fun c_1 => ?_) (fun c_1 => ?_)
      · refine lv_iconst (v := 1) hx hb d_D_emptyCache_30 (by decide) ?_
        exact mx_retz G h hrt hlocks d_D_emptyCache_31 rfl (⟨by show 1 = bI ((empA us fl st pw pl).1 = true); rw [← he]; rfl, by show DC cA v S h0 hf hc hu hq L ln tn tr (empA us fl st pw pl).2; rw [← he]; exact Kv, hfr⟩)
      · exact absurd (by rw [hi]; exact Int32.le_refl _) c_1
    | cons u vs ih =>
      intro i gl s1 p1 l1 v hi hl1 Kv hfr he H locs ls h hl
      have hi : i + (vs.length + 1) = us.length := hi
      have hD1 := Kv.1
      refine lv_iload_n hx hb d_D_emptyCache_10 rfl (lv_at hl 0 rfl) ?_
      refine lv_iload_n hx hb d_D_emptyCache_11 rfl (lv_at hl 1 rfl) ?_
      refine lv_icmp_ge (tgt := 30) hx hb d_D_emptyCache_12 (by decide) (fun c_2 => ?_) (fun c_2 => ?_)
      · exact absurd ((nI_leI (by omega) (by omega)).mp c_2) (by omega)
      · refine lv_aload_n hx hb d_D_emptyCache_15 rfl (lv_at hl 2 rfl) ?_
        refine mx_ci (cV (As := []) (rest := []) G h (m_D_storeOldest Kv hl1) k_204 k_206 ks_5 k_1 k_207 hd_D_storeOldest rfl rfl ⟨Nat.le_of_ble_eq_true rfl, Nat.le_of_ble_eq_true rfl⟩ hD1 rfl rfl hl.1 rfl (Nat.le_of_ble_eq_true rfl) d_D_emptyCache_16 ⟨Nat.le_of_ble_eq_true rfl, Nat.le_of_ble_eq_true rfl⟩) h (fun r_4 w_3 H locs h hcp => ?_)
        obtain ⟨er, K1, hf1⟩ := hcp
        rcases Nat.lt_or_ge l1 (lnU u) with hlt | hge
        · rw [stoO_f hlt] at er K1
          have er : r_4 = 0 := er
          subst er
          refine lv_if_ne (tgt := 24) hx hb d_D_emptyCache_19 (by decide) (fun c_5 => ?_) (fun c_5 => ?_)
          · exact absurd rfl c_5
          · refine lv_iconst (v := 0) hx hb d_D_emptyCache_22 (by decide) ?_
            exact mx_retz G h hrt hlocks d_D_emptyCache_23 rfl (⟨by show 0 = bI ((empA us fl st pw pl).1 = true); rw [← he, empA_f hlt]; rfl, by show DC cA _ S h0 hf hc hu hq L ln tn tr (empA us fl st pw pl).2; rw [← he, empA_f hlt]; exact K1, hfr.tr hf1⟩)
        · rw [stoO_t hge] at er K1
          have er : r_4 = 1 := er
          subst er
          refine lv_if_ne (tgt := 24) hx hb d_D_emptyCache_19 (by decide) (fun c_6 => ?_) (fun c_6 => ?_)
          · refine lv_iinc (v := (nI i) + 1) (lv' := [(2, .int ((nI i) + 1)), (1, .int (nI us.length)), (0, .ref h0)]) hx hb d_D_emptyCache_24 hl (k := 0) rfl rfl (by decide) rfl (fun ls hl => ?_)
            refine lv_goto (tgt := 10) hx hb d_D_emptyCache_27 (by decide) ?_
            rw [nI_1] at hl
            exact ih (i + 1) _ _ _ _ _ (by omega) (by omega) K1 (hfr.tr hf1) (by rw [← he, empA_t hge]) H locs ls h (lv_sub hl [0, 1, 2] rfl)
          · exact absurd c_6 (by decide)
  exact loop us 0 fl st pw pl w (by omega) hpl K FR.rf rfl _ _ ls h (lv_sub hl [0, 1, 2] rfl)
set_option maxHeartbeats 4000000 in
set_option maxRecDepth 100000 in
theorem m_D_cacheUnit {l : Launch} {D : va_G} {cA : Nat → ClassId} {n0 : Nat} {w : mw} {S : Nat → Prop} {h0 hf hc hu hq L ln : Nat} {tn : Int32} {tr : Int64} {fl : Nat → Int64} {us : List uU} {st pw pl : Nat} (K : DC cA w S h0 hf hc hu hq L ln tn tr (fl, us, st, pw, pl)) (hpl : pl < 1000) (hL1 : 1 ≤ L) {a : Nat} {u : uU} (ha : w a = some (ucell u)) (hV : vU u) (hna : ¬ PP S h0 hf a) :
    Mv l D cA n0 y_D_cacheUnit c_D_cacheUnit (rmd 3) [.ref h0, .ref a] w (fun w' => DC cA w' S h0 hf hc hu hq L ln tn tr (cacA L u (fl, us, st, pw, pl)) ∧ FR w w' (PP S h0 hf)) := by
  refine mw_met (cc := b_D_cacheUnit) (maxL := 2) (ret := (none)) (by decide) rfl (Nat.le_of_ble_eq_true rfl) ?_
  intro p e s m below meth c ls G hrt hlocks hname h hl
  have G : mw_G p m c b_D_cacheUnit 2 s _ (c_D_cacheUnit :: TB) R_D D cl (tys cA) n0 := G
  have hx := G.1.1
  have hb := G.1.2.1
  have hl : lv_has ls 2 [(0, .ref h0), (1, .ref a)] := hl
  obtain ⟨hD, hF, ⟨f, g, hC, hU, hlen, hL, hg, hus, hinj, hSc, hSu⟩, hS0, hSf, hv⟩ := id K
  have hD : w h0 = some (dcell hf hc hq ln tn tr st pw pl) := hD
  have hF : w hf = some (longs cA 24 fl) := hF
  have hC : w hc = some (ccell hu us.length) := hC
  have hlen : us.length ≤ L := hlen
  have add : ∀ (κ : kS) (v : mw), κ.2.1.length < L → DC cA v S h0 hf hc hu hq L ln tn tr κ → FR w v (PP S h0 hf) → cacA L u (fl, us, st, pw, pl) = (κ.1, κ.2.1 ++ [u], κ.2.2) → ∀ (H : Heap) (locs : List Loc) (ls : Array Slot), mw_H n0 D cl s v H locs → lv_has ls 2 [(0, .ref h0), (1, .ref a)] → W p l e (rmd 3) s m ([.ref h0, .ref a] : List Value).toArray below meth c H locs 0 0 (MQ below (mw_Qv n0 D cl (fun w' => DC cA w' S h0 hf hc hu hq L ln tn tr (cacA L u (fl, us, st, pw, pl)) ∧ FR w w' (PP S h0 hf))) ([.ref h0, .ref a] : List Value).toArray s 0 0 (mw_A n0)) (F0 m 18 ls []) := by
    intro κ v hlt Kv hfr he H locs ls h hl
    obtain ⟨hD1, hF1, ⟨f1, g1, hX1⟩, -, -, hv1⟩ := id Kv
    have hX1 : CAx cA v S hc hu L κ.2.1 f1 g1 := hX1
    have ha1 : v a = some (ucell u) := by rw [hfr a hna]; exact ha
    refine lv_aload_n hx hb d_D_cacheUnit_18 rfl (lv_at hl 0 rfl) ?_
    refine mx_get G h hD1 rfl 1 (by decide) (tb_in in_D) (tb_c k_118) rfl rfl d_D_cacheUnit_19 ?_
    refine lv_aload_n hx hb d_D_cacheUnit_22 rfl (lv_at hl 1 rfl) ?_
    refine mx_cv (cV (As := [.ref a]) (rest := []) G h (m_C_add hX1.1 hX1.2.1 hX1.2.2.2.1 hlt (hX1.2.2.2.2.1 _ hlt).1 ha1 (hX1.2.2.2.2.1 _ hlt).2.2.choose_spec hV.2.2.2.2.2) k_216 k_217 k_218 k_2 k_219 hd_C_add rfl rfl ⟨Nat.le_of_ble_eq_true rfl, Nat.le_of_ble_eq_true rfl⟩ hX1.1 rfl rfl hl.1 rfl (Nat.le_of_ble_eq_true rfl) d_D_cacheUnit_23 ⟨Nat.le_of_ble_eq_true rfl, Nat.le_of_ble_eq_true rfl⟩) h (fun w_1 H locs h hcp => ?_)
    subst hcp
    have hSg := (hX1.2.2.2.2.1 _ hlt).2.1
    exact mx_retv G h hrt hlocks d_D_cacheUnit_26 (⟨by rw [he]; exact ⟨by rw [mw_ne (fun z => hS0 (by rw [z]; exact hSc)), mw_ne (fun z => hS0 (by rw [z]; exact hSg))]; exact hD1, by rw [mw_ne (fun z => hSf (by rw [z]; exact hSc)), mw_ne (fun z => hSf (by rw [z]; exact hSg))]; exact hF1, (hX1.add hlt u).ca, hS0, hSf, fun y hy => (List.mem_append.mp hy).elim (hv1 y) (fun z => by rw [List.mem_singleton.mp z]; exact hV)⟩, hfr.tr ((FR.up (Or.inr (Or.inr hSg))).tr (FR.up (Or.inr (Or.inr hSc))))⟩)
  refine lv_aload_n hx hb d_D_cacheUnit_0 rfl (lv_at hl 0 rfl) ?_
  refine mx_get G h hD rfl 1 (by decide) (tb_in in_D) (tb_c k_118) rfl rfl d_D_cacheUnit_1 ?_
  refine mx_ci (cV (As := []) (rest := []) G h (m_C_isFull hC hU hL (by omega)) k_200 k_201 k_202 k_2 k_203 hd_C_isFull rfl rfl ⟨Nat.le_of_ble_eq_true rfl, Nat.le_of_ble_eq_true rfl⟩ hC rfl rfl hl.1 rfl (Nat.le_of_ble_eq_true rfl) d_D_cacheUnit_4 ⟨Nat.le_of_ble_eq_true rfl, Nat.le_of_ble_eq_true rfl⟩) h (fun r_3 w_2 H locs h hcp => ?_)
  obtain ⟨er_4, ew_5⟩ := hcp
  subst er_4
  rw [ew_5] at h
  refine lv_if_eq (tgt := 18) hx hb d_D_cacheUnit_7 (by decide) (fun c_6 => ?_) (fun c_6 => ?_)
  · exact add (fl, us, st, pw, pl) w (Nat.not_le.mp (bI_0 c_6)) K FR.rf (by simp only [cacA]; rw [if_neg (bI_0 c_6)]) H locs ls h hl
  · refine lv_aload_n hx hb d_D_cacheUnit_10 rfl (lv_at hl 0 rfl) ?_
    refine mx_ci (cV (As := []) (rest := []) G h (m_D_storeOldest K hpl) k_204 k_206 ks_5 k_1 k_207 hd_D_storeOldest rfl rfl ⟨Nat.le_of_ble_eq_true rfl, Nat.le_of_ble_eq_true rfl⟩ hD rfl rfl hl.1 rfl (Nat.le_of_ble_eq_true rfl) d_D_cacheUnit_11 ⟨Nat.le_of_ble_eq_true rfl, Nat.le_of_ble_eq_true rfl⟩) h (fun r_8 w_7 H locs h hcp => ?_)
    obtain ⟨er, K1, hf1⟩ := hcp
    subst er
    refine lv_if_ne (tgt := 18) hx hb d_D_cacheUnit_14 (by decide) (fun c_9 => ?_) (fun c_9 => ?_)
    · have hb1 := bI_n c_9
      have hl9 : (stoO (fl, us, st, pw, pl)).2.2.1.length + 1 = us.length := stoO_us hb1 (fun z => by have z : us = [] := z; rw [z] at hlen; have := bI_n c_6; rw [z] at this; simp at this; omega)
      exact add _ _ (by omega) K1 hf1 (by simp only [cacA]; rw [if_pos (bI_n c_6), if_pos hb1]) H locs ls h hl
    · exact mx_retv G h hrt hlocks d_D_cacheUnit_17 (⟨by simp only [cacA]; rw [if_pos (bI_n c_6), if_neg (bI_0 c_9)]; exact K1, hf1⟩)
set_option maxHeartbeats 4000000 in
set_option maxRecDepth 100000 in
theorem m_D_force {l : Launch} {D : va_G} {cA : Nat → ClassId} {n0 : Nat} {w : mw} {S : Nat → Prop} {h0 hf hc hu hq L ln : Nat} {tn : Int32} {tr : Int64} {fl : Nat → Int64} {us : List uU} {st pw pl : Nat} (K : DC cA w S h0 hf hc hu hq L ln tn tr (fl, us, st, pw, pl)) (hpl : pl < 1000) {a : Nat} {u : uU} (ha : w a = some (ucell u)) (hV : vU u) (hna : ¬ PP S h0 hf a) :
    Mv l D cA n0 y_D_force c_D_force (rmd 4) [.ref h0, .ref a] w (fun w' => DC cA w' S h0 hf hc hu hq L ln tn tr (forA u (fl, us, st, pw, pl)) ∧ FR w w' (PP S h0 hf)) := by
  refine mw_met (cc := b_D_force) (maxL := 2) (ret := (none)) (by decide) rfl (Nat.le_of_ble_eq_true rfl) ?_
  intro p e s m below meth c ls G hrt hlocks hname h hl
  have G : mw_G p m c b_D_force 2 s _ (c_D_force :: TB) R_D D cl (tys cA) n0 := G
  have hx := G.1.1
  have hb := G.1.2.1
  have hl : lv_has ls 2 [(0, .ref h0), (1, .ref a)] := hl
  obtain ⟨hD, hF, ⟨f, g, hC, hU, hlen, hL, hg, hus, hinj, hSc, hSu⟩, hS0, hSf, hv⟩ := id K
  have hD : w h0 = some (dcell hf hc hq ln tn tr st pw pl) := hD
  have hF : w hf = some (longs cA 24 fl) := hF
  have hC : w hc = some (ccell hu us.length) := hC
  have hlen : us.length ≤ L := hlen
  refine lv_aload_n hx hb d_D_force_0 rfl (lv_at hl 0 rfl) ?_
  refine mx_ci (cV (As := []) (rest := []) G h (m_D_emptyCache K hpl) k_226 k_228 ks_8 k_1 k_229 hd_D_emptyCache rfl rfl ⟨Nat.le_of_ble_eq_true rfl, Nat.le_of_ble_eq_true rfl⟩ hD rfl rfl hl.1 rfl (Nat.le_of_ble_eq_true rfl) d_D_force_1 ⟨Nat.le_of_ble_eq_true rfl, Nat.le_of_ble_eq_true rfl⟩) h (fun r_2 w_1 H locs h hcp => ?_)
  obtain ⟨er, K1, hf1⟩ := hcp
  subst er
  refine lv_if_eq (tgt := 13) hx hb d_D_force_4 (by decide) (fun c_3 => ?_) (fun c_3 => ?_)
  · exact mx_retv G h hrt hlocks d_D_force_13 (⟨by simp only [forA]; rw [if_neg (bI_0 c_3)]; exact K1, hf1⟩)
  · have hpl1 : (empK (fl, us, st, pw, pl)).2.2.2.2.2 < 1000 := Nat.lt_of_le_of_lt empA_pl hpl
    have e9 : forA u (fl, us, st, pw, pl) = stoF u (empK (fl, us, st, pw, pl)).2 := by simp only [forA]; rw [if_pos (bI_n c_3)]
    rw [e9]
    generalize (empK (fl, us, st, pw, pl)).2 = κ at K1 hpl1
    obtain ⟨hD1, hF1, hC1, -, -, hv1⟩ := id K1
    have ha1 : w_1 a = some (ucell u) := by rw [hf1 a hna]; exact ha
    refine lv_aload_n hx hb d_D_force_7 rfl (lv_at hl 0 rfl) ?_
    refine lv_aload_n hx hb d_D_force_8 rfl (lv_at hl 1 rfl) ?_
    refine mx_ci (cV (As := [.ref a]) (rest := []) G h (m_D_store hD1 hF1 ha1 hV hpl1) k_208 k_210 ks_6 k_1 k_211 hd_D_store rfl rfl ⟨Nat.le_of_ble_eq_true rfl, Nat.le_of_ble_eq_true rfl⟩ hD1 rfl rfl hl.1 rfl (Nat.le_of_ble_eq_true rfl) d_D_force_9 ⟨Nat.le_of_ble_eq_true rfl, Nat.le_of_ble_eq_true rfl⟩) h (fun r_5 w_4 H locs h hcp => ?_)
    refine lv_pop hx hb d_D_force_12 rfl ?_
    rcases Nat.lt_or_ge κ.2.2.2.2 (lnU u) with hlt | hge
    · obtain ⟨-, ew⟩ := hcp.2 hlt
      subst ew
      exact mx_retv G h hrt hlocks d_D_force_13 (⟨by rw [stoF, if_neg (by omega)]; exact ⟨mw_self, by rw [mw_ne (mw_apart hF1 hD1 (by simp))]; exact hF1, hC1.frame (fun x hx => mw_ne (fun z => hS0 (by rw [← z]; exact hx))), hS0, hSf, hv1⟩, hf1.tr (FR.up (Or.inl rfl))⟩)
    · obtain ⟨-, ew⟩ := hcp.1 hge
      subst ew
      exact mx_retv G h hrt hlocks d_D_force_13 (⟨by rw [stoF, if_pos hge]; exact ⟨by rw [mw_ne (mw_apart hD1 hF1 (by simp))]; exact mw_self, mw_self, hC1.frame (fun x hx => by rw [mw_ne (fun z => hSf (by rw [← z]; exact hx)), mw_ne (fun z => hS0 (by rw [← z]; exact hx))]), hS0, hSf, hv1⟩, hf1.tr ((FR.up (Or.inl rfl)).tr (FR.up (Or.inr (Or.inl rfl))))⟩)
set_option maxHeartbeats 4000000 in
set_option maxRecDepth 100000 in
theorem m_D_flush {l : Launch} {D : va_G} {cA : Nat → ClassId} {n0 : Nat} {w : mw} {S : Nat → Prop} {h0 hf hc hu hq L ln : Nat} {tn : Int32} {tr : Int64} {fl : Nat → Int64} {us : List uU} {st pw pl : Nat} (K : DC cA w S h0 hf hc hu hq L ln tn tr (fl, us, st, pw, pl)) (hpl : pl < 1000) :
    Mi l D cA n0 y_D_flush c_D_flush (rmd 4) [.ref h0] w (fun r w' => r = nI us.length ∧ DC cA w' S h0 hf hc hu hq L ln tn tr (empK (fl, us, st, pw, pl)).2 ∧ FR w w' (PP S h0 hf)) := by
  refine mw_met (cc := b_D_flush) (maxL := 2) (ret := (some .int)) (by decide) rfl (Nat.le_of_ble_eq_true rfl) ?_
  intro p e s m below meth c ls G hrt hlocks hname h hl
  have G : mw_G p m c b_D_flush 2 s _ (c_D_flush :: TB) R_D D cl (tys cA) n0 := G
  have hx := G.1.1
  have hb := G.1.2.1
  have hl : lv_has ls 2 [(0, .ref h0)] := hl
  obtain ⟨hD, hF, ⟨f, g, hC, hU, hlen, hL, hg, hus, hinj, hSc, hSu⟩, hS0, hSf, hv⟩ := id K
  have hD : w h0 = some (dcell hf hc hq ln tn tr st pw pl) := hD
  have hF : w hf = some (longs cA 24 fl) := hF
  have hC : w hc = some (ccell hu us.length) := hC
  have hlen : us.length ≤ L := hlen
  refine lv_aload_n hx hb d_D_flush_0 rfl (lv_at hl 0 rfl) ?_
  refine mx_get G h hD rfl 1 (by decide) (tb_in in_D) (tb_c k_118) rfl rfl d_D_flush_1 ?_
  refine mx_get G h hC rfl 1 (by decide) (tb_in in_C) (tb_c k_60) rfl rfl d_D_flush_4 ?_
  refine lv_istore_n (lv' := [(1, .int (nI us.length)), (0, .ref h0)]) hx hb d_D_flush_7 rfl hl (by decide) rfl (fun ls hl => ?_)
  refine lv_aload_n hx hb d_D_flush_8 rfl (lv_at hl 1 rfl) ?_
  refine mx_ci (cV (As := []) (rest := []) G h (m_D_emptyCache K hpl) k_226 k_228 ks_8 k_1 k_229 hd_D_emptyCache rfl rfl ⟨Nat.le_of_ble_eq_true rfl, Nat.le_of_ble_eq_true rfl⟩ hD rfl rfl hl.1 rfl (Nat.le_of_ble_eq_true rfl) d_D_flush_9 ⟨Nat.le_of_ble_eq_true rfl, Nat.le_of_ble_eq_true rfl⟩) h (fun r_2 w_1 H locs h hcp => ?_)
  obtain ⟨-, K1, hf1⟩ := hcp
  refine lv_pop hx hb d_D_flush_12 rfl ?_
  refine lv_iload_n hx hb d_D_flush_13 rfl (lv_at hl 0 rfl) ?_
  exact mx_reti G h hrt hlocks d_D_flush_14 (⟨rfl, K1, hf1⟩)
set_option maxHeartbeats 4000000 in
set_option maxRecDepth 100000 in
theorem m_D_sumOfHeld {l : Launch} {D : va_G} {cA : Nat → ClassId} {n0 : Nat} {w : mw} {S : Nat → Prop} {h0 hf hc hu hq L ln : Nat} {tn : Int32} {tr : Int64} {fl : Nat → Int64} {us : List uU} {st pw pl : Nat} (K : DC cA w S h0 hf hc hu hq L ln tn tr (fl, us, st, pw, pl)) {a : Nat} {u : uU} (ha : w a = some (ucell u)) (hV : vU u) :
    Ml l D cA n0 y_D_sumOfHeld c_D_sumOfHeld (rmd 2) [.ref h0, .ref a] w (fun r w' => r = sumH fl us (fsU u) (lnU u) ∧ w' = w) := by
  refine mw_met (cc := b_D_sumOfHeld) (maxL := 7) (ret := (some .long)) (by decide) rfl (Nat.le_of_ble_eq_true rfl) ?_
  intro p e s m below meth c ls G hrt hlocks hname h hl
  have G : mw_G p m c b_D_sumOfHeld 7 s _ (c_D_sumOfHeld :: TB) R_D D cl (tys cA) n0 := G
  have hx := G.1.1
  have hb := G.1.2.1
  have hl : lv_has ls 7 [(0, .ref h0), (1, .ref a)] := hl
  obtain ⟨hD, hF, ⟨f, g, hC, hU, hlen, hL, hg, hus, hinj, hSc, hSu⟩, hS0, hSf, hv⟩ := id K
  have hD : w h0 = some (dcell hf hc hq ln tn tr st pw pl) := hD
  have hF : w hf = some (longs cA 24 fl) := hF
  have hC : w hc = some (ccell hu us.length) := hC
  have hlen : us.length ≤ L := hlen
  obtain ⟨hu1, hu2, hl1, hl4, h24, hz⟩ := hV
  refine lv_lconst (v := 0) hx hb d_D_sumOfHeld_0 (by decide) ?_
  refine lv_lstore_n (lv' := [(2, .long 0), (0, .ref h0), (1, .ref a)]) hx hb d_D_sumOfHeld_1 rfl hl (by decide) rfl (fun ls hl => ?_)
  refine lv_iconst (v := 0) hx hb d_D_sumOfHeld_2 (by decide) ?_
  refine lv_istore (lv' := [(4, .int 0), (2, .long 0), (0, .ref h0), (1, .ref a)]) hx hb d_D_sumOfHeld_3 hl (by decide) rfl (fun ls hl => ?_)
  have loop : ∀ (t k : Nat), k + t = lnU u → ∀ (H : Heap) (locs : List Loc) (ls : Array Slot), mw_H n0 D cl s w H locs → lv_has ls 7 [(4, .int (nI k)), (2, .long (sumH fl us (fsU u) k)), (0, .ref h0), (1, .ref a)] → W p l e (rmd 2) s m ([.ref h0, .ref a] : List Value).toArray below meth c H locs 0 0 (MQ below (mw_Ql n0 D cl (fun r w' => r = sumH fl us (fsU u) (lnU u) ∧ w' = w)) ([.ref h0, .ref a] : List Value).toArray s 0 0 (mw_A n0)) (F0 m 5 ls []) := by
    intro t
    induction t with
    | zero =>
      intro k hk H locs ls h hl
      have hk : k = lnU u := hk
      refine lv_iload hx hb d_D_sumOfHeld_5 (lv_at hl 0 rfl) ?_
      refine lv_aload_n hx hb d_D_sumOfHeld_7 rfl (lv_at hl 3 rfl) ?_
      refine mx_get G h ha rfl 1 (by decide) (tb_in in_U) (tb_c k_41) rfl rfl d_D_sumOfHeld_8 ?_
      refine lv_icmp_ge (tgt := 47) hx hb d_D_sumOfHeld_11 (by decide) (fun c_1 => ?_) (fun c_1 => ?_)
      · refine lv_lload_n hx hb d_D_sumOfHeld_47 rfl (lv_at hl 1 rfl) ?_
        exact mx_retl G h hrt hlocks d_D_sumOfHeld_48 (⟨by rw [hk], rfl⟩)
      · exact absurd (by rw [hu2, hk]; exact Int32.le_refl _) c_1
    | succ t ih =>
      intro k hk H locs ls h hl
      have hq1 : u.1 + nI k = nI (fsU u + k) := by rw [hu1]; exact nI_add _ _
      refine lv_iload hx hb d_D_sumOfHeld_5 (lv_at hl 0 rfl) ?_
      refine lv_aload_n hx hb d_D_sumOfHeld_7 rfl (lv_at hl 3 rfl) ?_
      refine mx_get G h ha rfl 1 (by decide) (tb_in in_U) (tb_c k_41) rfl rfl d_D_sumOfHeld_8 ?_
      refine lv_icmp_ge (tgt := 47) hx hb d_D_sumOfHeld_11 (by decide) (fun c_2 => ?_) (fun c_2 => ?_)
      · exact absurd c_2 (by rw [hu2, nI_leI (by omega) (by omega)]; omega)
      · refine lv_aload_n hx hb d_D_sumOfHeld_14 rfl (lv_at hl 2 rfl) ?_
        refine lv_aload_n hx hb d_D_sumOfHeld_15 rfl (lv_at hl 3 rfl) ?_
        refine mx_get G h ha rfl 0 (by decide) (tb_in in_U) (tb_c k_38) rfl rfl d_D_sumOfHeld_16 ?_
        refine lv_iload hx hb d_D_sumOfHeld_19 (lv_at hl 0 rfl) ?_
        refine lv_iadd hx hb d_D_sumOfHeld_21 ?_
        refine mx_cl (cV (As := [.int (u.1 + (nI k))]) (rest := []) G h (m_D_heldWord K (a := fsU u + k) (by omega) hq1) k_183 k_185 ks_3 k_1 k_186 hd_D_heldWord rfl rfl ⟨Nat.le_of_ble_eq_true rfl, Nat.le_of_ble_eq_true rfl⟩ hD rfl rfl hl.1 rfl (Nat.le_of_ble_eq_true rfl) d_D_sumOfHeld_22 ⟨Nat.le_of_ble_eq_true rfl, Nat.le_of_ble_eq_true rfl⟩) h (fun r_4 w_3 H locs h hcp => ?_)
        obtain ⟨er_5, ew_6⟩ := hcp
        subst er_5
        rw [ew_6] at h
        refine lv_lstore (lv' := [(5, .long (hld fl us (fsU u + k))), (4, .int (nI k)), (2, .long (sumH fl us (fsU u) k)), (0, .ref h0), (1, .ref a)]) hx hb d_D_sumOfHeld_25 hl (by decide) rfl (fun ls hl => ?_)
        refine lv_lload hx hb d_D_sumOfHeld_27 (lv_at hl 0 rfl) ?_
        refine lv_ldc2 (v := NN) hx hb G.1.2.2.2.1 (G.1.2.2.2.2 _ (tb_c k_16)) d_D_sumOfHeld_29 ?_
        refine W.lcmp hx hb d_D_sumOfHeld_32 ?_
        refine lv_if_eq (tgt := 41) hx hb d_D_sumOfHeld_33 (by decide) (fun c_7 => ?_) (fun c_7 => ?_)
        · refine lv_iinc (v := (nI k) + 1) (lv' := [(4, .int ((nI k) + 1)), (5, .long (hld fl us (fsU u + k))), (2, .long (sumH fl us (fsU u) k)), (0, .ref h0), (1, .ref a)]) hx hb d_D_sumOfHeld_41 hl (k := 1) rfl rfl (by decide) rfl (fun ls hl => ?_)
          refine lv_goto (tgt := 5) hx hb d_D_sumOfHeld_44 (by decide) ?_
          rw [nI_1] at hl
          refine ih (k + 1) (by omega) H locs ls h ?_
          have q1 : sumH fl us (fsU u) (k + 1) = sumH fl us (fsU u) k := by rw [sumH, if_pos ((lg_cmp_eq _ _).mp c_7)]
          rw [q1]
          exact lv_sub hl [0, 2, 3, 4] rfl
        · refine lv_lload_n hx hb d_D_sumOfHeld_36 rfl (lv_at hl 2 rfl) ?_
          refine lv_lload hx hb d_D_sumOfHeld_37 (lv_at hl 0 rfl) ?_
          refine lv_ladd hx hb d_D_sumOfHeld_39 ?_
          refine lv_lstore_n (lv' := [(2, .long ((sumH fl us (fsU u) k) + (hld fl us (fsU u + k)))), (5, .long (hld fl us (fsU u + k))), (4, .int (nI k)), (0, .ref h0), (1, .ref a)]) hx hb d_D_sumOfHeld_40 rfl hl (by decide) rfl (fun ls hl => ?_)
          refine lv_iinc (v := (nI k) + 1) (lv' := [(4, .int ((nI k) + 1)), (2, .long ((sumH fl us (fsU u) k) + (hld fl us (fsU u + k)))), (5, .long (hld fl us (fsU u + k))), (0, .ref h0), (1, .ref a)]) hx hb d_D_sumOfHeld_41 hl (k := 2) rfl rfl (by decide) rfl (fun ls hl => ?_)
          refine lv_goto (tgt := 5) hx hb d_D_sumOfHeld_44 (by decide) ?_
          rw [nI_1] at hl
          refine ih (k + 1) (by omega) H locs ls h ?_
          have q1 : sumH fl us (fsU u) (k + 1) = sumH fl us (fsU u) k + hld fl us (fsU u + k) := by rw [sumH, if_neg (fun z => c_7 ((lg_cmp_eq _ _).mpr z))]
          rw [q1]
          exact lv_sub hl [0, 1, 3, 4] rfl
  exact loop (lnU u) 0 (by omega) _ _ ls h (lv_sub hl [0, 1, 2, 3] rfl)
set_option maxHeartbeats 4000000 in
set_option maxRecDepth 100000 in
theorem m_D_mismatches {l : Launch} {D : va_G} {cA : Nat → ClassId} {n0 : Nat} {w : mw} {S : Nat → Prop} {h0 hf hc hu hq L ln : Nat} {tn : Int32} {tr : Int64} {fl : Nat → Int64} {us : List uU} {st pw pl : Nat} (K : DC cA w S h0 hf hc hu hq L ln tn tr (fl, us, st, pw, pl)) {a : Nat} {u : uU} (ha : w a = some (ucell u)) (hV : vU u) :
    Mi l D cA n0 y_D_mismatches c_D_mismatches (rmd 2) [.ref h0, .ref a] w (fun r w' => r = misH fl us u (fsU u) (lnU u) ∧ w' = w) := by
  refine mw_met (cc := b_D_mismatches) (maxL := 4) (ret := (some .int)) (by decide) rfl (Nat.le_of_ble_eq_true rfl) ?_
  intro p e s m below meth c ls G hrt hlocks hname h hl
  have G : mw_G p m c b_D_mismatches 4 s _ (c_D_mismatches :: TB) R_D D cl (tys cA) n0 := G
  have hx := G.1.1
  have hb := G.1.2.1
  have hl : lv_has ls 4 [(0, .ref h0), (1, .ref a)] := hl
  obtain ⟨hD, hF, ⟨f, g, hC, hU, hlen, hL, hg, hus, hinj, hSc, hSu⟩, hS0, hSf, hv⟩ := id K
  have hD : w h0 = some (dcell hf hc hq ln tn tr st pw pl) := hD
  have hF : w hf = some (longs cA 24 fl) := hF
  have hC : w hc = some (ccell hu us.length) := hC
  have hlen : us.length ≤ L := hlen
  obtain ⟨hu1, hu2, hl1, hl4, h24, hz⟩ := hV
  refine lv_iconst (v := 0) hx hb d_D_mismatches_0 (by decide) ?_
  refine lv_istore_n (lv' := [(2, .int 0), (0, .ref h0), (1, .ref a)]) hx hb d_D_mismatches_1 rfl hl (by decide) rfl (fun ls hl => ?_)
  refine lv_iconst (v := 0) hx hb d_D_mismatches_2 (by decide) ?_
  refine lv_istore_n (lv' := [(3, .int 0), (2, .int 0), (0, .ref h0), (1, .ref a)]) hx hb d_D_mismatches_3 rfl hl (by decide) rfl (fun ls hl => ?_)
  have loop : ∀ (t k : Nat), k + t = lnU u → ∀ (H : Heap) (locs : List Loc) (ls : Array Slot), mw_H n0 D cl s w H locs → lv_has ls 4 [(3, .int (nI k)), (2, .int (misH fl us u (fsU u) k)), (0, .ref h0), (1, .ref a)] → W p l e (rmd 2) s m ([.ref h0, .ref a] : List Value).toArray below meth c H locs 0 0 (MQ below (mw_Qi n0 D cl (fun r w' => r = misH fl us u (fsU u) (lnU u) ∧ w' = w)) ([.ref h0, .ref a] : List Value).toArray s 0 0 (mw_A n0)) (F0 m 4 ls []) := by
    intro t
    induction t with
    | zero =>
      intro k hk H locs ls h hl
      have hk : k = lnU u := hk
      refine lv_iload_n hx hb d_D_mismatches_4 rfl (lv_at hl 0 rfl) ?_
      refine lv_aload_n hx hb d_D_mismatches_5 rfl (lv_at hl 3 rfl) ?_
      refine mx_get G h ha rfl 1 (by decide) (tb_in in_U) (tb_c k_41) rfl rfl d_D_mismatches_6 ?_
      refine lv_icmp_ge (tgt := 45) hx hb d_D_mismatches_9 (by decide) (fun c_1 => ?_) (fun c_1 => ?_)
      · refine lv_iload_n hx hb d_D_mismatches_45 rfl (lv_at hl 1 rfl) ?_
        exact mx_reti G h hrt hlocks d_D_mismatches_46 (⟨by rw [hk], rfl⟩)
      · exact absurd (by rw [hu2, hk]; exact Int32.le_refl _) c_1
    | succ t ih =>
      intro k hk H locs ls h hl
      have hq1 : u.1 + nI k = nI (fsU u + k) := by rw [hu1]; exact nI_add _ _
      refine lv_iload_n hx hb d_D_mismatches_4 rfl (lv_at hl 0 rfl) ?_
      refine lv_aload_n hx hb d_D_mismatches_5 rfl (lv_at hl 3 rfl) ?_
      refine mx_get G h ha rfl 1 (by decide) (tb_in in_U) (tb_c k_41) rfl rfl d_D_mismatches_6 ?_
      refine lv_icmp_ge (tgt := 45) hx hb d_D_mismatches_9 (by decide) (fun c_2 => ?_) (fun c_2 => ?_)
      · exact absurd c_2 (by rw [hu2, nI_leI (by omega) (by omega)]; omega)
      · refine lv_aload_n hx hb d_D_mismatches_12 rfl (lv_at hl 2 rfl) ?_
        refine lv_aload_n hx hb d_D_mismatches_13 rfl (lv_at hl 3 rfl) ?_
        refine mx_get G h ha rfl 0 (by decide) (tb_in in_U) (tb_c k_38) rfl rfl d_D_mismatches_14 ?_
        refine lv_iload_n hx hb d_D_mismatches_17 rfl (lv_at hl 0 rfl) ?_
        refine lv_iadd hx hb d_D_mismatches_18 ?_
        refine mx_cl (cV (As := [.int (u.1 + (nI k))]) (rest := []) G h (m_D_heldWord K (a := fsU u + k) (by omega) hq1) k_183 k_185 ks_3 k_1 k_186 hd_D_heldWord rfl rfl ⟨Nat.le_of_ble_eq_true rfl, Nat.le_of_ble_eq_true rfl⟩ hD rfl rfl hl.1 rfl (Nat.le_of_ble_eq_true rfl) d_D_mismatches_19 ⟨Nat.le_of_ble_eq_true rfl, Nat.le_of_ble_eq_true rfl⟩) h (fun r_4 w_3 H locs h hcp => ?_)
        obtain ⟨er_5, ew_6⟩ := hcp
        subst er_5
        rw [ew_6] at h
        refine lv_aload_n hx hb d_D_mismatches_22 rfl (lv_at hl 3 rfl) ?_
        refine lv_aload_n hx hb d_D_mismatches_23 rfl (lv_at hl 3 rfl) ?_
        refine mx_get G h ha rfl 0 (by decide) (tb_in in_U) (tb_c k_38) rfl rfl d_D_mismatches_24 ?_
        refine lv_iload_n hx hb d_D_mismatches_27 rfl (lv_at hl 0 rfl) ?_
        refine lv_iadd hx hb d_D_mismatches_28 ?_
        refine mx_cl (cV (As := [.int (u.1 + (nI k))]) (rest := [.long (hld fl us (fsU u + k))]) G h (m_U_wordAt ha (x := u.1 + nI k)) k_191 k_192 k_193 k_4 k_194 hd_U_wordAt rfl rfl ⟨Nat.le_of_ble_eq_true rfl, Nat.le_of_ble_eq_true rfl⟩ ha rfl rfl hl.1 rfl (Nat.le_of_ble_eq_true rfl) d_D_mismatches_29 ⟨Nat.le_of_ble_eq_true rfl, Nat.le_of_ble_eq_true rfl⟩) h (fun r_8 w_7 H locs h hcp => ?_)
        obtain ⟨er_9, ew_10⟩ := hcp
        subst er_9
        rw [ew_10] at h
        have et_11 : wrd u (u.1 + nI k) = wrd u (nI (fsU u + k)) := by rw [hq1]
        rw [et_11]
        refine W.lcmp hx hb d_D_mismatches_32 ?_
        refine lv_if_eq (tgt := 39) hx hb d_D_mismatches_33 (by decide) (fun c_12 => ?_) (fun c_12 => ?_)
        · refine lv_iinc (v := (nI k) + 1) (lv' := [(3, .int ((nI k) + 1)), (2, .int (misH fl us u (fsU u) k)), (0, .ref h0), (1, .ref a)]) hx hb d_D_mismatches_39 hl (k := 0) rfl rfl (by decide) rfl (fun ls hl => ?_)
          refine lv_goto (tgt := 4) hx hb d_D_mismatches_42 (by decide) ?_
          rw [nI_1] at hl
          refine ih (k + 1) (by omega) H locs ls h ?_
          have q1 : misH fl us u (fsU u) (k + 1) = misH fl us u (fsU u) k := by rw [misH, if_pos ((lg_cmp_eq _ _).mp c_12)]
          rw [q1]
          exact lv_sub hl [0, 1, 2, 3] rfl
        · refine lv_iinc (v := (misH fl us u (fsU u) k) + 1) (lv' := [(2, .int ((misH fl us u (fsU u) k) + 1)), (3, .int (nI k)), (0, .ref h0), (1, .ref a)]) hx hb d_D_mismatches_36 hl (k := 1) rfl rfl (by decide) rfl (fun ls hl => ?_)
          refine lv_iinc (v := (nI k) + 1) (lv' := [(3, .int ((nI k) + 1)), (2, .int ((misH fl us u (fsU u) k) + 1)), (0, .ref h0), (1, .ref a)]) hx hb d_D_mismatches_39 hl (k := 1) rfl rfl (by decide) rfl (fun ls hl => ?_)
          refine lv_goto (tgt := 4) hx hb d_D_mismatches_42 (by decide) ?_
          rw [nI_1] at hl
          refine ih (k + 1) (by omega) H locs ls h ?_
          have q1 : misH fl us u (fsU u) (k + 1) = misH fl us u (fsU u) k + 1 := by rw [misH, if_neg (fun z => c_12 ((lg_cmp_eq _ _).mpr z))]
          rw [q1]
          exact lv_sub hl [0, 1, 2, 3] rfl
  exact loop (lnU u) 0 (by omega) _ _ ls h (lv_sub hl [0, 1, 2, 3] rfl)
