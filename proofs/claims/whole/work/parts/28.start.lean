set_option maxHeartbeats 4000000 in
set_option maxRecDepth 100000 in
theorem whole_start {p : Program} {e : Env} {s : State} {m : MethodId} {below : List Frame} {meth : Method} {c : Code} (l : Launch) {b L : Nat} {xs : Nat → Int32} (hL : L ≤ 3073) (C0 : lw_At p s m meth c b L xs) : W p l e room_1 s m #[Value.ref b] below meth c s.heap [] 0 0 (lw_Z below #[Value.ref b] s) (entryFrame m ([Value.ref b] : List Value).toArray 4) := by
  obtain ⟨hx, hb, hr, hml, hown, hts, hX, hbl, hlocks, hgv⟩ := id C0
  have hbA : ¬ mw_A s.heap.size b := Nat.not_le.mpr hbl
  have hL31 : L < 2 ^ 31 := by omega
  have htb : ∀ w ∈ cx0 :: TB, w.before #[Value.ref b] s = true := fun w hw => (List.mem_cons.mp hw).elim (fun z9 => by rw [z9]; exact hts _ (tb_lw k_0)) (fun z9 => hts w (tb_lw z9))
  obtain ⟨cc0, is0, hKn0⟩ := u_known (C := R_D) (T := F_D) (N := 9) (n := 9) htb (tb_in in_D) (htb _ (tb_c k_9))
  obtain ⟨cc1, is1, hKn1⟩ := u_known (C := R_C) (T := F_C) (N := 2) (n := 2) htb (tb_in in_C) (htb _ (tb_c k_18))
  obtain ⟨cc2, is2, hKn2⟩ := u_known (C := R_K) (T := F_K) (N := 3) (n := 3) htb (tb_in in_K) (htb _ (tb_c k_75))
  obtain ⟨cc3, is3, hKn3⟩ := u_known (C := R_Q) (T := F_Q) (N := 5) (n := 5) htb (tb_in in_Q) (htb _ (tb_c k_68))
  obtain ⟨cc4, is4, hKn4⟩ := u_known (C := R_U) (T := F_U) (N := 4) (n := 4) htb (tb_in in_U) (htb _ (tb_c k_31))
  obtain ⟨cc5, is5, hKn5⟩ := u_known (C := R_M) (T := F_M) (N := 23) (n := 23) htb (tb_in in_M) (htb _ (tb_c k_306))
  obtain ⟨D, hKc⟩ : ∃ D : va_G, ∀ (k9 : Nat) (q9 : vw_C), cl[k9]? = some q9 → u_Kn s q9.1 q9.2.1 q9.2.2 (D.1 k9) (D.2 k9) := by
    refine ⟨(fun k9 => if k9 = 0 then cc0 else if k9 = 1 then cc1 else if k9 = 2 then cc2 else if k9 = 3 then cc3 else if k9 = 4 then cc4 else cc5, fun k9 => if k9 = 0 then is0 else if k9 = 1 then is1 else if k9 = 2 then is2 else if k9 = 3 then is3 else if k9 = 4 then is4 else is5), ?_⟩
    intro k9 q9 hq9
    match k9, hq9 with
    | 0, hq9 => cases hq9; exact hKn0
    | 1, hq9 => cases hq9; exact hKn1
    | 2, hq9 => cases hq9; exact hKn2
    | 3, hq9 => cases hq9; exact hKn3
    | 4, hq9 => cases hq9; exact hKn4
    | 5, hq9 => cases hq9; exact hKn5
    | k9 + 6, hq9 => simp [cl] at hq9
  obtain ⟨ca0, ka0, co0, fa0, fb0, fc0⟩ := Cond.arrayClass_spec (htb _ (tb_c k_116))
  obtain ⟨ca1, ka1, co1, fa1, fb1, fc1⟩ := Cond.arrayClass_spec (htb _ (tb_c k_56))
  obtain ⟨ca2, ka2, co2, fa2, fb2, fc2⟩ := Cond.arrayClass_spec (htb _ (tb_c k_382))
  obtain ⟨co3, ca3, ka3, fd3, -, fb3, fc3, fa3⟩ := Cond.arrayOver_spec (hts _ k_30)
  obtain ⟨co4, ca4, ka4, fd4, -, fb4, fc4, fa4⟩ := Cond.arrayOver_spec (hts _ k_74)
  obtain ⟨co5, ca5, ka5, fd5, -, fb5, fc5, fa5⟩ := Cond.arrayOver_spec (hts _ k_67)
  obtain ⟨cA, hcA⟩ : ∃ cA : Nat → ClassId, cA = fun k9 => if k9 = 0 then ca0 else if k9 = 1 then ca1 else if k9 = 2 then ca2 else if k9 = 3 then ca3 else if k9 = 4 then ca4 else ca5 := ⟨_, rfl⟩
  have eA0 : cA 0 = ca0 := by rw [hcA]; rfl
  have eA1 : cA 1 = ca1 := by rw [hcA]; rfl
  have eA2 : cA 2 = ca2 := by rw [hcA]; rfl
  have eA3 : cA 3 = ca3 := by rw [hcA]; rfl
  have eA4 : cA 4 = ca4 := by rw [hcA]; rfl
  have eA5 : cA 5 = ca5 := by rw [hcA]; rfl
  have hKt : ∀ (k9 : Nat) (q9 : ClassId × FieldType), (tys cA)[k9]? = some q9 → ArrOfT s q9.1 q9.2 ∧ va_RA s q9.1 q9.2 := by
    intro k9 q9 hq9
    match k9, hq9 with
    | 0, hq9 => cases hq9; rw [eA0]; exact ⟨fun n9 z9 => ⟨fun k8 h8 => (by cases h8), ka0, fb0, co0, fc0⟩, fa0⟩
    | 1, hq9 => cases hq9; rw [eA1]; exact ⟨fun n9 z9 => ⟨fun k8 h8 => (by cases h8), ka1, fb1, co1, fc1⟩, fa1⟩
    | 2, hq9 => cases hq9; rw [eA2]; exact ⟨fun n9 z9 => ⟨fun k8 h8 => (by cases h8), ka2, fb2, co2, fc2⟩, fa2⟩
    | 3, hq9 => cases hq9; rw [eA3]; exact ⟨fun n9 z9 => ⟨fun k8 h8 => (by cases h8), ka3, fb3, co3, fc3⟩, ka3, co3, fb3, fc3, fd3, fa3⟩
    | 4, hq9 => cases hq9; rw [eA4]; exact ⟨fun n9 z9 => ⟨fun k8 h8 => (by cases h8), ka4, fb4, co4, fc4⟩, ka4, co4, fb4, fc4, fd4, fa4⟩
    | 5, hq9 => cases hq9; rw [eA5]; exact ⟨fun n9 z9 => ⟨fun k8 h8 => (by cases h8), ka5, fb5, co5, fc5⟩, ka5, co5, fb5, fc5, fd5, fa5⟩
    | k9 + 6, hq9 => simp [tys] at hq9
  have hXX : mw_X s := by
    refine ⟨fun C9 hC9 => ?_, fun q9 hq9 => ?_⟩
    · simp only [aoL, List.mem_cons, List.not_mem_nil, or_false] at hC9
      rcases hC9 with rfl | rfl | rfl
      · exact va_AO.of (hts _ k_30)
      · exact va_AO.of (hts _ k_67)
      · exact va_AO.of (hts _ k_74)
    · simp only [nsL, List.mem_cons, List.not_mem_nil, or_false] at hq9
      rcases hq9 with rfl | rfl | rfl
      · exact va_Nw.of rfl (hts _ k_32)
      · exact va_Nw.of rfl (hts _ k_76)
      · exact va_Nw.of rfl (hts _ k_81)
  have G : mw_G p m c code 4 s #[Value.ref b] (cx0 :: TB) R_L D cl (tys cA) s.heap.size := ⟨⟨hx, hb, hml, hown, htb⟩, ⟨⟨hKc, hKt⟩, hXX⟩, Nat.le_refl _⟩
  obtain ⟨w, hw0⟩ : ∃ w : mw, w = fun _ => none := ⟨_, rfl⟩
  have h : mw_H s.heap.size D cl s w s.heap [] := ⟨fun a9 e9 h9 => absurd h9 (by rw [hw0]; simp), va_S.rf⟩
  have hl := lv_entry ([.ref b]) (n := 4) (Nat.le_of_ble_eq_true rfl)
  rw [lg_entry_eq]
  generalize (lg_sl ([.ref b]) ++ List.replicate (4 - (lg_sl ([.ref b])).length) Slot.unset).toArray = ls at hl ⊢
  have hl : lv_has ls 4 [(0, .ref b)] := hl
  refine mx_new (ci := 0) (fs := [.null, .null, .null, .int 0, .int 0, .long 0, .int 0, .int 0, .int 0]) G h rfl (tb_in in_D) t_D t_D_ok (tb_c k_8) (tb_c k_9) (tb_c k_1) (fun j9 hj9 => by rcases (show j9 = 0 ∨ j9 = 1 ∨ j9 = 2 ∨ j9 = 3 ∨ j9 = 4 ∨ j9 = 5 ∨ j9 = 6 ∨ j9 = 7 ∨ j9 = 8 by omega) with rfl | rfl | rfl | rfl | rfl | rfl | rfl | rfl | rfl <;> rfl) (Nat.le_of_ble_eq_true rfl) (Nat.le_of_ble_eq_true rfl) d_L_law_0 (fun hd H hdf h => ?_)
  have h : mw_H s.heap.size D cl s (mw_up w hd (.inr (0, [.null, .null, .null, .int 0, .int 0, .long 0, .int 0, .int 0, .int 0]))) H _ := h
  obtain ⟨w_1, ew_1⟩ : ∃ xx : mw, mw_up w hd (.inr (0, [.null, .null, .null, .int 0, .int 0, .long 0, .int 0, .int 0, .int 0])) = xx := ⟨_, rfl⟩
  rw [ew_1] at h
  have f_2 : w_1 hd = some (.inr (0, [.null, .null, .null, .int 0, .int 0, .long 0, .int 0, .int 0, .int 0])) := by rw [← ew_1]; exact mw_self
  refine lv_dup hx hb d_L_law_3 rfl ?_
  refine lv_aload_n hx hb d_L_law_4 rfl (lv_at hl 0 rfl) ?_
  refine lv_iconst (v := 0) hx hb d_L_law_5 (by decide) ?_
  refine vp_callSi (W.runS (As := [.ref b, .int 0]) (rest := [.ref hd, .ref hd]) G.1 (m_L_cell (b := b) (L := L) (xs := xs) hL31) (cwS 2 htb (tb_gS k_302 k_303 k_0 k_304) rfl rfl rfl ⟨rfl, hd_L_cell⟩ ⟨Nat.le_of_ble_eq_true rfl, Nat.le_of_ble_eq_true rfl⟩) ⟨cP_blind, fun U hU hW => ⟨rfl, by rw [hU]; exact va_X.moved hW.alike (hX.kept (h.2.2.1 b hbl hbA)), by rw [hU]; exact Nat.lt_of_lt_of_le hbl h.2.1⟩⟩ rfl rfl hl.1 rfl (lv_room (Nat.le_of_ble_eq_true rfl)) d_L_law_6 ⟨Nat.le_of_ble_eq_true rfl, Nat.le_of_ble_eq_true rfl⟩) (fun r9 hr9 => ?_)
  rw [hr9]
  refine mx_cv (cI (As := [.int (cel L xs)]) (rest := [.ref hd]) G h (m_D_init (x := cel L xs) f_2) k_10 k_11 k_1 k_12 rfl hd_D_init rfl rfl ⟨Nat.le_of_ble_eq_true rfl, Nat.le_of_ble_eq_true rfl⟩ rfl hl.1 rfl (Nat.le_of_ble_eq_true rfl) d_L_law_9 ⟨Nat.le_of_ble_eq_true rfl, Nat.le_of_ble_eq_true rfl⟩) h (fun w_3 H locs h hcp => ?_)
  obtain ⟨ρ, k, hk0, Y0, -, -, hlv⟩ := hcp
  refine lv_astore_n (lv' := [(1, .ref hd), (0, .ref b)]) hx hb d_L_law_12 rfl hl (by decide) rfl (fun ls hl => ?_)
  refine mx_new (ci := 5) (fs := [.int 0, .null, .null, .null, .null, .null, .null, .int 0, .int 0, .int 0, .int 0, .null, .null, .null, .null, .null, .int 0, .null, .null, .null, .int 0, .int 0, .long 0]) G h rfl (tb_in in_M) t_M t_M_ok (tb_c k_305) (tb_c k_306) (tb_c k_7) (fun j9 hj9 => by rcases (show j9 = 0 ∨ j9 = 1 ∨ j9 = 2 ∨ j9 = 3 ∨ j9 = 4 ∨ j9 = 5 ∨ j9 = 6 ∨ j9 = 7 ∨ j9 = 8 ∨ j9 = 9 ∨ j9 = 10 ∨ j9 = 11 ∨ j9 = 12 ∨ j9 = 13 ∨ j9 = 14 ∨ j9 = 15 ∨ j9 = 16 ∨ j9 = 17 ∨ j9 = 18 ∨ j9 = 19 ∨ j9 = 20 ∨ j9 = 21 ∨ j9 = 22 by omega) with rfl | rfl | rfl | rfl | rfl | rfl | rfl | rfl | rfl | rfl | rfl | rfl | rfl | rfl | rfl | rfl | rfl | rfl | rfl | rfl | rfl | rfl | rfl <;> rfl) (Nat.le_of_ble_eq_true rfl) (Nat.le_of_ble_eq_true rfl) d_L_law_13 (fun hm H hmf h => ?_)
  have h : mw_H s.heap.size D cl s (mw_up w_3 hm (.inr (5, [.int 0, .null, .null, .null, .null, .null, .null, .int 0, .int 0, .int 0, .int 0, .null, .null, .null, .null, .null, .int 0, .null, .null, .null, .int 0, .int 0, .long 0]))) H _ := h
  obtain ⟨w_4, ew_4⟩ : ∃ xx : mw, mw_up w_3 hm (.inr (5, [.int 0, .null, .null, .null, .null, .null, .null, .int 0, .int 0, .int 0, .int 0, .null, .null, .null, .null, .null, .int 0, .null, .null, .null, .int 0, .int 0, .long 0])) = xx := ⟨_, rfl⟩
  rw [ew_4] at h
  have f_5 : w_4 hm = some (.inr (5, [.int 0, .null, .null, .null, .null, .null, .null, .int 0, .int 0, .int 0, .int 0, .null, .null, .null, .null, .null, .int 0, .null, .null, .null, .int 0, .int 0, .long 0])) := by rw [← ew_4]; exact mw_self
  refine lv_dup hx hb d_L_law_16 rfl ?_
  refine lv_aload_n hx hb d_L_law_17 rfl (lv_at hl 1 rfl) ?_
  refine lv_iconst (v := 0) hx hb d_L_law_18 (by decide) ?_
  refine vp_callSi (W.runS (As := [.ref b, .int 0]) (rest := [.ref hm, .ref hm]) G.1 (m_L_cell (b := b) (L := L) (xs := xs) hL31) (cwS 2 htb (tb_gS k_302 k_303 k_0 k_304) rfl rfl rfl ⟨rfl, hd_L_cell⟩ ⟨Nat.le_of_ble_eq_true rfl, Nat.le_of_ble_eq_true rfl⟩) ⟨cP_blind, fun U hU hW => ⟨rfl, by rw [hU]; exact va_X.moved hW.alike (hX.kept (h.2.2.1 b hbl hbA)), by rw [hU]; exact Nat.lt_of_lt_of_le hbl h.2.1⟩⟩ rfl rfl hl.1 rfl (lv_room (Nat.le_of_ble_eq_true rfl)) d_L_law_19 ⟨Nat.le_of_ble_eq_true rfl, Nat.le_of_ble_eq_true rfl⟩) (fun r9 hr9 => ?_)
  rw [hr9]
  refine mx_cv (cI (As := [.int (cel L xs)]) (rest := [.ref hm]) G h (m_M_init (x := cel L xs) f_5) k_307 k_308 k_7 k_309 rfl hd_M_init rfl rfl ⟨Nat.le_of_ble_eq_true rfl, Nat.le_of_ble_eq_true rfl⟩ rfl hl.1 rfl (Nat.le_of_ble_eq_true rfl) d_L_law_22 ⟨Nat.le_of_ble_eq_true rfl, Nat.le_of_ble_eq_true rfl⟩) h (fun w_6 H locs h hcp => ?_)
  obtain ⟨q, hq0, X0, hfr, hfre⟩ := hcp
  have hdis : ∀ y, RG ρ y → ¬ ∃ i, i ∈ ixQ9 ∧ y = q i := fun y hy hz => by
    have hnm : y ≠ hm := fun z9 => hlv y hy (by rw [z9]; exact hmf)
    rcases hfre y hz with z | z
    · exact hnm z
    · rw [← ew_4, mw_ne hnm] at z; exact hlv y hy z
  have Y1 : DR cA w_6 ρ k (Lc (cel L xs)) g0S := Y0.frame (fun y hy => by rw [hfr y (hdis y hy), ← ew_4, mw_ne (fun z9 => hlv y hy (by rw [z9]; exact hmf))])
  have hin : ∀ y, y ∈ ixQ9.map q → ∃ i, i ∈ ixQ9 ∧ y = q i := fun y hy => by obtain ⟨i, hi, z9⟩ := List.mem_map.mp hy; exact ⟨i, hi, z9.symm⟩
  have Y2 : DR cA w_6 (fun y => if y ∈ ixQ9.map q then 7 else ρ y) k (Lc (cel L xs)) g0S := Y1.re (fun y hy => if_neg (fun z9 => hdis y hy (hin y z9)))
  have M2 : MR cA w_6 (fun y => if y ∈ ixQ9.map q then 7 else ρ y) q (Lc (cel L xs)) 0 g0S := MR.init (X0.re (fun i hi => if_pos (List.mem_map.mpr ⟨i, hi, rfl⟩)))
  refine lv_astore_n (lv' := [(2, .ref hm), (1, .ref hd), (0, .ref b)]) hx hb d_L_law_25 rfl hl (by decide) rfl (fun ls hl => ?_)
  refine lv_iconst (v := 1) hx hb d_L_law_26 (by decide) ?_
  refine lv_istore_n (lv' := [(3, .int 1), (2, .ref hm), (1, .ref hd), (0, .ref b)]) hx hb d_L_law_27 rfl hl (by decide) rfl (fun ls hl => ?_)
  rw [← hk0, ← hq0] at hl
  refine W.widen (k := 62) (n := 7506) (Nat.le_of_ble_eq_true rfl) (Nat.le_of_ble_eq_true rfl) ?_
  exact law_loop hL C0 G 512 0 rfl g0S w_6 Y2 M2 H locs ls h (lv_sub hl [0, 3, 2, 1] rfl)
set_option maxHeartbeats 4000000 in
theorem lw_walk (l : Launch) (b : Addr) (xs : List Int32) : MetFree l x (headSpec (Jvm.Cond.code x code maxLocals ret :: tables_1) room_1) (lw_P b xs) (fun _ _ _ _ _ => True) lw_Q := by
  refine MetFree.of_bodyS (code := code) (maxLocals := maxLocals) (ret := ret) (by decide) ?_ ?_
  · intro args s m h hn
    obtain ⟨meth, c, h1, h2, h3, h4, h5, h6, -, -⟩ := Cond.code_spec hn (atoms_spec (ws := Jvm.Cond.code x code maxLocals ret :: tables_1) h _ List.mem_cons_self)
    exact ⟨meth, c, h1, h2, h3, h4, h5, h6⟩
  · intro p e s m args below meth c s₁ B hml0 hP _
    obtain ⟨rfl, hx, hbd, hgv⟩ := hP
    obtain ⟨scr, harrAt, hlist, hof, hsmall⟩ := hx
    obtain ⟨hcb, hkn, -, -⟩ := State.arrayAt?_spec harrAt
    have hown : s.vm.findClass R_law = some m.cls := findClass_of_methodNamed B.named
    have hts0 : ∀ c ∈ (Jvm.Cond.code x code maxLocals ret :: tables_1), c.before #[Value.ref b] s = true := atoms_spec (ws := Jvm.Cond.code x code maxLocals ret :: tables_1) B.pre
    have hts : ∀ w ∈ lw_tbl, w.before #[Value.ref b] s = true := k2_hts_sels lw_privs (fun w hw => hts0 w (List.mem_cons_of_mem _ hw)) lw_privs_ok
    have hml : c.maxLocals = 4 := B.maxLocals_eq (hts0 _ List.mem_cons_self)
    have X₀ : Stand p l e room_1 s m #[Value.ref b] below meth c s₁ [] 0 0 := Stand.of_body B
    have hh0 : s₁.heap = s.heap := by rw [B.state]; rfl
    have hsz : scr.slots.size = xs.length := by rw [← Array.length_toList, hlist, List.length_map]
    have hval : ∀ j : Nat, j < xs.length → scr.slots[j]? = some (.int (xs.getD j 0)) := fun j hj => by
      rw [← Array.getElem?_toList, hlist]
      simp [hj]
    have hbl : b < s.heap.size := (Array.getElem?_eq_some_iff.mp hcb).1
    have hX : va_X b xs.length (fun j => xs.getD j 0) s s.heap := ⟨scr, hcb, hof, hkn, hsz, hval⟩
    have K : W p l e room_1 s m #[Value.ref b] below meth c s₁.heap [] 0 0 (lw_Z below #[Value.ref b] s) (entryFrame m ([Value.ref b] : List Value).toArray 4) := by
      rw [hh0]
      exact whole_start l hbd ⟨B.exec, B.bytes, B.returns, hml, hown, hts, hX, hbl, B.notSynchronized, hgv⟩
    obtain ⟨t, a1, o, b1, b2, b3⟩ := K s₁ rfl X₀
    exact ⟨t, o, a1, b1, b2, b3⟩
theorem lw_pre_spec {args : Array Value} {s : State} (h : (Jvm.Cond.and given_1 narrow_1).before args s = true) (hr : rest_1_c.before args s = true) : ∃ (b : Addr) (xs : List Int32), lw_P b xs args s := by
  have hs := flat_of_before _ h
  have hq := flat_of_before _ hr
  have hc : (Cond.count 1).before args s = true := hs _ (by decide +kernel)
  have harr : (Cond.arrayOf (.arg 0) .int).before args s = true := hs _ (by decide +kernel)
  have hle : (Cond.le (.length (.arg 0)) (.int 3073)).before args s = true := hs _ (by decide +kernel)
  have hlen : (Cond.isInt (.length (.arg 0))).before args s = true := hq _ (by decide +kernel)
  have hall : (Cond.all (.arg 0) (.isInt (.elem (.arg 0) (.index 0)))).before args s = true := hq _ (by decide +kernel)
  obtain ⟨b, xs, hb, hx⟩ := State.ints_of_pre rfl harr hlen hall
  have hsm : xs.length < 2 ^ 31 := hx.choose_spec.2.2.2
  have hev : (Term.length (.arg 0)).eval args s none [] s = some (.int xs.length.toInt32) := hx.length_eval hb
  have hv := Cond.le_ints hev (show (Term.int 3073).eval args s none [] s = some (.int 3073) from rfl)
  have hd : xs.length.toInt32 ≤ 3073 := by
    simpa [Cond.before, Cond.holds, hv] using hle
  have hN : xs.length ≤ 3073 := (Int32.ofNat_le_ofNat hsm (by decide)).mp (show Int32.ofNat xs.length ≤ Int32.ofNat 3073 from hd)
  exact ⟨b, xs, Cond.one_arg hc (show args[0]? = some (.ref b) from hb), hx, hN, h⟩
theorem lw_comes (l : Launch) : Comes l x (Jvm.Cond.code x code maxLocals ret :: tables_1) room_1 (fun tb e args s => Calls_1 tb e args s ∧ rest_1 tb e args s ∧ Pre_1 tb e args s)
    (fun _ _ args s o t => lw_Q args s o t) := by
  intro p e ha hc hk s m args below hf hfit hheap happ hpre
  obtain ⟨b, xs, hP⟩ := lw_pre_spec hpre.2.2 hpre.2.1
  obtain ⟨k, o, h1, h2, h3, hQ⟩ := lw_walk l b xs p e ha hc hk s m args below hf ((Spec.applies_iff_loose hf).mp happ).1 hP trivial
  exact ⟨k, o, h1, h2, h3, hQ⟩
theorem lw_frame {s t : State} {o : Outcome} {args : Array Value} (h : Framed s o t [] 600000 7302250) :
    Framed s o t (fieldLocs frame_1_writes args s ++ arrayLocs frame_1_arrays args s ++ staticLocs frame_1_statics s) 600000 7302250 := h
theorem lw_limb (L : Cond) (hL : ∀ (args : Array Value) (s t : State), L.after args s (.returned (some (.int 1))) t = true) :
    ArmFor flags0 classFile x code maxLocals ret World_1 tables_1 room_1 Calls_1 rest_1 Pre_1
      (fun tb e a s o t => postC L tb e a s o t ∧ Framed s o t (fieldLocs frame_1_writes a s ++ arrayLocs frame_1_arrays a s ++ staticLocs frame_1_statics s) 600000 7302250) := by
  intro l _ _ _ p e ha hc hk s m args below hf hfit hheap happ hpre
  obtain ⟨k, o, h1, h2, h3, rfl, hF⟩ := lw_comes l p e ha hc hk s m args below hf hfit hheap happ hpre
  exact ⟨k, _, h1, h2, h3, hL args s _, lw_frame hF⟩
theorem i_vc : Claimed_1_1 ∧ Claimed_1_2 := ⟨lw_limb limb_1_1 (fun args s t => by simp [limb_1_1, Cond.after, Cond.holds, Cond.value]), lw_limb limb_1_2 (fun args s t => Cond.after_iff.mpr (by
  first | (rw [show limb_1_2 = Cond.eq .result (.int 1) from rfl, Cond.eq_ints (x := 1) (y := 1) rfl rfl]; simp; done) | (simp [limb_1_2, Cond.value, Term.eval]; done)))⟩

