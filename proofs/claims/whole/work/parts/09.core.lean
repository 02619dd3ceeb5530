/-! The drive's core: flash, cache, counters. kS = (flash words, units in the cache, units stored, pages written, pages left) -/
abbrev kS : Type := (Nat → Int64) × List uU × Nat × Nat × Nat
def lnU (u : uU) : Nat := u.2.1.toNatClampNeg
def fsU (u : uU) : Nat := u.1.toNatClampNeg
/-- a unit as the document has it -/
def vU (u : uU) : Prop := u.1 = nI (fsU u) ∧ u.2.1 = nI (lnU u) ∧ 1 ≤ lnU u ∧ lnU u ≤ 4 ∧ fsU u + lnU u ≤ 24 ∧ (u.2.2.2 = 0 ∨ u.2.2.2 = 1)
def apU (u : uU) (k : Nat) (fl : Nat → Int64) : Nat → Int64 := fun j => if fsU u ≤ j ∧ j < fsU u + k then wrd u (nI j) else fl j
theorem apU_0 (u : uU) (fl : Nat → Int64) : apU u 0 fl = fl := by
  funext j
  simp only [apU]
  rw [if_neg (by omega)]
theorem apU_s (u : uU) (k : Nat) (fl : Nat → Int64) : vp_updL (apU u k fl) (fsU u + k) (wrd u (nI (fsU u + k))) = apU u (k + 1) fl := by
  funext j
  simp only [vp_updL, apU]
  by_cases h1 : j = fsU u + k
  · subst h1; rw [if_pos rfl, if_pos (by omega)]
  · rw [if_neg h1]
    by_cases h2 : fsU u ≤ j ∧ j < fsU u + k
    · rw [if_pos h2, if_pos (by omega)]
    · rw [if_neg h2, if_neg (by omega)]
/-- what an address holds: the flash, with the units applied in order -/
def hld (fl : Nat → Int64) (us : List uU) (a : Nat) : Int64 := us.foldl (fun x u => if cov u (nI a) then wrd u (nI a) else x) (fl a)
theorem hld_snoc {fl : Nat → Int64} {us : List uU} {u : uU} {a : Nat} : hld fl (us ++ [u]) a = if cov u (nI a) then wrd u (nI a) else hld fl us a := by simp [hld, List.foldl_append]
theorem hld_take {fl : Nat → Int64} {us : List uU} {u : uU} {a k : Nat} (h : us[k]? = some u) : hld fl (us.take (k + 1)) a = if cov u (nI a) then wrd u (nI a) else hld fl (us.take k) a := by
  rw [List.take_succ, h]
  exact hld_snoc
abbrev dcell (hf hc hq ln : Nat) (tn : Int32) (tr : Int64) (st pw pl : Nat) : va_E := .inr (0, [.ref hf, .ref hc, .ref hq, .int (nI ln), .int tn, .long tr, .int (nI st), .int (nI pw), .int (nI pl)])
/-- the cache: its cells are S's -/
def CA (cA : Nat → ClassId) (w : mw) (S : Nat → Prop) (hc hu L : Nat) (us : List uU) : Prop :=
  ∃ (f : Nat → Option Nat) (g : Nat → Nat), w hc = some (ccell hu us.length) ∧ w hu = some (refs cA 3 L f) ∧ us.length ≤ L ∧ L ≤ 6 ∧ (∀ i, i < L → f i = some (g i) ∧ S (g i) ∧ ∃ u, w (g i) = some (ucell u)) ∧ (∀ i u, us[i]? = some u → w (g i) = some (ucell u)) ∧ (∀ i j, i < L → j < L → g i = g j → i = j) ∧ S hc ∧ S hu
def DC (cA : Nat → ClassId) (w : mw) (S : Nat → Prop) (h0 hf hc hu hq L ln : Nat) (tn : Int32) (tr : Int64) (κ : kS) : Prop :=
  w h0 = some (dcell hf hc hq ln tn tr κ.2.2.1 κ.2.2.2.1 κ.2.2.2.2) ∧ w hf = some (longs cA 24 κ.1) ∧ CA cA w S hc hu L κ.2.1 ∧ ¬ S h0 ∧ ¬ S hf ∧ ∀ u ∈ κ.2.1, vU u
/-- outside P nothing has changed -/
def FR (w w' : mw) (P : Nat → Prop) : Prop := ∀ x, ¬ P x → w' x = w x
theorem FR.rf {w : mw} {P : Nat → Prop} : FR w w P := fun _ _ => rfl
theorem FR.tr {w w1 w2 : mw} {P : Nat → Prop} (h1 : FR w w1 P) (h2 : FR w1 w2 P) : FR w w2 P := fun x hx => (h2 x hx).trans (h1 x hx)
theorem FR.mono {w w1 : mw} {P Q : Nat → Prop} (h1 : FR w w1 P) (h2 : ∀ x, P x → Q x) : FR w w1 Q := fun x hx => h1 x (fun z => hx (h2 x z))
theorem FR.up {w : mw} {P : Nat → Prop} {a : Nat} {e : va_E} (h : P a) : FR w (mw_up w a e) P := fun x hx => mw_ne (fun z => hx (by rw [z]; exact h))
theorem nI_m1 (x : Int32) : x + (-1) = x - 1 := by rw [Int32.sub_eq_add_neg]
theorem getQ {α : Type} {l : List α} {k : Nat} (h : k < l.length) : ∃ u, l[k]? = some u := ⟨l[k], List.getElem?_eq_getElem h⟩
theorem d_D_heldWord_0 : decode b_D_heldWord 0 = .ok (.aload_n 0, 1) := by decide +kernel
theorem d_D_heldWord_1 : decode b_D_heldWord 1 = .ok (.getfield 29, 3) := by decide +kernel
theorem d_D_heldWord_4 : decode b_D_heldWord 4 = .ok (.getfield 132, 3) := by decide +kernel
theorem d_D_heldWord_7 : decode b_D_heldWord 7 = .ok (.iconst 1, 1) := by decide +kernel
theorem d_D_heldWord_8 : decode b_D_heldWord 8 = .ok (.isub, 1) := by decide +kernel
theorem d_D_heldWord_9 : decode b_D_heldWord 9 = .ok (.istore_n 2, 1) := by decide +kernel
theorem d_D_heldWord_10 : decode b_D_heldWord 10 = .ok (.iload_n 2, 1) := by decide +kernel
theorem d_D_heldWord_11 : decode b_D_heldWord 11 = .ok (.ifCond .lt 39, 3) := by decide +kernel
theorem d_D_heldWord_14 : decode b_D_heldWord 14 = .ok (.aload_n 0, 1) := by decide +kernel
theorem d_D_heldWord_15 : decode b_D_heldWord 15 = .ok (.getfield 29, 3) := by decide +kernel
theorem d_D_heldWord_18 : decode b_D_heldWord 18 = .ok (.getfield 135, 3) := by decide +kernel
theorem d_D_heldWord_21 : decode b_D_heldWord 21 = .ok (.iload_n 2, 1) := by decide +kernel
theorem d_D_heldWord_22 : decode b_D_heldWord 22 = .ok (.aaload, 1) := by decide +kernel
theorem d_D_heldWord_23 : decode b_D_heldWord 23 = .ok (.iload_n 1, 1) := by decide +kernel
theorem d_D_heldWord_24 : decode b_D_heldWord 24 = .ok (.invokevirtual 199, 3) := by decide +kernel
theorem d_D_heldWord_27 : decode b_D_heldWord 27 = .ok (.ifCond .eq 17, 3) := by decide +kernel
theorem d_D_heldWord_30 : decode b_D_heldWord 30 = .ok (.aload_n 0, 1) := by decide +kernel
theorem d_D_heldWord_31 : decode b_D_heldWord 31 = .ok (.getfield 29, 3) := by decide +kernel
theorem d_D_heldWord_34 : decode b_D_heldWord 34 = .ok (.getfield 135, 3) := by decide +kernel
theorem d_D_heldWord_37 : decode b_D_heldWord 37 = .ok (.iload_n 2, 1) := by decide +kernel
theorem d_D_heldWord_38 : decode b_D_heldWord 38 = .ok (.aaload, 1) := by decide +kernel
theorem d_D_heldWord_39 : decode b_D_heldWord 39 = .ok (.iload_n 1, 1) := by decide +kernel
theorem d_D_heldWord_40 : decode b_D_heldWord 40 = .ok (.invokevirtual 176, 3) := by decide +kernel
theorem d_D_heldWord_43 : decode b_D_heldWord 43 = .ok (.lreturn, 1) := by decide +kernel
theorem d_D_heldWord_44 : decode b_D_heldWord 44 = .ok (.iinc 2 (-1), 3) := by decide +kernel
theorem d_D_heldWord_47 : decode b_D_heldWord 47 = .ok (.goto (-37), 3) := by decide +kernel
theorem d_D_heldWord_50 : decode b_D_heldWord 50 = .ok (.aload_n 0, 1) := by decide +kernel
theorem d_D_heldWord_51 : decode b_D_heldWord 51 = .ok (.getfield 9, 3) := by decide +kernel
theorem d_D_heldWord_54 : decode b_D_heldWord 54 = .ok (.iload_n 1, 1) := by decide +kernel
theorem d_D_heldWord_55 : decode b_D_heldWord 55 = .ok (.laload, 1) := by decide +kernel
theorem d_D_heldWord_56 : decode b_D_heldWord 56 = .ok (.lreturn, 1) := by decide +kernel
theorem d_D_store_0 : decode b_D_store 0 = .ok (.iconst 0, 1) := by decide +kernel
theorem d_D_store_1 : decode b_D_store 1 = .ok (.istore_n 2, 1) := by decide +kernel
theorem d_D_store_2 : decode b_D_store 2 = .ok (.iload_n 2, 1) := by decide +kernel
theorem d_D_store_3 : decode b_D_store 3 = .ok (.aload_n 1, 1) := by decide +kernel
theorem d_D_store_4 : decode b_D_store 4 = .ok (.getfield 142, 3) := by decide +kernel
theorem d_D_store_7 : decode b_D_store 7 = .ok (.if_icmp .ge 38, 3) := by decide +kernel
theorem d_D_store_10 : decode b_D_store 10 = .ok (.aload_n 0, 1) := by decide +kernel
theorem d_D_store_11 : decode b_D_store 11 = .ok (.getfield 119, 3) := by decide +kernel
theorem d_D_store_14 : decode b_D_store 14 = .ok (.ifCond .ne 5, 3) := by decide +kernel
theorem d_D_store_17 : decode b_D_store 17 = .ok (.iconst 0, 1) := by decide +kernel
theorem d_D_store_18 : decode b_D_store 18 = .ok (.ireturn, 1) := by decide +kernel
theorem d_D_store_19 : decode b_D_store 19 = .ok (.aload_n 0, 1) := by decide +kernel
theorem d_D_store_20 : decode b_D_store 20 = .ok (.dup, 1) := by decide +kernel
theorem d_D_store_21 : decode b_D_store 21 = .ok (.getfield 119, 3) := by decide +kernel
theorem d_D_store_24 : decode b_D_store 24 = .ok (.iconst 1, 1) := by decide +kernel
theorem d_D_store_25 : decode b_D_store 25 = .ok (.isub, 1) := by decide +kernel
theorem d_D_store_26 : decode b_D_store 26 = .ok (.putfield 119, 3) := by decide +kernel
theorem d_D_store_29 : decode b_D_store 29 = .ok (.aload_n 0, 1) := by decide +kernel
theorem d_D_store_30 : decode b_D_store 30 = .ok (.dup, 1) := by decide +kernel
theorem d_D_store_31 : decode b_D_store 31 = .ok (.getfield 152, 3) := by decide +kernel
theorem d_D_store_34 : decode b_D_store 34 = .ok (.iconst 1, 1) := by decide +kernel
theorem d_D_store_35 : decode b_D_store 35 = .ok (.iadd, 1) := by decide +kernel
theorem d_D_store_36 : decode b_D_store 36 = .ok (.putfield 152, 3) := by decide +kernel
theorem d_D_store_39 : decode b_D_store 39 = .ok (.iinc 2 1, 3) := by decide +kernel
theorem d_D_store_42 : decode b_D_store 42 = .ok (.goto (-40), 3) := by decide +kernel
theorem d_D_store_45 : decode b_D_store 45 = .ok (.iconst 0, 1) := by decide +kernel
theorem d_D_store_46 : decode b_D_store 46 = .ok (.istore_n 2, 1) := by decide +kernel
theorem d_D_store_47 : decode b_D_store 47 = .ok (.iload_n 2, 1) := by decide +kernel
theorem d_D_store_48 : decode b_D_store 48 = .ok (.aload_n 1, 1) := by decide +kernel
theorem d_D_store_49 : decode b_D_store 49 = .ok (.getfield 142, 3) := by decide +kernel
theorem d_D_store_52 : decode b_D_store 52 = .ok (.if_icmp .ge 30, 3) := by decide +kernel
theorem d_D_store_55 : decode b_D_store 55 = .ok (.aload_n 0, 1) := by decide +kernel
theorem d_D_store_56 : decode b_D_store 56 = .ok (.getfield 9, 3) := by decide +kernel
theorem d_D_store_59 : decode b_D_store 59 = .ok (.aload_n 1, 1) := by decide +kernel
theorem d_D_store_60 : decode b_D_store 60 = .ok (.getfield 139, 3) := by decide +kernel
theorem d_D_store_63 : decode b_D_store 63 = .ok (.iload_n 2, 1) := by decide +kernel
theorem d_D_store_64 : decode b_D_store 64 = .ok (.iadd, 1) := by decide +kernel
theorem d_D_store_65 : decode b_D_store 65 = .ok (.aload_n 1, 1) := by decide +kernel
theorem d_D_store_66 : decode b_D_store 66 = .ok (.aload_n 1, 1) := by decide +kernel
theorem d_D_store_67 : decode b_D_store 67 = .ok (.getfield 139, 3) := by decide +kernel
theorem d_D_store_70 : decode b_D_store 70 = .ok (.iload_n 2, 1) := by decide +kernel
theorem d_D_store_71 : decode b_D_store 71 = .ok (.iadd, 1) := by decide +kernel
theorem d_D_store_72 : decode b_D_store 72 = .ok (.invokevirtual 176, 3) := by decide +kernel
theorem d_D_store_75 : decode b_D_store 75 = .ok (.lastore, 1) := by decide +kernel
theorem d_D_store_76 : decode b_D_store 76 = .ok (.iinc 2 1, 3) := by decide +kernel
theorem d_D_store_79 : decode b_D_store 79 = .ok (.goto (-32), 3) := by decide +kernel
theorem d_D_store_82 : decode b_D_store 82 = .ok (.aload_n 0, 1) := by decide +kernel
theorem d_D_store_83 : decode b_D_store 83 = .ok (.dup, 1) := by decide +kernel
theorem d_D_store_84 : decode b_D_store 84 = .ok (.getfield 149, 3) := by decide +kernel
theorem d_D_store_87 : decode b_D_store 87 = .ok (.iconst 1, 1) := by decide +kernel
theorem d_D_store_88 : decode b_D_store 88 = .ok (.iadd, 1) := by decide +kernel
theorem d_D_store_89 : decode b_D_store 89 = .ok (.putfield 149, 3) := by decide +kernel
theorem d_D_store_92 : decode b_D_store 92 = .ok (.iconst 1, 1) := by decide +kernel
theorem d_D_store_93 : decode b_D_store 93 = .ok (.ireturn, 1) := by decide +kernel
set_option maxHeartbeats 4000000 in
set_option maxRecDepth 100000 in
theorem m_D_heldWord {l : Launch} {D : va_G} {cA : Nat → ClassId} {n0 : Nat} {w : mw} {S : Nat → Prop} {h0 hf hc hu hq L ln : Nat} {tn : Int32} {tr : Int64} {fl : Nat → Int64} {us : List uU} {st pw pl : Nat} (K : DC cA w S h0 hf hc hu hq L ln tn tr (fl, us, st, pw, pl)) {a : Nat} (ha : a < 24) {x : Int32} (hx1 : x = nI a) :
    Ml l D cA n0 y_D_heldWord c_D_heldWord (rmd 1) [.ref h0, .int x] w (fun r w' => r = hld fl us a ∧ w' = w) := by
  refine mw_met (cc := b_D_heldWord) (maxL := 3) (ret := (some .long)) (by decide) rfl (Nat.le_of_ble_eq_true rfl) ?_
  intro p e s m below meth c ls G hrt hlocks hname h hl
  have G : mw_G p m c b_D_heldWord 3 s _ (c_D_heldWord :: TB) R_D D cl (tys cA) n0 := G
  have hx := G.1.1
  have hb := G.1.2.1
  have hl : lv_has ls 3 [(0, .ref h0), (1, .int x)] := hl
  obtain ⟨hD, hF, ⟨f, g, hC, hU, hlen, hL, hg, hus, hinj, hSc, hSu⟩, hS0, hSf, hv⟩ := id K
  have hD : w h0 = some (dcell hf hc hq ln tn tr st pw pl) := hD
  have hF : w hf = some (longs cA 24 fl) := hF
  have hC : w hc = some (ccell hu us.length) := hC
  have hlen : us.length ≤ L := hlen
  refine lv_aload_n hx hb d_D_heldWord_0 rfl (lv_at hl 0 rfl) ?_
  refine mx_get G h hD rfl 1 (by decide) (tb_in in_D) (tb_c k_118) rfl rfl d_D_heldWord_1 ?_
  refine mx_get G h hC rfl 1 (by decide) (tb_in in_C) (tb_c k_60) rfl rfl d_D_heldWord_4 ?_
  refine lv_iconst (v := 1) hx hb d_D_heldWord_7 (by decide) ?_
  refine lv_isub hx hb d_D_heldWord_8 ?_
  refine lv_istore_n (lv' := [(2, .int ((nI us.length) - 1)), (0, .ref h0), (1, .int x)]) hx hb d_D_heldWord_9 rfl hl (by decide) rfl (fun ls hl => ?_)
  have loop : ∀ (j : Nat), j ≤ us.length → hld fl us a = hld fl (us.take j) a → ∀ (H : Heap) (locs : List Loc) (ls : Array Slot), mw_H n0 D cl s w H locs → lv_has ls 3 [(2, .int (nI j - 1)), (0, .ref h0), (1, .int x)] → W p l e (rmd 1) s m ([.ref h0, .int x] : List Value).toArray below meth c H locs 0 0 (MQ below (mw_Ql n0 D cl (fun r w' => r = hld fl us a ∧ w' = w)) ([.ref h0, .int x] : List Value).toArray s 0 0 (mw_A n0)) (F0 m 10 ls []) := by
    intro j
    induction j with
    | zero =>
      intro hj he H locs ls h hl
      refine lv_iload_n hx hb d_D_heldWord_10 rfl (lv_at hl 0 rfl) ?_
      refine lv_if_lt (tgt := 50) hx hb d_D_heldWord_11 (by decide) (fun c_1 => ?_) (fun c_1 => ?_)
      · refine lv_aload_n hx hb d_D_heldWord_50 rfl (lv_at hl 1 rfl) ?_
        refine mx_get G h hD rfl 0 (by decide) (tb_in in_D) (tb_c k_117) rfl rfl d_D_heldWord_51 ?_
        refine lv_iload_n hx hb d_D_heldWord_54 rfl (lv_at hl 2 rfl) ?_
        refine ax_l G h hF a hx1 ha (by decide) d_D_heldWord_55 ?_
        exact mx_retl G h hrt hlocks d_D_heldWord_56 (⟨by rw [he]; rfl, rfl⟩)
      · exact absurd (by decide) c_1
    | succ k ih =>
      intro hj he H locs ls h hl
      obtain ⟨u, hu⟩ := getQ (l := us) (k := k) (by omega)
      have hgk := hus k u hu
      rw [nI_pred k] at hl
      refine lv_iload_n hx hb d_D_heldWord_10 rfl (lv_at hl 0 rfl) ?_
      refine lv_if_lt (tgt := 50) hx hb d_D_heldWord_11 (by decide) (fun c_2 => ?_) (fun c_2 => ?_)
      · exact absurd c_2 (nI_pos (by omega))
      · refine lv_aload_n hx hb d_D_heldWord_14 rfl (lv_at hl 1 rfl) ?_
        refine mx_get G h hD rfl 1 (by decide) (tb_in in_D) (tb_c k_118) rfl rfl d_D_heldWord_15 ?_
        refine mx_get G h hC rfl 0 (by decide) (tb_in in_C) (tb_c k_58) rfl rfl d_D_heldWord_18 ?_
        refine lv_iload_n hx hb d_D_heldWord_21 rfl (lv_at hl 0 rfl) ?_
        refine ax_a G h 3 hU rfl k rfl (by omega) (by omega) ((hg k (by omega)).1) d_D_heldWord_22 ?_
        refine lv_iload_n hx hb d_D_heldWord_23 rfl (lv_at hl 2 rfl) ?_
        refine mx_ci (cV (As := [.int x]) (rest := []) G h (m_U_covers hgk (x := x)) k_187 k_188 k_189 k_4 k_190 hd_U_covers rfl rfl ⟨Nat.le_of_ble_eq_true rfl, Nat.le_of_ble_eq_true rfl⟩ hgk rfl rfl hl.1 rfl (Nat.le_of_ble_eq_true rfl) d_D_heldWord_24 ⟨Nat.le_of_ble_eq_true rfl, Nat.le_of_ble_eq_true rfl⟩) h (fun r_4 w_3 H locs h hcp => ?_)
        obtain ⟨er_5, ew_6⟩ := hcp
        subst er_5
        rw [ew_6] at h
        refine lv_if_eq (tgt := 44) hx hb d_D_heldWord_27 (by decide) (fun c_7 => ?_) (fun c_7 => ?_)
        · refine lv_iinc (v := (nI k) + (-1)) (lv' := [(2, .int ((nI k) + (-1))), (0, .ref h0), (1, .int x)]) hx hb d_D_heldWord_44 hl (k := 0) rfl rfl (by decide) rfl (fun ls hl => ?_)
          refine lv_goto (tgt := 10) hx hb d_D_heldWord_47 (by decide) ?_
          rw [nI_m1] at hl
          exact ih (by omega) (by rw [he, hld_take hu, if_neg (by rw [← hx1]; exact bI_0 c_7)]) H locs ls h (lv_sub hl [0, 1, 2] rfl)
        · refine lv_aload_n hx hb d_D_heldWord_30 rfl (lv_at hl 1 rfl) ?_
          refine mx_get G h hD rfl 1 (by decide) (tb_in in_D) (tb_c k_118) rfl rfl d_D_heldWord_31 ?_
          refine mx_get G h hC rfl 0 (by decide) (tb_in in_C) (tb_c k_58) rfl rfl d_D_heldWord_34 ?_
          refine lv_iload_n hx hb d_D_heldWord_37 rfl (lv_at hl 0 rfl) ?_
          refine ax_a G h 3 hU rfl k rfl (by omega) (by omega) ((hg k (by omega)).1) d_D_heldWord_38 ?_
          refine lv_iload_n hx hb d_D_heldWord_39 rfl (lv_at hl 2 rfl) ?_
          refine mx_cl (cV (As := [.int x]) (rest := []) G h (m_U_wordAt hgk (x := x)) k_191 k_192 k_193 k_4 k_194 hd_U_wordAt rfl rfl ⟨Nat.le_of_ble_eq_true rfl, Nat.le_of_ble_eq_true rfl⟩ hgk rfl rfl hl.1 rfl (Nat.le_of_ble_eq_true rfl) d_D_heldWord_40 ⟨Nat.le_of_ble_eq_true rfl, Nat.le_of_ble_eq_true rfl⟩) h (fun r_9 w_8 H locs h hcp => ?_)
          obtain ⟨er_10, ew_11⟩ := hcp
          subst er_10
          rw [ew_11] at h
          exact mx_retl G h hrt hlocks d_D_heldWord_43 (⟨by rw [he, hld_take hu, if_pos (by rw [← hx1]; exact bI_n c_7), hx1], rfl⟩)
  exact loop us.length (Nat.le_refl _) (by rw [List.take_length]) s.heap [] ls h (lv_sub hl [0, 1, 2] rfl)
set_option maxHeartbeats 4000000 in
set_option maxRecDepth 100000 in
theorem m_D_store {l : Launch} {D : va_G} {cA : Nat → ClassId} {n0 : Nat} {w : mw} {h0 hf hc hq ln : Nat} {tn : Int32} {tr : Int64} {fl : Nat → Int64} {st pw pl : Nat} (hD : w h0 = some (dcell hf hc hq ln tn tr st pw pl)) (hF : w hf = some (longs cA 24 fl)) {a : Nat} {u : uU} (ha : w a = some (ucell u)) (hV : vU u) (hpl : pl < 1000) :
    Mi l D cA n0 y_D_store c_D_store (rmd 1) [.ref h0, .ref a] w (fun r w' => (lnU u ≤ pl → r = 1 ∧ w' = mw_up (mw_up w h0 (dcell hf hc hq ln tn tr (st + 1) (pw + lnU u) (pl - lnU u))) hf (longs cA 24 (apU u (lnU u) fl))) ∧ (pl < lnU u → r = 0 ∧ w' = mw_up w h0 (dcell hf hc hq ln tn tr st (pw + pl) 0))) := by
  refine mw_met (cc := b_D_store) (maxL := 3) (ret := (some .boolean)) (by decide) rfl (Nat.le_of_ble_eq_true rfl) ?_
  intro p e s m below meth c ls G hrt hlocks hname h hl
  have G : mw_G p m c b_D_store 3 s _ (c_D_store :: TB) R_D D cl (tys cA) n0 := G
  have hx := G.1.1
  have hb := G.1.2.1
  have hl : lv_has ls 3 [(0, .ref h0), (1, .ref a)] := hl
  obtain ⟨hu1, hu2, hl1, hl4, h24, hz⟩ := hV
  refine lv_iconst (v := 0) hx hb d_D_store_0 (by decide) ?_
  refine lv_istore_n (lv' := [(2, .int 0), (0, .ref h0), (1, .ref a)]) hx hb d_D_store_1 rfl hl (by decide) rfl (fun ls hl => ?_)
  have loop2 : lnU u ≤ pl → ∀ (t k : Nat), k + t = lnU u → ∀ (H : Heap) (locs : List Loc) (ls : Array Slot), mw_H n0 D cl s (mw_up (mw_up w h0 (dcell hf hc hq ln tn tr st (pw + lnU u) (pl - lnU u))) hf (longs cA 24 (apU u k fl))) H locs → lv_has ls 3 [(2, .int (nI k)), (0, .ref h0), (1, .ref a)] → W p l e (rmd 1) s m ([.ref h0, .ref a] : List Value).toArray below meth c H locs 0 0 (MQ below (mw_Qi n0 D cl (fun r w' => (lnU u ≤ pl → r = 1 ∧ w' = mw_up (mw_up w h0 (dcell hf hc hq ln tn tr (st + 1) (pw + lnU u) (pl - lnU u))) hf (longs cA 24 (apU u (lnU u) fl))) ∧ (pl < lnU u → r = 0 ∧ w' = mw_up w h0 (dcell hf hc hq ln tn tr st (pw + pl) 0)))) ([.ref h0, .ref a] : List Value).toArray s 0 0 (mw_A n0)) (F0 m 47 ls []) := by
    intro hle t
    induction t with
    | zero =>
      intro k hk H locs ls h hl
      have hk0 : k = lnU u := by omega
      subst hk0
      obtain ⟨w_1, ew_1⟩ : ∃ xx : mw, mw_up (mw_up w h0 (dcell hf hc hq ln tn tr st (pw + lnU u) (pl - lnU u))) hf (longs cA 24 (apU u (lnU u) fl)) = xx := ⟨_, rfl⟩
      rw [ew_1] at h
      have f_2 : w_1 h0 = some (dcell hf hc hq ln tn tr st (pw + lnU u) (pl - lnU u)) := by rw [← ew_1]; rw [mw_ne (mw_apart hD hF (by simp))]; exact mw_self
      have f_3 : w_1 hf = some (longs cA 24 (apU u (lnU u) fl)) := by rw [← ew_1]; exact mw_self
      have f_4 : w_1 a = some (ucell u) := by rw [← ew_1]; rw [mw_ne (mw_apart ha hF (by simp)), mw_ne (mw_apart ha hD (by simp))]; exact ha
      refine lv_iload_n hx hb d_D_store_47 rfl (lv_at hl 0 rfl) ?_
      refine lv_aload_n hx hb d_D_store_48 rfl (lv_at hl 2 rfl) ?_
      refine mx_get G h f_4 rfl 1 (by decide) (tb_in in_U) (tb_c k_41) rfl rfl d_D_store_49 ?_
      refine lv_icmp_ge (tgt := 82) hx hb d_D_store_52 (by decide) (fun c_5 => ?_) (fun c_5 => ?_)
      · refine lv_aload_n hx hb d_D_store_82 rfl (lv_at hl 1 rfl) ?_
        refine lv_dup hx hb d_D_store_83 rfl ?_
        refine mx_get G h f_2 rfl 6 (by decide) (tb_in in_D) (tb_c k_123) rfl rfl d_D_store_84 ?_
        refine lv_iconst (v := 1) hx hb d_D_store_87 (by decide) ?_
        refine lv_iadd hx hb d_D_store_88 ?_
        refine mx_put G h f_2 rfl 6 (by decide) (tb_in in_D) t_D t_D_ok n_D (tb_c k_123) rfl rfl rfl rfl rfl (Nat.le_of_ble_eq_true rfl) d_D_store_89 (fun H locs h => ?_)
        have h : mw_H n0 D cl s (mw_up w_1 h0 (.inr (0, [.ref hf, .ref hc, .ref hq, .int (nI ln), .int tn, .long tr, .int ((nI st) + 1), .int (nI (pw + lnU u)), .int (nI (pl - lnU u))]))) H locs := h
        obtain ⟨w_6, ew_6⟩ : ∃ xx : mw, mw_up w_1 h0 (.inr (0, [.ref hf, .ref hc, .ref hq, .int (nI ln), .int tn, .long tr, .int ((nI st) + 1), .int (nI (pw + lnU u)), .int (nI (pl - lnU u))])) = xx := ⟨_, rfl⟩
        rw [ew_6] at h
        have f_7 : w_6 hf = some (longs cA 24 (apU u (lnU u) fl)) := by rw [← ew_6, mw_ne (mw_apart f_3 f_2 (by simp))]; exact f_3
        have f_8 : w_6 a = some (ucell u) := by rw [← ew_6, mw_ne (mw_apart f_4 f_2 (by simp))]; exact f_4
        have f_9 : w_6 h0 = some (.inr (0, [.ref hf, .ref hc, .ref hq, .int (nI ln), .int tn, .long tr, .int ((nI st) + 1), .int (nI (pw + lnU u)), .int (nI (pl - lnU u))])) := by rw [← ew_6]; exact mw_self
        refine lv_iconst (v := 1) hx hb d_D_store_92 (by decide) ?_
        exact mx_retz G h hrt hlocks d_D_store_93 rfl (⟨fun _ => ⟨rfl, by rw [← ew_6, ← ew_1, nI_1]; funext b; by_cases b1 : b = h0 <;> by_cases b2 : b = hf <;> simp [mw_up, b1, b2, mw_apart hD hF, (mw_apart hF hD (by simp))]⟩, fun z => absurd z (by omega)⟩)
      · exact absurd (by rw [hu2]; exact Int32.le_refl _) c_5
    | succ t ih =>
      intro k hk H locs ls h hl
      obtain ⟨w_10, ew_10⟩ : ∃ xx : mw, mw_up (mw_up w h0 (dcell hf hc hq ln tn tr st (pw + lnU u) (pl - lnU u))) hf (longs cA 24 (apU u k fl)) = xx := ⟨_, rfl⟩
      rw [ew_10] at h
      have f_11 : w_10 h0 = some (dcell hf hc hq ln tn tr st (pw + lnU u) (pl - lnU u)) := by rw [← ew_10]; rw [mw_ne (mw_apart hD hF (by simp))]; exact mw_self
      have f_12 : w_10 hf = some (longs cA 24 (apU u k fl)) := by rw [← ew_10]; exact mw_self
      have f_13 : w_10 a = some (ucell u) := by rw [← ew_10]; rw [mw_ne (mw_apart ha hF (by simp)), mw_ne (mw_apart ha hD (by simp))]; exact ha
      refine lv_iload_n hx hb d_D_store_47 rfl (lv_at hl 0 rfl) ?_
      refine lv_aload_n hx hb d_D_store_48 rfl (lv_at hl 2 rfl) ?_
      refine mx_get G h f_13 rfl 1 (by decide) (tb_in in_U) (tb_c k_41) rfl rfl d_D_store_49 ?_
      refine lv_icmp_ge (tgt := 82) hx hb d_D_store_52 (by decide) (fun c_14 => ?_) (fun c_14 => ?_)
      · exact absurd c_14 (by rw [hu2, nI_leI (by omega) (by omega)]; omega)
      · refine lv_aload_n hx hb d_D_store_55 rfl (lv_at hl 1 rfl) ?_
        refine mx_get G h f_11 rfl 0 (by decide) (tb_in in_D) (tb_c k_117) rfl rfl d_D_store_56 ?_
        refine lv_aload_n hx hb d_D_store_59 rfl (lv_at hl 2 rfl) ?_
        refine mx_get G h f_13 rfl 0 (by decide) (tb_in in_U) (tb_c k_38) rfl rfl d_D_store_60 ?_
        refine lv_iload_n hx hb d_D_store_63 rfl (lv_at hl 0 rfl) ?_
        refine lv_iadd hx hb d_D_store_64 ?_
        refine lv_aload_n hx hb d_D_store_65 rfl (lv_at hl 2 rfl) ?_
        refine lv_aload_n hx hb d_D_store_66 rfl (lv_at hl 2 rfl) ?_
        refine mx_get G h f_13 rfl 0 (by decide) (tb_in in_U) (tb_c k_38) rfl rfl d_D_store_67 ?_
        refine lv_iload_n hx hb d_D_store_70 rfl (lv_at hl 0 rfl) ?_
        refine lv_iadd hx hb d_D_store_71 ?_
        refine mx_cl (cV (As := [.int (u.1 + (nI k))]) (rest := [.int (u.1 + (nI k)), .ref hf]) G h (m_U_wordAt f_13 (x := u.1 + nI k)) k_191 k_192 k_193 k_4 k_194 hd_U_wordAt rfl rfl ⟨Nat.le_of_ble_eq_true rfl, Nat.le_of_ble_eq_true rfl⟩ f_13 rfl rfl hl.1 rfl (Nat.le_of_ble_eq_true rfl) d_D_store_72 ⟨Nat.le_of_ble_eq_true rfl, Nat.le_of_ble_eq_true rfl⟩) h (fun r_16 w_15 H locs h hcp => ?_)
        obtain ⟨er_17, ew_18⟩ := hcp
        subst er_17
        rw [ew_18] at h
        have hq1 : u.1 + nI k = nI (fsU u + k) := by rw [hu1]; exact nI_add _ _
        have et_19 : wrd u (u.1 + nI k) = wrd u (nI (fsU u + k)) := by rw [hq1]
        rw [et_19]
        refine ax_sl G h f_12 (fsU u + k) hq1 (by omega) (by decide) d_D_store_75 (fun H locs h => ?_)
        have h : mw_H n0 D cl s (mw_up w_10 hf (.inl (cA 1, 24, .inr (.inl (vp_updL (apU u k fl) (fsU u + k) (wrd u (nI (fsU u + k)))))))) H locs := h
        obtain ⟨w_20, ew_20⟩ : ∃ xx : mw, mw_up w_10 hf (.inl (cA 1, 24, .inr (.inl (vp_updL (apU u k fl) (fsU u + k) (wrd u (nI (fsU u + k))))))) = xx := ⟨_, rfl⟩
        rw [ew_20] at h
        have f_21 : w_20 h0 = some (dcell hf hc hq ln tn tr st (pw + lnU u) (pl - lnU u)) := by rw [← ew_20, mw_ne (mw_apart f_11 f_12 (by simp))]; exact f_11
        have f_22 : w_20 a = some (ucell u) := by rw [← ew_20, mw_ne (mw_apart f_13 f_12 (by simp))]; exact f_13
        have f_23 : w_20 hf = some (.inl (cA 1, 24, .inr (.inl (vp_updL (apU u k fl) (fsU u + k) (wrd u (nI (fsU u + k))))))) := by rw [← ew_20]; exact mw_self
        refine lv_iinc (v := (nI k) + 1) (lv' := [(2, .int ((nI k) + 1)), (0, .ref h0), (1, .ref a)]) hx hb d_D_store_76 hl (k := 0) rfl rfl (by decide) rfl (fun ls hl => ?_)
        refine lv_goto (tgt := 47) hx hb d_D_store_79 (by decide) ?_
        rw [nI_1] at hl
        refine ih (k + 1) (by omega) H locs ls ?_ (lv_sub hl [0, 1, 2] rfl)
        rw [← apU_s, ← mw_uu (e := longs cA 24 (apU u k fl)), ew_10, ew_20]
        exact h
  have loop1 : ∀ (t i : Nat), i + t = lnU u → i ≤ pl → ∀ (H : Heap) (locs : List Loc) (ls : Array Slot), mw_H n0 D cl s (mw_up w h0 (dcell hf hc hq ln tn tr st (pw + i) (pl - i))) H locs → lv_has ls 3 [(2, .int (nI i)), (0, .ref h0), (1, .ref a)] → W p l e (rmd 1) s m ([.ref h0, .ref a] : List Value).toArray below meth c H locs 0 0 (MQ below (mw_Qi n0 D cl (fun r w' => (lnU u ≤ pl → r = 1 ∧ w' = mw_up (mw_up w h0 (dcell hf hc hq ln tn tr (st + 1) (pw + lnU u) (pl - lnU u))) hf (longs cA 24 (apU u (lnU u) fl))) ∧ (pl < lnU u → r = 0 ∧ w' = mw_up w h0 (dcell hf hc hq ln tn tr st (pw + pl) 0)))) ([.ref h0, .ref a] : List Value).toArray s 0 0 (mw_A n0)) (F0 m 2 ls []) := by
    intro t
    induction t with
    | zero =>
      intro i hi hip H locs ls h hl
      have hk0 : i = lnU u := by omega
      subst hk0
      obtain ⟨w_24, ew_24⟩ : ∃ xx : mw, mw_up w h0 (dcell hf hc hq ln tn tr st (pw + lnU u) (pl - lnU u)) = xx := ⟨_, rfl⟩
      rw [ew_24] at h
      have f_25 : w_24 h0 = some (dcell hf hc hq ln tn tr st (pw + lnU u) (pl - lnU u)) := by rw [← ew_24]; exact mw_self
      have f_26 : w_24 hf = some (longs cA 24 fl) := by rw [← ew_24]; rw [mw_ne (mw_apart hF hD (by simp))]; exact hF
      have f_27 : w_24 a = some (ucell u) := by rw [← ew_24]; rw [mw_ne (mw_apart ha hD (by simp))]; exact ha
      refine lv_iload_n hx hb d_D_store_2 rfl (lv_at hl 0 rfl) ?_
      refine lv_aload_n hx hb d_D_store_3 rfl (lv_at hl 2 rfl) ?_
      refine mx_get G h f_27 rfl 1 (by decide) (tb_in in_U) (tb_c k_41) rfl rfl d_D_store_4 ?_
      refine lv_icmp_ge (tgt := 45) hx hb d_D_store_7 (by decide) (fun c_28 => ?_) (fun c_28 => ?_)
      · refine lv_iconst (v := 0) hx hb d_D_store_45 (by decide) ?_
        refine lv_istore_n (lv' := [(2, .int 0), (0, .ref h0), (1, .ref a)]) hx hb d_D_store_46 rfl hl (by decide) rfl (fun ls hl => ?_)
        refine loop2 hip (lnU u) 0 (by omega) H locs ls ?_ (lv_sub hl [0, 1, 2] rfl)
        rw [apU_0, ew_24, mw_id f_26]
        exact h
      · exact absurd (by rw [hu2]; exact Int32.le_refl _) c_28
    | succ t ih =>
      intro i hi hip H locs ls h hl
      obtain ⟨w_29, ew_29⟩ : ∃ xx : mw, mw_up w h0 (dcell hf hc hq ln tn tr st (pw + i) (pl - i)) = xx := ⟨_, rfl⟩
      rw [ew_29] at h
      have f_30 : w_29 h0 = some (dcell hf hc hq ln tn tr st (pw + i) (pl - i)) := by rw [← ew_29]; exact mw_self
      have f_31 : w_29 hf = some (longs cA 24 fl) := by rw [← ew_29]; rw [mw_ne (mw_apart hF hD (by simp))]; exact hF
      have f_32 : w_29 a = some (ucell u) := by rw [← ew_29]; rw [mw_ne (mw_apart ha hD (by simp))]; exact ha
      refine lv_iload_n hx hb d_D_store_2 rfl (lv_at hl 0 rfl) ?_
      refine lv_aload_n hx hb d_D_store_3 rfl (lv_at hl 2 rfl) ?_
      refine mx_get G h f_32 rfl 1 (by decide) (tb_in in_U) (tb_c k_41) rfl rfl d_D_store_4 ?_
      refine lv_icmp_ge (tgt := 45) hx hb d_D_store_7 (by decide) (fun c_33 => ?_) (fun c_33 => ?_)
      · exact absurd c_33 (by rw [hu2, nI_leI (by omega) (by omega)]; omega)
      · refine lv_aload_n hx hb d_D_store_10 rfl (lv_at hl 1 rfl) ?_
        refine mx_get G h f_30 rfl 8 (by decide) (tb_in in_D) (tb_c k_125) rfl rfl d_D_store_11 ?_
        refine lv_if_ne (tgt := 19) hx hb d_D_store_14 (by decide) (fun c_34 => ?_) (fun c_34 => ?_)
        · have hlt : i < pl := by
            rcases Nat.lt_or_ge i pl with z | z
            · exact z
            · exact absurd (by rw [show pl - i = 0 by omega]; rfl) c_34
          refine lv_aload_n hx hb d_D_store_19 rfl (lv_at hl 1 rfl) ?_
          refine lv_dup hx hb d_D_store_20 rfl ?_
          refine mx_get G h f_30 rfl 8 (by decide) (tb_in in_D) (tb_c k_125) rfl rfl d_D_store_21 ?_
          refine lv_iconst (v := 1) hx hb d_D_store_24 (by decide) ?_
          refine lv_isub hx hb d_D_store_25 ?_
          have et_35 : (nI (pl - i)) - 1 = nI (pl - (i + 1)) := by rw [nI_sub1 (by omega)]; congr 1
          rw [et_35]
          refine mx_put G h f_30 rfl 8 (by decide) (tb_in in_D) t_D t_D_ok n_D (tb_c k_125) rfl rfl rfl rfl rfl (Nat.le_of_ble_eq_true rfl) d_D_store_26 (fun H locs h => ?_)
          have h : mw_H n0 D cl s (mw_up w_29 h0 (.inr (0, [.ref hf, .ref hc, .ref hq, .int (nI ln), .int tn, .long tr, .int (nI st), .int (nI (pw + i)), .int (nI (pl - (i + 1)))]))) H locs := h
          obtain ⟨w_36, ew_36⟩ : ∃ xx : mw, mw_up w_29 h0 (.inr (0, [.ref hf, .ref hc, .ref hq, .int (nI ln), .int tn, .long tr, .int (nI st), .int (nI (pw + i)), .int (nI (pl - (i + 1)))])) = xx := ⟨_, rfl⟩
          rw [ew_36] at h
          have f_37 : w_36 hf = some (longs cA 24 fl) := by rw [← ew_36, mw_ne (mw_apart f_31 f_30 (by simp))]; exact f_31
          have f_38 : w_36 a = some (ucell u) := by rw [← ew_36, mw_ne (mw_apart f_32 f_30 (by simp))]; exact f_32
          have f_39 : w_36 h0 = some (.inr (0, [.ref hf, .ref hc, .ref hq, .int (nI ln), .int tn, .long tr, .int (nI st), .int (nI (pw + i)), .int (nI (pl - (i + 1)))])) := by rw [← ew_36]; exact mw_self
          refine lv_aload_n hx hb d_D_store_29 rfl (lv_at hl 1 rfl) ?_
          refine lv_dup hx hb d_D_store_30 rfl ?_
          refine mx_get G h f_39 rfl 7 (by decide) (tb_in in_D) (tb_c k_124) rfl rfl d_D_store_31 ?_
          refine lv_iconst (v := 1) hx hb d_D_store_34 (by decide) ?_
          refine lv_iadd hx hb d_D_store_35 ?_
          have et_40 : (nI (pw + i)) + 1 = nI (pw + (i + 1)) := by rw [nI_1]; rfl
          rw [et_40]
          refine mx_put G h f_39 rfl 7 (by decide) (tb_in in_D) t_D t_D_ok n_D (tb_c k_124) rfl rfl rfl rfl rfl (Nat.le_of_ble_eq_true rfl) d_D_store_36 (fun H locs h => ?_)
          have h : mw_H n0 D cl s (mw_up w_36 h0 (.inr (0, [.ref hf, .ref hc, .ref hq, .int (nI ln), .int tn, .long tr, .int (nI st), .int (nI (pw + (i + 1))), .int (nI (pl - (i + 1)))]))) H locs := h
          obtain ⟨w_41, ew_41⟩ : ∃ xx : mw, mw_up w_36 h0 (.inr (0, [.ref hf, .ref hc, .ref hq, .int (nI ln), .int tn, .long tr, .int (nI st), .int (nI (pw + (i + 1))), .int (nI (pl - (i + 1)))])) = xx := ⟨_, rfl⟩
          rw [ew_41] at h
          have f_42 : w_41 hf = some (longs cA 24 fl) := by rw [← ew_41, mw_ne (mw_apart f_37 f_39 (by simp))]; exact f_37
          have f_43 : w_41 a = some (ucell u) := by rw [← ew_41, mw_ne (mw_apart f_38 f_39 (by simp))]; exact f_38
          have f_44 : w_41 h0 = some (.inr (0, [.ref hf, .ref hc, .ref hq, .int (nI ln), .int tn, .long tr, .int (nI st), .int (nI (pw + (i + 1))), .int (nI (pl - (i + 1)))])) := by rw [← ew_41]; exact mw_self
          refine lv_iinc (v := (nI i) + 1) (lv' := [(2, .int ((nI i) + 1)), (0, .ref h0), (1, .ref a)]) hx hb d_D_store_39 hl (k := 0) rfl rfl (by decide) rfl (fun ls hl => ?_)
          refine lv_goto (tgt := 2) hx hb d_D_store_42 (by decide) ?_
          rw [nI_1] at hl
          refine ih (i + 1) (by omega) (by omega) H locs ls ?_ (lv_sub hl [0, 1, 2] rfl)
          have q1 : mw_up w h0 (dcell hf hc hq ln tn tr st (pw + (i + 1)) (pl - (i + 1))) = w_41 := by rw [← ew_41, ← ew_36, ← ew_29]; simp only [mw_uu]
          rw [q1]
          exact h
        · refine lv_iconst (v := 0) hx hb d_D_store_17 (by decide) ?_
          have hip2 : i = pl := by
            rcases Nat.lt_or_ge i pl with z | z
            · exact absurd c_34 (nI_ne0 (by omega) (by omega))
            · omega
          exact mx_retz G h hrt hlocks d_D_store_18 rfl (⟨fun z => absurd z (by omega), fun _ => ⟨rfl, by rw [← ew_29, hip2, Nat.sub_self]⟩⟩)
  refine loop1 (lnU u) 0 (by omega) (Nat.zero_le _) _ _ ls ?_ (lv_sub hl [0, 1, 2] rfl)
  rw [Nat.add_zero, Nat.sub_zero, mw_id hD]
  exact h
