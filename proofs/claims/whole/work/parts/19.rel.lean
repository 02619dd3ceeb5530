/-! The reference's state against the document's -/
def QN (F : Nat → Nat → Int32) (R : Nat → Int64) (cm cp : Nat) (pq : Nat → List pC) (cq : Nat → List (Int32 × Int64)) : Prop :=
  (∀ j, j < 3 → pq j = (pendN F cm (nI j)).map (cmdN F)) ∧ (∀ j, j < 3 → cq j = (doneN F cp (nI j)).map (fun i => (F 18 i, R i))) ∧ (∀ j, j < 3 → (pq j).length ≤ 4 ∧ (cq j).length ≤ 4) ∧ (∀ c, 1 ≤ c → c ≤ cm → vC (cmdN F c))
def MR (cA : Nat → ClassId) (w : mw) (ρ q : Nat → Nat) (lim t : Nat) (g : gS) : Prop := ∃ un cp bd F R, MC cA w ρ q lim un g.2.2.2.2.2.2.1 cp g.2.2.2.2.2.2.2.1 g.2.2.2.2.2.2.2.2 F R (g.1, g.2.1, g.2.2.1, g.2.2.2.1, bd) ∧ un ≤ t ∧ g.2.2.2.2.2.2.1 ≤ t ∧ cp ≤ t ∧ bd < 1000 ∧ QN F R g.2.2.2.2.2.2.1 cp g.2.2.2.2.1 g.2.2.2.2.2.1
theorem uN_congr {F F' : Nat → Nat → Int32} (h : ∀ i, i ≤ 6 → F' i = F i) (v : Nat) : uN F' v = uN F v := by
  simp only [uN, h 1 (by decide), h 2 (by decide), h 3 (by decide), h 4 (by decide)]
theorem LG.cong {F F' : Nat → Nat → Int32} {un sn : Nat} {fl : Nat → Int64} {us : List uU} (hG : LG F un sn fl us) (h : ∀ i, i ≤ 6 → F' i = F i) : LG F' un sn fl us := by
  obtain ⟨h1, h2, h3, h4, h5, h6, h7⟩ := hG
  have hl : liveN F' un = liveN F un := liveN_congr (fun v _ => by rw [h 6 (by decide)])
  refine ⟨?_, fun a ha => ?_, fun v hv => by rw [uN_congr h]; exact h3 v hv, fun v hv => by rw [h 5 (by decide)]; exact h4 v hv, fun v hv => by rw [h 6 (by decide)]; exact h5 v hv, by rw [hl]; exact h6, h7⟩
  · rw [hl, h1]; exact List.map_congr_left (fun v _ => (uN_congr h v).symm)
  · rw [h2 a ha, inFl, inFl, bestN_congr (F' := F') (F := F) (fun v _ => ⟨by rw [h 5 (by decide)], uN_congr h v⟩)]
    cases bestN F (nI a) un with
    | none => rfl
    | some b => show wrd (uN F b) (nI a) = wrd (uN F' b) (nI a); rw [uN_congr h]
theorem pendN_congr {F F' : Nat → Nat → Int32} {x : Int32} : ∀ {n : Nat}, (∀ c, 1 ≤ c → c ≤ n → (F' 11 c = x ↔ F 11 c = x)) → pendN F' n x = pendN F n x
  | 0, _ => rfl
  | n + 1, h => by
    rw [pendN_s, pendN_s, pendN_congr (fun c h1 h2 => h c h1 (by omega))]
    by_cases e : F 11 (n + 1) = x
    · rw [if_pos e, if_pos ((h (n + 1) (by omega) (by omega)).mpr e)]
    · rw [if_neg e, if_neg (fun z => e ((h (n + 1) (by omega) (by omega)).mp z))]
theorem doneN_congr {F F' : Nat → Nat → Int32} {x : Int32} : ∀ {n : Nat}, (∀ i, i < n → (F' 17 i = x ↔ F 17 i = x)) → doneN F' n x = doneN F n x
  | 0, _ => rfl
  | n + 1, h => by
    rw [doneN_s, doneN_s, doneN_congr (fun i h2 => h i (by omega))]
    by_cases e : F 17 n = x
    · rw [if_pos e, if_pos ((h n (by omega)).mpr e)]
    · rw [if_neg e, if_neg (fun z => e ((h n (by omega)).mp z))]
theorem pendN_mem {F : Nat → Nat → Int32} {n c : Nat} {x : Int32} : c ∈ pendN F n x ↔ (1 ≤ c ∧ c ≤ n) ∧ F 11 c = x := by
  simp only [pendN, List.mem_filter, List.mem_map, List.mem_range, decide_eq_true_eq]
  constructor
  · rintro ⟨⟨i, hi, rfl⟩, h⟩; exact ⟨⟨by omega, by omega⟩, h⟩
  · rintro ⟨⟨h1, h2⟩, h⟩; exact ⟨⟨c - 1, by omega, by omega⟩, h⟩
theorem doneN_mem {F : Nat → Nat → Int32} {n i : Nat} {x : Int32} : i ∈ doneN F n x ↔ i < n ∧ F 17 i = x := by simp [doneN]
theorem pendN_nd {F : Nat → Nat → Int32} {n : Nat} {x : Int32} : (pendN F n x).Nodup := by
  refine List.Pairwise.filter _ (List.Pairwise.map _ (fun a b h => ?_) List.nodup_range)
  intro z
  exact h (by omega)
theorem doneN_nd {F : Nat → Nat → Int32} {n : Nat} {x : Int32} : (doneN F n x).Nodup := List.Pairwise.filter _ List.nodup_range
theorem filt_ne {c : Nat} : ∀ {l : List Nat} {i : Nat}, l.Nodup → l[i]? = some c → l.filter (fun v => decide (v ≠ c)) = l.eraseIdx i
  | [], i, _, h => by simp at h
  | a :: l, 0, hn, h => by
    simp at h
    subst h
    have := (List.nodup_cons.mp hn).1
    simp only [List.eraseIdx_cons_zero]
    rw [List.filter_cons_of_neg (by simp)]
    exact List.filter_eq_self.mpr (fun v hv => by simp; intro z; exact this (by rw [← z]; exact hv))
  | a :: l, i + 1, hn, h => by
    rw [List.getElem?_cons_succ] at h
    have ha : a ≠ c := fun z => (List.nodup_cons.mp hn).1 (by rw [z]; exact List.mem_of_getElem? h)
    rw [List.eraseIdx_cons_succ, List.filter_cons_of_pos (by simp [ha]), filt_ne (List.nodup_cons.mp hn).2 h]
theorem pendN_off {F : Nat → Nat → Int32} {c : Nat} {x y : Int32} (hy : y ≠ x) : ∀ {n : Nat}, pendN (va_up F 11 (upd (F 11) c y)) n x = (pendN F n x).filter (fun v => decide (v ≠ c))
  | 0 => rfl
  | n + 1 => by
    rw [pendN_s, pendN_s, pendN_off hy]
    have e : va_up F 11 (upd (F 11) c y) 11 (n + 1) = if n + 1 = c then y else F 11 (n + 1) := by simp [va_up, upd]
    rw [e]
    by_cases hc : n + 1 = c
    · subst hc
      rw [if_pos rfl, if_neg hy]
      split
      · simp
      · rfl
    · rw [if_neg hc]
      split
      · simp [hc]
      · rfl
theorem doneN_off {F : Nat → Nat → Int32} {c : Nat} {x y : Int32} (hy : y ≠ x) : ∀ {n : Nat}, doneN (va_up F 17 (upd (F 17) c y)) n x = (doneN F n x).filter (fun v => decide (v ≠ c))
  | 0 => rfl
  | n + 1 => by
    rw [doneN_s, doneN_s, doneN_off hy]
    have e : va_up F 17 (upd (F 17) c y) 17 n = if n = c then y else F 17 n := by simp [va_up, upd]
    rw [e]
    by_cases hc : n = c
    · subst hc
      rw [if_pos rfl, if_neg hy]
      split
      · simp
      · rfl
    · rw [if_neg hc]
      split
      · simp [hc]
      · rfl
/-! enough pages: what a command does doesn't depend on how many more there are -/
def sumL : List uU → Nat
  | [] => 0
  | u :: us => lnU u + sumL us
theorem sumL_le : ∀ {us : List uU}, (∀ u ∈ us, vU u) → sumL us ≤ 4 * us.length
  | [], _ => Nat.le_refl _
  | u :: us, h => by
    have h1 := (h u List.mem_cons_self).2.2.2.1
    have h2 := sumL_le (us := us) (fun v hv => h v (List.mem_cons_of_mem _ hv))
    simp only [sumL, List.length_cons]
    omega
theorem empA_en : ∀ {us : List uU} {fl : Nat → Int64} {st pw : Nat}, ∃ X A B, ∀ pl, sumL us ≤ pl → empA us fl st pw pl = (true, (X, [], A, B, pl - sumL us))
  | [], fl, st, pw => ⟨fl, st, pw, fun pl _ => rfl⟩
  | u :: us, fl, st, pw => by
    obtain ⟨X, A, B, h⟩ := empA_en (us := us) (fl := apU u (lnU u) fl) (st := st + 1) (pw := pw + lnU u)
    refine ⟨X, A, B, fun pl hp => ?_⟩
    have hp : lnU u + sumL us ≤ pl := hp
    rw [empA_t (by omega), h (pl - lnU u) (by omega)]
    simp only [sumL]
    rw [show pl - lnU u - sumL us = pl - (lnU u + sumL us) by omega]
def drp (κ : kS) : (Nat → Int64) × List uU × Nat × Nat := (κ.1, κ.2.1, κ.2.2.1, κ.2.2.2.1)
theorem carA_en {L kd : Nat} {u : uU} {fl : Nat → Int64} {us : List uU} {sn pw p1 p2 : Nat} (hu : kd = 2 → lnU u ≤ 4) (hv : ∀ u ∈ us, vU u) (hl : us.length ≤ 6) (h1 : 28 ≤ p1) (h2 : 28 ≤ p2) : (carA L kd u (fl, us, sn, pw, p1)).1 = (carA L kd u (fl, us, sn, pw, p2)).1 ∧ drp (carA L kd u (fl, us, sn, pw, p1)).2 = drp (carA L kd u (fl, us, sn, pw, p2)).2 := by
  have hs := sumL_le hv
  obtain ⟨X, A, B, he⟩ := empA_en (us := us) (fl := fl) (st := sn) (pw := pw)
  have e1 : empK (fl, us, sn, pw, p1) = (true, (X, [], A, B, p1 - sumL us)) := he p1 (by omega)
  have e2 : empK (fl, us, sn, pw, p2) = (true, (X, [], A, B, p2 - sumL us)) := he p2 (by omega)
  unfold carA
  by_cases c0 : kd = 0
  · rw [if_pos c0, if_pos c0]; exact ⟨rfl, rfl⟩
  · rw [if_neg c0, if_neg c0]
    by_cases c1 : kd = 1 ∨ kd = 4
    · rw [if_pos c1, if_pos c1]
      refine ⟨rfl, ?_⟩
      simp only [cacA]
      by_cases cl : L ≤ us.length
      · rw [if_pos cl, if_pos cl]
        cases us with
        | nil => rfl
        | cons v vs =>
          have h4 := (hv v List.mem_cons_self).2.2.2.1
          rw [stoO_t (by omega), stoO_t (by omega)]
          rfl
      · rw [if_neg cl, if_neg cl]; rfl
    · rw [if_neg c1, if_neg c1]
      by_cases c2 : kd = 2
      · rw [if_pos c2, if_pos c2]
        refine ⟨rfl, ?_⟩
        have h4 := hu c2
        simp only [forA]
        rw [e1, e2, if_pos rfl, if_pos rfl, stoF, stoF, if_pos (by show lnU u ≤ p1 - sumL us; omega), if_pos (by show lnU u ≤ p2 - sumL us; omega)]
        rfl
      · rw [if_neg c2, if_neg c2]
        by_cases c3 : kd = 3
        · rw [if_pos c3, if_pos c3]
          refine ⟨rfl, ?_⟩
          show drp (empK (fl, us, sn, pw, p1)).2 = drp (empK (fl, us, sn, pw, p2)).2
          rw [e1, e2]
          rfl
        · rw [if_neg c3, if_neg c3]; exact ⟨rfl, rfl⟩
theorem stoO_cons {κ : kS} : (stoO κ).2.2.2.2.1 + (stoO κ).2.2.2.2.2 = κ.2.2.2.1 + κ.2.2.2.2 := by
  obtain ⟨fl, us, st, pw, pl⟩ := κ
  cases us with
  | nil => rfl
  | cons u us =>
    rcases Nat.lt_or_ge pl (lnU u) with h | h
    · rw [stoO_f h]; rfl
    · rw [stoO_t h]; show pw + lnU u + (pl - lnU u) = pw + pl; omega
theorem empA_cons : ∀ {us : List uU} {fl : Nat → Int64} {st pw pl : Nat}, (empA us fl st pw pl).2.2.2.2.1 + (empA us fl st pw pl).2.2.2.2.2 = pw + pl
  | [], _, _, _, _ => rfl
  | u :: us, fl, st, pw, pl => by
    rcases Nat.lt_or_ge pl (lnU u) with h | h
    · rw [empA_f h]; rfl
    · rw [empA_t h, empA_cons]; omega
theorem carA_cons {L kd : Nat} {u : uU} {κ : kS} : (carA L kd u κ).2.2.2.2.1 + (carA L kd u κ).2.2.2.2.2 = κ.2.2.2.1 + κ.2.2.2.2 := by
  unfold carA
  by_cases c0 : kd = 0
  · rw [if_pos c0]
  · rw [if_neg c0]
    by_cases c1 : kd = 1 ∨ kd = 4
    · rw [if_pos c1]
      simp only [cacA]
      by_cases cl : L ≤ κ.2.1.length
      · rw [if_pos cl]
        split
        · exact stoO_cons
        · exact stoO_cons
      · rw [if_neg cl]
    · rw [if_neg c1]
      by_cases c2 : kd = 2
      · rw [if_pos c2]
        simp only [forA]
        have hc : (empK κ).2.2.2.2.1 + (empK κ).2.2.2.2.2 = κ.2.2.2.1 + κ.2.2.2.2 := empA_cons
        split
        · simp only [stoF]
          split
          · show (empK κ).2.2.2.2.1 + lnU u + ((empK κ).2.2.2.2.2 - lnU u) = _; omega
          · show (empK κ).2.2.2.2.1 + (empK κ).2.2.2.2.2 + 0 = _; omega
        · exact hc
      · rw [if_neg c2]
        by_cases c3 : kd = 3
        · rw [if_pos c3]; exact empA_cons
        · rw [if_neg c3]
