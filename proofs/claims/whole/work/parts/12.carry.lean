/-! Commands, queues, and the drive as a whole. A command: number, kind, address, count, value -/
abbrev pC : Type := Int32 × Int32 × Int32 × Int32 × Int32
def uof (c : pC) : uU := (c.2.2.1, c.2.2.2.1, c.2.2.2.2, bI (c.2.1 = 4))
def vC (c : pC) : Prop := (∃ kd : Nat, kd ≤ 5 ∧ c.2.1 = nI kd) ∧ (c.2.1 = 3 ∨ vU (uof c))
theorem rot_ix {k m n i : Nat} (hk : k ≤ m) (hm : m < n) (hi : i < n) : ∃ j, j < n ∧ ∀ {α : Type} (f : Nat → α), rotf f k m i = f j := by
  by_cases c1 : k ≤ i ∧ i < m
  · exact ⟨i + 1, by omega, fun f => by simp only [rotf]; rw [if_pos c1]⟩
  · by_cases c2 : i = m
    · exact ⟨k, by omega, fun f => by simp only [rotf]; rw [if_neg c1, if_pos c2]⟩
    · exact ⟨i, hi, fun f => by simp only [rotf]; rw [if_neg c1, if_neg c2]⟩
theorem rot_inj {g : Nat → Nat} {k m n : Nat} (hk : k ≤ m) (hm : m < n) (h : ∀ i j, i < n → j < n → g i = g j → i = j) : ∀ i j, i < n → j < n → rotf g k m i = rotf g k m j → i = j := by
  intro i j hi hj hij
  simp only [rotf] at hij
  by_cases a1 : k ≤ i ∧ i < m
  · rw [if_pos a1] at hij
    by_cases b1 : k ≤ j ∧ j < m
    · rw [if_pos b1] at hij; have := h _ _ (by omega) (by omega) hij; omega
    · rw [if_neg b1] at hij
      by_cases b2 : j = m
      · rw [if_pos b2] at hij; have := h _ _ (by omega) (by omega) hij; omega
      · rw [if_neg b2] at hij; have := h _ _ (by omega) (by omega) hij; omega
  · rw [if_neg a1] at hij
    by_cases a2 : i = m
    · rw [if_pos a2] at hij
      by_cases b1 : k ≤ j ∧ j < m
      · rw [if_pos b1] at hij; have := h _ _ (by omega) (by omega) hij; omega
      · rw [if_neg b1] at hij
        by_cases b2 : j = m
        · omega
        · rw [if_neg b2] at hij; have := h _ _ (by omega) (by omega) hij; omega
    · rw [if_neg a2] at hij
      by_cases b1 : k ≤ j ∧ j < m
      · rw [if_pos b1] at hij; have := h _ _ (by omega) (by omega) hij; omega
      · rw [if_neg b1] at hij
        by_cases b2 : j = m
        · rw [if_pos b2] at hij; have := h _ _ (by omega) (by omega) hij; omega
        · rw [if_neg b2] at hij; exact h _ _ hi hj hij
/-- a queue: pending ps, completions cs, its cells are S's -/
def QAx (cA : Nat → ClassId) (w : mw) (S : Nat → Prop) (hq hp hn hr : Nat) (ps : List pC) (cs : List (Int32 × Int64)) (f : Nat → Option Nat) (g gu : Nat → Nat) (fn : Nat → Int32) (fr : Nat → Int64) : Prop :=
  w hq = some (qcell hp hn hr ps.length cs.length) ∧ w hp = some (refs cA 4 4 f) ∧ w hn = some (ints cA 4 fn) ∧ w hr = some (longs cA 4 fr) ∧ ps.length ≤ 4 ∧ cs.length ≤ 4 ∧
  (∀ i, i < 4 → f i = some (g i) ∧ S (g i) ∧ S (gu i) ∧ ∃ y z u, w (g i) = some (kcell (gu i) y z) ∧ w (gu i) = some (ucell u)) ∧
  (∀ i c, ps[i]? = some c → w (g i) = some (kcell (gu i) c.1 c.2.1) ∧ w (gu i) = some (ucell (uof c))) ∧
  (∀ i c, cs[i]? = some c → fn i = c.1 ∧ fr i = c.2) ∧
  (∀ i j, i < 4 → j < 4 → g i = g j → i = j) ∧ (∀ i j, i < 4 → j < 4 → gu i = gu j → i = j) ∧ S hq ∧ S hp ∧ S hn ∧ S hr
def QA (cA : Nat → ClassId) (w : mw) (S : Nat → Prop) (hq hp hn hr : Nat) (ps : List pC) (cs : List (Int32 × Int64)) : Prop := ∃ f g gu fn fr, QAx cA w S hq hp hn hr ps cs f g gu fn fr
section QAL
variable {cA : Nat → ClassId} {w w' : mw} {S : Nat → Prop} {hq hp hn hr : Nat} {ps : List pC} {cs : List (Int32 × Int64)} {f : Nat → Option Nat} {g gu : Nat → Nat} {fn : Nat → Int32} {fr : Nat → Int64}
theorem QAx.frame (h : QAx cA w S hq hp hn hr ps cs f g gu fn fr) (e : ∀ x, S x → w' x = w x) : QAx cA w' S hq hp hn hr ps cs f g gu fn fr := by
  obtain ⟨h1, h2, h3, h4, h5, h6, h7, h8, h9, h10, h11, h12, h13, h14, h15⟩ := h
  refine ⟨by rw [e _ h12]; exact h1, by rw [e _ h13]; exact h2, by rw [e _ h14]; exact h3, by rw [e _ h15]; exact h4, h5, h6, fun i hi => ?_, fun i c hi => ?_, h9, h10, h11, h12, h13, h14, h15⟩
  · obtain ⟨a, b, c, y, z, u, d1, d2⟩ := h7 i hi
    exact ⟨a, b, c, y, z, u, by rw [e _ b]; exact d1, by rw [e _ c]; exact d2⟩
  · obtain ⟨a, b, c', -⟩ := h7 i (Nat.lt_of_lt_of_le (lt_of_get hi) h5)
    rw [e _ b, e _ c']
    exact h8 i c hi
theorem QA.frame (h : QA cA w S hq hp hn hr ps cs) (e : ∀ x, S x → w' x = w x) : QA cA w' S hq hp hn hr ps cs := by
  obtain ⟨f, g, gu, fn, fr, h⟩ := h
  exact ⟨f, g, gu, fn, fr, h.frame e⟩
theorem QAx.push (h : QAx cA w S hq hp hn hr ps cs f g gu fn fr) (hl : ps.length < 4) (c : pC) : QAx cA (mw_up (mw_up (mw_up w (g ps.length) (kcell (gu ps.length) c.1 c.2.1)) hq (qcell hp hn hr (ps.length + 1) cs.length)) (gu ps.length) (ucell (uof c))) S hq hp hn hr (ps ++ [c]) cs f g gu fn fr := by
  obtain ⟨h1, h2, h3, h4, h5, h6, h7, h8, h9, h10, h11, h12, h13, h14, h15⟩ := h
  obtain ⟨a0, b0, c0, y0, z0, u0, d0, e0⟩ := h7 ps.length hl
  have x1 : ∀ {b : Nat} {e : va_E}, w b = some e → (∀ u, e ≠ ucell u) → (∀ u y z, e ≠ kcell u y z) → (∀ p q, e ≠ qcell hp hn hr p q) → mw_up (mw_up (mw_up w (g ps.length) (kcell (gu ps.length) c.1 c.2.1)) hq (qcell hp hn hr (ps.length + 1) cs.length)) (gu ps.length) (ucell (uof c)) b = some e := by
    intro b e hb n1 n2 n3
    rw [mw_ne (mw_apart hb e0 (n1 _)), mw_ne (mw_apart hb h1 (n3 _ _)), mw_ne (mw_apart hb d0 (n2 _ _ _))]
    exact hb
  have nq : hq ≠ gu ps.length := mw_apart h1 e0 (by simp)
  have ng : g ps.length ≠ gu ps.length := mw_apart d0 e0 (by simp)
  have nqg : g ps.length ≠ hq := mw_apart d0 h1 (by simp)
  have oldg : ∀ i, i < 4 → i ≠ ps.length → ∀ y z, w (g i) = some (kcell (gu i) y z) → mw_up (mw_up (mw_up w (g ps.length) (kcell (gu ps.length) c.1 c.2.1)) hq (qcell hp hn hr (ps.length + 1) cs.length)) (gu ps.length) (ucell (uof c)) (g i) = some (kcell (gu i) y z) := by
    intro i hi hne y z hy
    rw [mw_ne (mw_apart hy e0 (by simp)), mw_ne (mw_apart hy h1 (by simp)), mw_ne (fun q => hne (h10 i _ hi hl q))]
    exact hy
  have oldu : ∀ i, i < 4 → i ≠ ps.length → ∀ u, w (gu i) = some (ucell u) → mw_up (mw_up (mw_up w (g ps.length) (kcell (gu ps.length) c.1 c.2.1)) hq (qcell hp hn hr (ps.length + 1) cs.length)) (gu ps.length) (ucell (uof c)) (gu i) = some (ucell u) := by
    intro i hi hne u hu
    rw [mw_ne (fun q => hne (h11 i _ hi hl q)), mw_ne (mw_apart hu h1 (by simp)), mw_ne (mw_apart hu d0 (by simp))]
    exact hu
  have newg : mw_up (mw_up (mw_up w (g ps.length) (kcell (gu ps.length) c.1 c.2.1)) hq (qcell hp hn hr (ps.length + 1) cs.length)) (gu ps.length) (ucell (uof c)) (g ps.length) = some (kcell (gu ps.length) c.1 c.2.1) := by
    rw [mw_ne ng, mw_ne nqg]; exact mw_self
  refine ⟨by rw [List.length_append, mw_ne nq]; exact mw_self, x1 h2 (by simp) (by simp) (by simp), x1 h3 (by simp) (by simp) (by simp), x1 h4 (by simp) (by simp) (by simp), by rw [List.length_append]; exact hl, h6, fun i hi => ?_, fun i d hi => ?_, h9, h10, h11, h12, h13, h14, h15⟩
  · obtain ⟨a, b, b', y, z, u, d1, d2⟩ := h7 i hi
    by_cases hne : i = ps.length
    · subst hne; exact ⟨a, b, b', _, _, _, newg, mw_self⟩
    · exact ⟨a, b, b', y, z, u, oldg i hi hne y z d1, oldu i hi hne u d2⟩
  · by_cases hlt : i < ps.length
    · rw [List.getElem?_append_left hlt] at hi
      obtain ⟨q1, q2⟩ := h8 i d hi
      exact ⟨oldg i (by omega) (by omega) _ _ q1, oldu i (by omega) (by omega) _ q2⟩
    · have hil := lt_of_get hi
      rw [List.length_append] at hil
      have hn : i = ps.length := by simp at hil; omega
      subst hn
      simp at hi
      rw [← hi]
      exact ⟨newg, mw_self⟩
theorem QAx.rem (h : QAx cA w S hq hp hn hr ps cs f g gu fn fr) {k : Nat} (hk : k < ps.length) : QAx cA (mw_up (mw_up w hq (qcell hp hn hr (ps.length - 1) cs.length)) hp (refs cA 4 4 (rotf f k (ps.length - 1)))) S hq hp hn hr (ps.eraseIdx k) cs (rotf f k (ps.length - 1)) (rotf g k (ps.length - 1)) (rotf gu k (ps.length - 1)) fn fr := by
  obtain ⟨h1, h2, h3, h4, h5, h6, h7, h8, h9, h10, h11, h12, h13, h14, h15⟩ := h
  have x1 : ∀ {b : Nat} {e : va_E}, w b = some e → (∀ f, e ≠ refs cA 4 4 f) → (∀ p q, e ≠ qcell hp hn hr p q) → mw_up (mw_up w hq (qcell hp hn hr (ps.length - 1) cs.length)) hp (refs cA 4 4 (rotf f k (ps.length - 1))) b = some e := by
    intro b e hb n1 n2
    rw [mw_ne (mw_apart hb h2 (n1 _)), mw_ne (mw_apart hb h1 (n2 _ _))]
    exact hb
  have nqp : hq ≠ hp := mw_apart h1 h2 (by simp)
  refine ⟨by rw [List.length_eraseIdx_of_lt hk, mw_ne nqp]; exact mw_self, mw_self, x1 h3 (by simp) (by simp), x1 h4 (by simp) (by simp), by rw [List.length_eraseIdx_of_lt hk]; omega, h6, fun i hi => ?_, fun i c hi => ?_, h9, rot_inj (by omega) (by omega) h10, rot_inj (by omega) (by omega) h11, h12, h13, h14, h15⟩
  · obtain ⟨j, hj, ej⟩ := rot_ix (k := k) (m := ps.length - 1) (by omega) (by omega) hi
    obtain ⟨a, b, b', y, z, u, d1, d2⟩ := h7 j hj
    rw [ej f, ej g, ej gu]
    exact ⟨a, b, b', y, z, u, x1 d1 (by simp) (by simp), x1 d2 (by simp) (by simp)⟩
  · have hil := lt_of_get hi
    rw [List.length_eraseIdx_of_lt hk] at hil
    rw [List.getElem?_eraseIdx] at hi
    by_cases c1 : i < k
    · rw [if_pos c1] at hi
      have e1 : ∀ {α : Type} (f : Nat → α), rotf f k (ps.length - 1) i = f i := fun f => by simp only [rotf]; rw [if_neg (by omega), if_neg (by omega)]
      rw [e1 g, e1 gu]
      exact ⟨x1 (h8 i c hi).1 (by simp) (by simp), x1 (h8 i c hi).2 (by simp) (by simp)⟩
    · rw [if_neg c1] at hi
      have e1 : ∀ {α : Type} (f : Nat → α), rotf f k (ps.length - 1) i = f (i + 1) := fun f => by simp only [rotf]; rw [if_pos (by omega)]
      rw [e1 g, e1 gu]
      exact ⟨x1 (h8 _ c hi).1 (by simp) (by simp), x1 (h8 _ c hi).2 (by simp) (by simp)⟩
theorem QAx.addC (h : QAx cA w S hq hp hn hr ps cs f g gu fn fr) (hl : cs.length < 4) (x : Int32) (y : Int64) : QAx cA (mw_up (mw_up (mw_up w hn (ints cA 4 (upd fn cs.length x))) hr (longs cA 4 (vp_updL fr cs.length y))) hq (qcell hp hn hr ps.length (cs.length + 1))) S hq hp hn hr ps (cs ++ [(x, y)]) f g gu (upd fn cs.length x) (vp_updL fr cs.length y) := by
  obtain ⟨h1, h2, h3, h4, h5, h6, h7, h8, h9, h10, h11, h12, h13, h14, h15⟩ := h
  have x1 : ∀ {b : Nat} {e : va_E}, w b = some e → (∀ f, e ≠ ints cA 4 f) → (∀ f, e ≠ longs cA 4 f) → (∀ p q, e ≠ qcell hp hn hr p q) → mw_up (mw_up (mw_up w hn (ints cA 4 (upd fn cs.length x))) hr (longs cA 4 (vp_updL fr cs.length y))) hq (qcell hp hn hr ps.length (cs.length + 1)) b = some e := by
    intro b e hb n1 n2 n3
    rw [mw_ne (mw_apart hb h1 (n3 _ _)), mw_ne (mw_apart hb h4 (n2 _)), mw_ne (mw_apart hb h3 (n1 _))]
    exact hb
  have nn : hn ≠ hq := mw_apart h3 h1 (by simp)
  have nr : hr ≠ hq := mw_apart h4 h1 (by simp)
  have nnr : hn ≠ hr := mw_apart h3 h4 (by simp)
  refine ⟨by rw [List.length_append]; exact mw_self, x1 h2 (by simp) (by simp) (by simp), by rw [mw_ne nn, mw_ne nnr]; exact mw_self, by rw [mw_ne nr]; exact mw_self, h5, by rw [List.length_append]; exact hl, fun i hi => ?_, fun i c hi => ?_, fun i c hi => ?_, h10, h11, h12, h13, h14, h15⟩
  · obtain ⟨a, b, b', y, z, u, d1, d2⟩ := h7 i hi
    exact ⟨a, b, b', y, z, u, x1 d1 (by simp) (by simp) (by simp), x1 d2 (by simp) (by simp) (by simp)⟩
  · exact ⟨x1 (h8 i c hi).1 (by simp) (by simp) (by simp), x1 (h8 i c hi).2 (by simp) (by simp) (by simp)⟩
  · by_cases hlt : i < cs.length
    · rw [List.getElem?_append_left hlt] at hi
      simp only [upd, vp_updL]
      rw [if_neg (by omega), if_neg (by omega)]
      exact h9 i c hi
    · have hil := lt_of_get hi
      rw [List.length_append] at hil
      have hn : i = cs.length := by simp at hil; omega
      subst hn
      simp at hi
      rw [← hi]
      simp only [upd, vp_updL, if_true]
      exact ⟨trivial, trivial⟩
theorem QAx.popC {c0 : Int32 × Int64} (h : QAx cA w S hq hp hn hr ps (c0 :: cs) f g gu fn fr) : QAx cA (mw_up (mw_up (mw_up w hq (qcell hp hn hr ps.length cs.length)) hn (ints cA 4 (shf fn 0 cs.length))) hr (longs cA 4 (shf fr 0 cs.length))) S hq hp hn hr ps cs f g gu (shf fn 0 cs.length) (shf fr 0 cs.length) := by
  obtain ⟨h1, h2, h3, h4, h5, h6, h7, h8, h9, h10, h11, h12, h13, h14, h15⟩ := h
  have x1 : ∀ {b : Nat} {e : va_E}, w b = some e → (∀ f, e ≠ ints cA 4 f) → (∀ f, e ≠ longs cA 4 f) → (∀ p q, e ≠ qcell hp hn hr p q) → mw_up (mw_up (mw_up w hq (qcell hp hn hr ps.length cs.length)) hn (ints cA 4 (shf fn 0 cs.length))) hr (longs cA 4 (shf fr 0 cs.length)) b = some e := by
    intro b e hb n1 n2 n3
    rw [mw_ne (mw_apart hb h4 (n2 _)), mw_ne (mw_apart hb h3 (n1 _)), mw_ne (mw_apart hb h1 (n3 _ _))]
    exact hb
  have nn : hq ≠ hn := mw_apart h1 h3 (by simp)
  have nr : hq ≠ hr := mw_apart h1 h4 (by simp)
  have nnr : hn ≠ hr := mw_apart h3 h4 (by simp)
  have h6 : cs.length + 1 ≤ 4 := h6
  refine ⟨by rw [mw_ne nr, mw_ne nn]; exact mw_self, x1 h2 (by simp) (by simp) (by simp), by rw [mw_ne nnr]; exact mw_self, mw_self, h5, by omega, fun i hi => ?_, fun i c hi => ?_, fun i c hi => ?_, h10, h11, h12, h13, h14, h15⟩
  · obtain ⟨a, b, b', y, z, u, d1, d2⟩ := h7 i hi
    exact ⟨a, b, b', y, z, u, x1 d1 (by simp) (by simp) (by simp), x1 d2 (by simp) (by simp) (by simp)⟩
  · exact ⟨x1 (h8 i c hi).1 (by simp) (by simp) (by simp), x1 (h8 i c hi).2 (by simp) (by simp) (by simp)⟩
  · have hil := lt_of_get hi
    simp only [shf]
    rw [if_pos (by omega), if_pos (by omega)]
    exact h9 (i + 1) c (by rw [List.getElem?_cons_succ]; exact hi)
theorem QAx.clr (h : QAx cA w S hq hp hn hr ps cs f g gu fn fr) : QAx cA (mw_up w hq (qcell hp hn hr 0 0)) S hq hp hn hr [] [] f g gu fn fr := by
  obtain ⟨h1, h2, h3, h4, h5, h6, h7, h8, h9, h10, h11, h12, h13, h14, h15⟩ := h
  have x1 : ∀ {b : Nat} {e : va_E}, w b = some e → (∀ p q, e ≠ qcell hp hn hr p q) → mw_up w hq (qcell hp hn hr 0 0) b = some e := by
    intro b e hb n3
    rw [mw_ne (mw_apart hb h1 (n3 _ _))]
    exact hb
  refine ⟨mw_self, x1 h2 (by simp), x1 h3 (by simp), x1 h4 (by simp), Nat.zero_le _, Nat.zero_le _, fun i hi => ?_, fun i c hi => by simp at hi, fun i c hi => by simp at hi, h10, h11, h12, h13, h14, h15⟩
  obtain ⟨a, b, b', y, z, u, d1, d2⟩ := h7 i hi
  exact ⟨a, b, b', y, z, u, x1 d1 (by simp), x1 d2 (by simp)⟩
end QAL
theorem CAx.clr {cA : Nat → ClassId} {w : mw} {S : Nat → Prop} {hc hu L : Nat} {us : List uU} {f : Nat → Option Nat} {g : Nat → Nat} (h : CAx cA w S hc hu L us f g) : CAx cA (mw_up w hc (ccell hu 0)) S hc hu L [] f g := by
  obtain ⟨h1, h2, h3, h4, h5, h6, h7, h8, h9⟩ := h
  refine ⟨mw_self, by rw [mw_ne (mw_apart h2 h1 (by simp))]; exact h2, Nat.zero_le _, h4, fun i hi => ?_, fun i u hi => by simp at hi, h7, h8, h9⟩
  obtain ⟨a, b, u, c⟩ := h5 i hi
  exact ⟨a, b, u, by rw [mw_ne (mw_apart c h1 (by simp))]; exact c⟩
theorem DC.put {cA : Nat → ClassId} {w : mw} {S : Nat → Prop} {h0 hf hc hu hq L ln : Nat} {tn : Int32} {tr : Int64} {fl : Nat → Int64} {us : List uU} {st pw pl : Nat} (h : DC cA w S h0 hf hc hu hq L ln tn tr (fl, us, st, pw, pl)) (ln' : Nat) (tn' : Int32) (tr' : Int64) (pl' : Nat) : DC cA (mw_up w h0 (dcell hf hc hq ln' tn' tr' st pw pl')) S h0 hf hc hu hq L ln' tn' tr' (fl, us, st, pw, pl') := by
  obtain ⟨h1, h2, h3, h4, h5, h6⟩ := h
  exact ⟨mw_self, by rw [mw_ne (mw_apart h2 h1 (by simp))]; exact h2, h3.frame (fun x hx => mw_ne (fun z => h4 (by rw [← z]; exact hx))), h4, h5, h6⟩
def carA (L kd : Nat) (u : uU) (κ : kS) : Int64 × kS :=
  if kd = 0 then (sumH κ.1 κ.2.1 (fsU u) (lnU u), κ) else if kd = 1 ∨ kd = 4 then (0, cacA L u κ) else if kd = 2 then (0, forA u κ) else if kd = 3 then ((nI κ.2.1.length).toInt64, (empK κ).2) else ((misH κ.1 κ.2.1 u (fsU u) (lnU u)).toInt64, κ)
theorem d_D_carryOut_0 : decode b_D_carryOut 0 = .ok (.aload_n 0, 1) := by decide +kernel
theorem d_D_carryOut_1 : decode b_D_carryOut 1 = .ok (.iload_n 2, 1) := by decide +kernel
theorem d_D_carryOut_2 : decode b_D_carryOut 2 = .ok (.putfield 119, 3) := by decide +kernel
theorem d_D_carryOut_5 : decode b_D_carryOut 5 = .ok (.aload_n 1, 1) := by decide +kernel
theorem d_D_carryOut_6 : decode b_D_carryOut 6 = .ok (.getfield 155, 3) := by decide +kernel
theorem d_D_carryOut_9 : decode b_D_carryOut 9 = .ok (.tableswitch 84 0 5 #[39, 48, 58, 68, 48, 74], 39) := by decide +kernel
theorem d_D_carryOut_48 : decode b_D_carryOut 48 = .ok (.aload_n 0, 1) := by decide +kernel
theorem d_D_carryOut_49 : decode b_D_carryOut 49 = .ok (.aload_n 1, 1) := by decide +kernel
theorem d_D_carryOut_50 : decode b_D_carryOut 50 = .ok (.getfield 63, 3) := by decide +kernel
theorem d_D_carryOut_53 : decode b_D_carryOut 53 = .ok (.invokevirtual 158, 3) := by decide +kernel
theorem d_D_carryOut_56 : decode b_D_carryOut 56 = .ok (.lreturn, 1) := by decide +kernel
theorem d_D_carryOut_57 : decode b_D_carryOut 57 = .ok (.aload_n 0, 1) := by decide +kernel
theorem d_D_carryOut_58 : decode b_D_carryOut 58 = .ok (.aload_n 1, 1) := by decide +kernel
theorem d_D_carryOut_59 : decode b_D_carryOut 59 = .ok (.getfield 63, 3) := by decide +kernel
theorem d_D_carryOut_62 : decode b_D_carryOut 62 = .ok (.invokevirtual 162, 3) := by decide +kernel
theorem d_D_carryOut_65 : decode b_D_carryOut 65 = .ok (.lconst 0, 1) := by decide +kernel
theorem d_D_carryOut_66 : decode b_D_carryOut 66 = .ok (.lreturn, 1) := by decide +kernel
theorem d_D_carryOut_67 : decode b_D_carryOut 67 = .ok (.aload_n 0, 1) := by decide +kernel
theorem d_D_carryOut_68 : decode b_D_carryOut 68 = .ok (.aload_n 1, 1) := by decide +kernel
theorem d_D_carryOut_69 : decode b_D_carryOut 69 = .ok (.getfield 63, 3) := by decide +kernel
theorem d_D_carryOut_72 : decode b_D_carryOut 72 = .ok (.invokevirtual 166, 3) := by decide +kernel
theorem d_D_carryOut_75 : decode b_D_carryOut 75 = .ok (.lconst 0, 1) := by decide +kernel
theorem d_D_carryOut_76 : decode b_D_carryOut 76 = .ok (.lreturn, 1) := by decide +kernel
theorem d_D_carryOut_77 : decode b_D_carryOut 77 = .ok (.aload_n 0, 1) := by decide +kernel
theorem d_D_carryOut_78 : decode b_D_carryOut 78 = .ok (.invokevirtual 169, 3) := by decide +kernel
theorem d_D_carryOut_81 : decode b_D_carryOut 81 = .ok (.i2l, 1) := by decide +kernel
theorem d_D_carryOut_82 : decode b_D_carryOut 82 = .ok (.lreturn, 1) := by decide +kernel
theorem d_D_carryOut_83 : decode b_D_carryOut 83 = .ok (.aload_n 0, 1) := by decide +kernel
theorem d_D_carryOut_84 : decode b_D_carryOut 84 = .ok (.aload_n 1, 1) := by decide +kernel
theorem d_D_carryOut_85 : decode b_D_carryOut 85 = .ok (.getfield 63, 3) := by decide +kernel
theorem d_D_carryOut_88 : decode b_D_carryOut 88 = .ok (.invokevirtual 172, 3) := by decide +kernel
theorem d_D_carryOut_91 : decode b_D_carryOut 91 = .ok (.i2l, 1) := by decide +kernel
theorem d_D_carryOut_92 : decode b_D_carryOut 92 = .ok (.lreturn, 1) := by decide +kernel
theorem d_D_carryOut_93 : decode b_D_carryOut 93 = .ok (.ldc2_w 13, 3) := by decide +kernel
theorem d_D_carryOut_96 : decode b_D_carryOut 96 = .ok (.lreturn, 1) := by decide +kernel
set_option maxHeartbeats 4000000 in
set_option maxRecDepth 100000 in
theorem m_D_carryOut {l : Launch} {D : va_G} {cA : Nat → ClassId} {n0 : Nat} {w : mw} {S : Nat → Prop} {h0 hf hc hu hq L ln : Nat} {tn : Int32} {tr : Int64} {fl : Nat → Int64} {us : List uU} {st pw pl : Nat} (K : DC cA w S h0 hf hc hu hq L ln tn tr (fl, us, st, pw, pl)) (hL1 : 1 ≤ L) {a b kd pg : Nat} {y : Int32} {u : uU} (ha : w a = some (kcell b y (nI kd))) (hB : w b = some (ucell u)) (hkd : kd ≤ 5) (hV : kd ≠ 3 → vU u) (hnb : ¬ PP S h0 hf b) (hpg : pg < 1000) {x : Int32} (hx1 : x = nI pg) :
    Ml l D cA n0 y_D_carryOut c_D_carryOut (rmd 5) [.ref h0, .ref a, .int x] w (fun r w' => r = (carA L kd u (fl, us, st, pw, pg)).1 ∧ DC cA w' S h0 hf hc hu hq L ln tn tr (carA L kd u (fl, us, st, pw, pg)).2 ∧ FR w w' (PP S h0 hf)) := by
  refine mw_met (cc := b_D_carryOut) (maxL := 3) (ret := (some .long)) (by decide) rfl (Nat.le_of_ble_eq_true rfl) ?_
  intro p e s m below meth c ls G hrt hlocks hname h hl
  have G : mw_G p m c b_D_carryOut 3 s _ (c_D_carryOut :: TB) R_D D cl (tys cA) n0 := G
  have hx := G.1.1
  have hb := G.1.2.1
  have hl : lv_has ls 3 [(0, .ref h0), (1, .ref a), (2, .int x)] := hl
  obtain ⟨hD, hF, ⟨f, g, hC, hU, hlen, hL, hg, hus, hinj, hSc, hSu⟩, hS0, hSf, hv⟩ := id K
  have hD : w h0 = some (dcell hf hc hq ln tn tr st pw pl) := hD
  have hF : w hf = some (longs cA 24 fl) := hF
  have hC : w hc = some (ccell hu us.length) := hC
  have hlen : us.length ≤ L := hlen
  subst hx1
  refine lv_aload_n hx hb d_D_carryOut_0 rfl (lv_at hl 0 rfl) ?_
  refine lv_iload_n hx hb d_D_carryOut_1 rfl (lv_at hl 2 rfl) ?_
  refine mx_put G h hD rfl 8 (by decide) (tb_in in_D) t_D t_D_ok n_D (tb_c k_125) rfl rfl rfl rfl rfl (Nat.le_of_ble_eq_true rfl) d_D_carryOut_2 (fun H locs h => ?_)
  have h : mw_H n0 D cl s (mw_up w h0 (.inr (0, [.ref hf, .ref hc, .ref hq, .int (nI ln), .int tn, .long tr, .int (nI st), .int (nI pw), .int (nI pg)]))) H locs := h
  obtain ⟨w_1, ew_1⟩ : ∃ xx : mw, mw_up w h0 (.inr (0, [.ref hf, .ref hc, .ref hq, .int (nI ln), .int tn, .long tr, .int (nI st), .int (nI pw), .int (nI pg)])) = xx := ⟨_, rfl⟩
  rw [ew_1] at h
  have f_2 : w_1 hf = some (longs cA 24 fl) := by rw [← ew_1, mw_ne (mw_apart hF hD (by simp))]; exact hF
  have f_3 : w_1 hc = some (ccell hu us.length) := by rw [← ew_1, mw_ne (mw_apart hC hD (by simp))]; exact hC
  have f_4 : w_1 hu = some (refs cA 3 L f) := by rw [← ew_1, mw_ne (mw_apart hU hD (by simp))]; exact hU
  have f_5 : w_1 a = some (kcell b y (nI kd)) := by rw [← ew_1, mw_ne (mw_apart ha hD (by simp))]; exact ha
  have f_6 : w_1 b = some (ucell u) := by rw [← ew_1, mw_ne (mw_apart hB hD (by simp))]; exact hB
  have f_7 : w_1 h0 = some (.inr (0, [.ref hf, .ref hc, .ref hq, .int (nI ln), .int tn, .long tr, .int (nI st), .int (nI pw), .int (nI pg)])) := by rw [← ew_1]; exact mw_self
  refine lv_aload_n hx hb d_D_carryOut_5 rfl (lv_at hl 1 rfl) ?_
  refine mx_get G h f_5 rfl 2 (by decide) (tb_in in_K) (tb_c k_87) rfl rfl d_D_carryOut_6 ?_
  have K1 : DC cA w_1 S h0 hf hc hu hq L ln tn tr (fl, us, st, pw, pg) := by rw [← ew_1]; exact K.put ln tn tr pg
  have hf0 : FR w w_1 (PP S h0 hf) := by rw [← ew_1]; exact FR.up (Or.inl rfl)
  rcases (show kd = 0 ∨ kd = 1 ∨ kd = 2 ∨ kd = 3 ∨ kd = 4 ∨ kd = 5 by omega) with rfl | rfl | rfl | rfl | rfl | rfl
  · refine lv_tableIn (tgt := 48) hx hb d_D_carryOut_9 (by decide) (by decide) rfl (by decide) ?_
    refine lv_aload_n hx hb d_D_carryOut_48 rfl (lv_at hl 0 rfl) ?_
    refine lv_aload_n hx hb d_D_carryOut_49 rfl (lv_at hl 1 rfl) ?_
    refine mx_get G h f_5 rfl 0 (by decide) (tb_in in_K) (tb_c k_83) rfl rfl d_D_carryOut_50 ?_
    refine mx_cl (cV (As := [.ref b]) (rest := []) G h (m_D_sumOfHeld K1 f_6 (hV (by decide))) k_179 k_181 ks_2 k_1 k_182 hd_D_sumOfHeld rfl rfl ⟨Nat.le_of_ble_eq_true rfl, Nat.le_of_ble_eq_true rfl⟩ f_7 rfl rfl hl.1 rfl (Nat.le_of_ble_eq_true rfl) d_D_carryOut_53 ⟨Nat.le_of_ble_eq_true rfl, Nat.le_of_ble_eq_true rfl⟩) h (fun r_9 w_8 H locs h hcp => ?_)
    obtain ⟨er_10, ew_11⟩ := hcp
    subst er_10
    rw [ew_11] at h
    exact mx_retl G h hrt hlocks d_D_carryOut_56 (⟨rfl, K1, hf0⟩)
  · refine lv_tableIn (tgt := 57) hx hb d_D_carryOut_9 (by decide) (by decide) rfl (by decide) ?_
    refine lv_aload_n hx hb d_D_carryOut_57 rfl (lv_at hl 0 rfl) ?_
    refine lv_aload_n hx hb d_D_carryOut_58 rfl (lv_at hl 1 rfl) ?_
    refine mx_get G h f_5 rfl 0 (by decide) (tb_in in_K) (tb_c k_83) rfl rfl d_D_carryOut_59 ?_
    refine mx_cv (cV (As := [.ref b]) (rest := []) G h (m_D_cacheUnit K1 hpg hL1 f_6 (hV (by decide)) hnb) k_196 k_198 ks_4 k_1 k_199 hd_D_cacheUnit rfl rfl ⟨Nat.le_of_ble_eq_true rfl, Nat.le_of_ble_eq_true rfl⟩ f_7 rfl rfl hl.1 rfl (Nat.le_of_ble_eq_true rfl) d_D_carryOut_62 ⟨Nat.le_of_ble_eq_true rfl, Nat.le_of_ble_eq_true rfl⟩) h (fun w_12 H locs h hcp => ?_)
    obtain ⟨K2, hf2⟩ := hcp
    refine lv_lconst (v := 0) hx hb d_D_carryOut_65 (by decide) ?_
    exact mx_retl G h hrt hlocks d_D_carryOut_66 (⟨rfl, K2, hf0.tr hf2⟩)
  · refine lv_tableIn (tgt := 67) hx hb d_D_carryOut_9 (by decide) (by decide) rfl (by decide) ?_
    refine lv_aload_n hx hb d_D_carryOut_67 rfl (lv_at hl 0 rfl) ?_
    refine lv_aload_n hx hb d_D_carryOut_68 rfl (lv_at hl 1 rfl) ?_
    refine mx_get G h f_5 rfl 0 (by decide) (tb_in in_K) (tb_c k_83) rfl rfl d_D_carryOut_69 ?_
    refine mx_cv (cV (As := [.ref b]) (rest := []) G h (m_D_force K1 hpg f_6 (hV (by decide)) hnb) k_222 k_224 ks_7 k_1 k_225 hd_D_force rfl rfl ⟨Nat.le_of_ble_eq_true rfl, Nat.le_of_ble_eq_true rfl⟩ f_7 rfl rfl hl.1 rfl (Nat.le_of_ble_eq_true rfl) d_D_carryOut_72 ⟨Nat.le_of_ble_eq_true rfl, Nat.le_of_ble_eq_true rfl⟩) h (fun w_13 H locs h hcp => ?_)
    obtain ⟨K2, hf2⟩ := hcp
    refine lv_lconst (v := 0) hx hb d_D_carryOut_75 (by decide) ?_
    exact mx_retl G h hrt hlocks d_D_carryOut_76 (⟨rfl, K2, hf0.tr hf2⟩)
  · refine lv_tableIn (tgt := 77) hx hb d_D_carryOut_9 (by decide) (by decide) rfl (by decide) ?_
    refine lv_aload_n hx hb d_D_carryOut_77 rfl (lv_at hl 0 rfl) ?_
    refine mx_ci (cV (As := []) (rest := []) G h (m_D_flush K1 hpg) k_230 k_232 ks_9 k_1 k_233 hd_D_flush rfl rfl ⟨Nat.le_of_ble_eq_true rfl, Nat.le_of_ble_eq_true rfl⟩ f_7 rfl rfl hl.1 rfl (Nat.le_of_ble_eq_true rfl) d_D_carryOut_78 ⟨Nat.le_of_ble_eq_true rfl, Nat.le_of_ble_eq_true rfl⟩) h (fun r_15 w_14 H locs h hcp => ?_)
    obtain ⟨er, K2, hf2⟩ := hcp
    subst er
    refine lv_i2l hx hb d_D_carryOut_81 rfl ?_
    exact mx_retl G h hrt hlocks d_D_carryOut_82 (⟨rfl, K2, hf0.tr hf2⟩)
  · refine lv_tableIn (tgt := 57) hx hb d_D_carryOut_9 (by decide) (by decide) rfl (by decide) ?_
    refine lv_aload_n hx hb d_D_carryOut_57 rfl (lv_at hl 0 rfl) ?_
    refine lv_aload_n hx hb d_D_carryOut_58 rfl (lv_at hl 1 rfl) ?_
    refine mx_get G h f_5 rfl 0 (by decide) (tb_in in_K) (tb_c k_83) rfl rfl d_D_carryOut_59 ?_
    refine mx_cv (cV (As := [.ref b]) (rest := []) G h (m_D_cacheUnit K1 hpg hL1 f_6 (hV (by decide)) hnb) k_196 k_198 ks_4 k_1 k_199 hd_D_cacheUnit rfl rfl ⟨Nat.le_of_ble_eq_true rfl, Nat.le_of_ble_eq_true rfl⟩ f_7 rfl rfl hl.1 rfl (Nat.le_of_ble_eq_true rfl) d_D_carryOut_62 ⟨Nat.le_of_ble_eq_true rfl, Nat.le_of_ble_eq_true rfl⟩) h (fun w_16 H locs h hcp => ?_)
    obtain ⟨K2, hf2⟩ := hcp
    refine lv_lconst (v := 0) hx hb d_D_carryOut_65 (by decide) ?_
    exact mx_retl G h hrt hlocks d_D_carryOut_66 (⟨rfl, K2, hf0.tr hf2⟩)
  · refine lv_tableIn (tgt := 83) hx hb d_D_carryOut_9 (by decide) (by decide) rfl (by decide) ?_
    refine lv_aload_n hx hb d_D_carryOut_83 rfl (lv_at hl 0 rfl) ?_
    refine lv_aload_n hx hb d_D_carryOut_84 rfl (lv_at hl 1 rfl) ?_
    refine mx_get G h f_5 rfl 0 (by decide) (tb_in in_K) (tb_c k_83) rfl rfl d_D_carryOut_85 ?_
    refine mx_ci (cV (As := [.ref b]) (rest := []) G h (m_D_mismatches K1 f_6 (hV (by decide))) k_234 k_236 ks_10 k_1 k_237 hd_D_mismatches rfl rfl ⟨Nat.le_of_ble_eq_true rfl, Nat.le_of_ble_eq_true rfl⟩ f_7 rfl rfl hl.1 rfl (Nat.le_of_ble_eq_true rfl) d_D_carryOut_88 ⟨Nat.le_of_ble_eq_true rfl, Nat.le_of_ble_eq_true rfl⟩) h (fun r_18 w_17 H locs h hcp => ?_)
    obtain ⟨er_19, ew_20⟩ := hcp
    subst er_19
    rw [ew_20] at h
    refine lv_i2l hx hb d_D_carryOut_91 rfl ?_
    exact mx_retl G h hrt hlocks d_D_carryOut_92 (⟨rfl, K1, hf0⟩)
