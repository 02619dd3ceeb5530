/-! MAP WORLDS: the world of a method is ONE partial map from addresses to cells, all of them from n0 on (n0: the heap's size as the law begins). A contract gives the new map; what it does not name stays, by the map itself: no join, no frame. The rows below are the kit's rows, said of maps. -/
abbrev mw : Type := Nat → Option va_E
def mw_up (w : mw) (a : Nat) (e : va_E) : mw := fun b => if b = a then some e else w b
theorem mw_self {w : mw} {a : Nat} {e : va_E} : mw_up w a e a = some e := by simp [mw_up]
theorem mw_ne {w : mw} {a b : Nat} {e : va_E} (h : b ≠ a) : mw_up w a e b = w b := by simp [mw_up, h]
theorem mw_uu {w : mw} {a : Nat} {e e' : va_E} : mw_up (mw_up w a e) a e' = mw_up w a e' := by
  funext b
  by_cases h : b = a <;> simp [mw_up, h]
theorem mw_id {w : mw} {a : Nat} {e : va_E} (h : w a = some e) : mw_up w a e = w := by
  funext b
  by_cases hb : b = a
  · subst hb; simp [mw_up, h]
  · simp [mw_up, hb]
/-- two addresses that hold different things are different -/
theorem mw_apart {w : mw} {a b : Nat} {e f : va_E} (ha : w a = some e) (hb : w b = some f) (h : e ≠ f) : a ≠ b := by
  intro z
  subst z
  rw [ha] at hb
  exact h (Option.some.inj hb)
def mw_M (n0 : Nat) (D : va_G) (cl : List vw_C) (w : mw) (H : Heap) : Prop := ∀ (a : Nat) (e : va_E), w a = some e → n0 ≤ a ∧ va_at D cl (a, e) H
abbrev mw_A (n0 : Nat) : Nat → Prop := fun q => n0 ≤ q
def mw_L (w : mw) (n : Nat) : va_W := (List.range n).filterMap (fun a => (w a).map (fun e => (a, e)))
theorem mw_mem {w : mw} {n : Nat} {q : Nat × va_E} : q ∈ mw_L w n ↔ q.1 < n ∧ w q.1 = some q.2 := by
  unfold mw_L
  rw [List.mem_filterMap]
  constructor
  · rintro ⟨a, ha, hq⟩
    rw [List.mem_range] at ha
    cases hw : w a with
    | none => rw [hw] at hq; cases hq
    | some e =>
      rw [hw] at hq
      cases hq
      exact ⟨ha, hw⟩
  · rintro ⟨h1, h2⟩
    refine ⟨q.1, List.mem_range.mpr h1, ?_⟩
    rw [h2]
    rfl
theorem mw_sorted (w : mw) (n : Nat) : (mw_L w n).Pairwise (fun p q => p.1 < q.1) := by
  unfold mw_L
  refine List.Pairwise.filterMap (R := fun a b => a < b) _ ?_ List.pairwise_lt_range
  intro a a' haa b hb b' hb'
  have e1 : b.1 = a := by
    cases hw : w a with
    | none => rw [hw] at hb; cases hb
    | some x => rw [hw] at hb; cases hb; rfl
  have e2 : b'.1 = a' := by
    cases hw : w a' with
    | none => rw [hw] at hb'; cases hb'
    | some x => rw [hw] at hb'; cases hb'; rfl
  rw [e1, e2]
  exact haa
theorem mw_inj {w : mw} {n i j : Nat} {p q : Nat × va_E} (hi : (mw_L w n)[i]? = some p) (hj : (mw_L w n)[j]? = some q) (h : p.1 = q.1) : i = j := by
  have hs := List.pairwise_iff_getElem.mp (mw_sorted w n)
  obtain ⟨li, ei⟩ := List.getElem?_eq_some_iff.mp hi
  obtain ⟨lj, ej⟩ := List.getElem?_eq_some_iff.mp hj
  rcases Nat.lt_trichotomy i j with hlt | heq | hgt
  · have := hs i j li lj hlt
    rw [ei, ej] at this
    omega
  · exact heq
  · have := hs j i lj li hgt
    rw [ei, ej] at this
    omega
theorem mw_P {n0 : Nat} {D : va_G} {cl : List vw_C} {w : mw} {H : Heap} (h : mw_M n0 D cl w H) : va_P D cl (mw_L w H.size) H := fun _ q hk => (h q.1 q.2 (mw_mem.mp (List.mem_of_getElem? hk)).2).2
theorem mw_D {n0 : Nat} {D : va_G} {cl : List vw_C} {w : mw} {H : Heap} (h : mw_M n0 D cl w H) : va_D (mw_A n0) (mw_L w H.size) := ⟨fun _ _ _ _ hi hj e => mw_inj hi hj e, fun _ q hk => (h q.1 q.2 (mw_mem.mp (List.mem_of_getElem? hk)).2).1⟩
theorem mw_in {n0 : Nat} {D : va_G} {cl : List vw_C} {w : mw} {H : Heap} (h : mw_M n0 D cl w H) {a : Nat} {e : va_E} (ha : w a = some e) : ∃ k : Nat, (mw_L w H.size)[k]? = some (a, e) := List.getElem?_of_mem (mw_mem.mpr ⟨(h a e ha).2.lt, ha⟩)
theorem mw_set {n0 : Nat} {D : va_G} {cl : List vw_C} {w : mw} {H H1 : Heap} {k a : Nat} {e0 e : va_E} (h : mw_M n0 D cl w H) (hk : (mw_L w H.size)[k]? = some (a, e0)) (hP1 : va_P D cl ((mw_L w H.size).set k (a, e)) H1) : mw_M n0 D cl (mw_up w a e) H1 := by
  have hlt := (List.getElem?_eq_some_iff.mp hk).1
  intro b e' hb
  by_cases hba : b = a
  · subst hba
    rw [mw_self] at hb
    cases hb
    exact ⟨(h b e0 (mw_mem.mp (List.mem_of_getElem? hk)).2).1, hP1 k (b, e) (List.getElem?_set_self hlt)⟩
  · rw [mw_ne hba] at hb
    obtain ⟨k', hk'⟩ := mw_in h hb
    have hne : k ≠ k' := by
      intro z
      subst z
      rw [hk] at hk'
      cases hk'
      exact hba rfl
    exact ⟨(h b e' hb).1, hP1 k' (b, e') (by rw [List.getElem?_set_ne hne]; exact hk')⟩
theorem mw_push {n0 : Nat} {D : va_G} {cl : List vw_C} {w : mw} {H H1 : Heap} {q : Nat} {e : va_E} (h : mw_M n0 D cl w H) (hP1 : va_P D cl (mw_L w H.size ++ [(q, e)]) H1) (hD1 : va_D (mw_A n0) (mw_L w H.size ++ [(q, e)])) : mw_M n0 D cl (mw_up w q e) H1 ∧ w q = none := by
  have hl : (mw_L w H.size ++ [(q, e)])[(mw_L w H.size).length]? = some (q, e) := by simp
  have hin : ∀ (b : Nat) (e' : va_E), w b = some e' → ∃ k : Nat, k < (mw_L w H.size).length ∧ (mw_L w H.size ++ [(q, e)])[k]? = some (b, e') := by
    intro b e' hb
    obtain ⟨k, hk⟩ := mw_in h hb
    have hlt := (List.getElem?_eq_some_iff.mp hk).1
    exact ⟨k, hlt, by rw [List.getElem?_append_left hlt]; exact hk⟩
  refine ⟨fun b e' hb => ?_, ?_⟩
  · by_cases hbq : b = q
    · subst hbq
      rw [mw_self] at hb
      cases hb
      exact ⟨hD1.2 _ _ hl, hP1 _ _ hl⟩
    · rw [mw_ne hbq] at hb
      obtain ⟨k, -, hk⟩ := hin b e' hb
      exact ⟨(h b e' hb).1, hP1 _ _ hk⟩
  · cases hw : w q with
    | none => rfl
    | some e0 =>
      obtain ⟨k, hlt, hk⟩ := hin q e0 hw
      have := hD1.1 k _ (q, e0) (q, e) hk hl rfl
      omega
/-- a method's frame, code, tables; the classes and array classes; n0 -/
def mw_G (p : Program) (m : MethodId) (c : Code) (cc : ByteArray) (nL : Nat) (s : State) (args : Array Value) (Ts : List Cond) (own : String) (D : va_G) (cl : List vw_C) (tys : List (ClassId × FieldType)) (n0 : Nat) : Prop := CallFix p m c cc nL s args Ts own ∧ (va_K D cl tys s ∧ mw_X s) ∧ n0 ≤ s.heap.size
/-- the heap holds the map, and nothing below n0 has changed since the method began -/
def mw_H (n0 : Nat) (D : va_G) (cl : List vw_C) (s : State) (w : mw) (H : Heap) (locs : List Loc) : Prop := mw_M n0 D cl w H ∧ va_S (mw_A n0) s.heap H locs
/-- a contract's start -/
def mw_Pc (n0 : Nat) (D : va_G) (cl : List vw_C) (tys : List (ClassId × FieldType)) (av : List Value) (w : mw) : Array Value → State → Prop := va_Pc av (fun U => n0 ≤ U.heap.size ∧ mw_M n0 D cl w U.heap ∧ (va_K D cl tys U ∧ mw_X U))
abbrev mw_B (n0 : Nat) (D : va_G) (cl : List vw_C) : mw → State → Prop := fun w t => mw_M n0 D cl w t.heap
abbrev mw_Qi (n0 : Nat) (D : va_G) (cl : List vw_C) (post : Int32 → mw → Prop) := va_Qi post (mw_B n0 D cl) (mw_A n0)
abbrev mw_Ql (n0 : Nat) (D : va_G) (cl : List vw_C) (post : Int64 → mw → Prop) := va_Ql post (mw_B n0 D cl) (mw_A n0)
abbrev mw_Qv (n0 : Nat) (D : va_G) (cl : List vw_C) (post : mw → Prop) := va_Qv post (mw_B n0 D cl) (mw_A n0)
abbrev mw_Qr (n0 : Nat) (D : va_G) (cl : List vw_C) (post : Nat → mw → Prop) := va_Qr (S := Nat × mw) (fun u => post u.1 u.2) (fun u a t => a = u.1 ∧ mw_M n0 D cl u.2 t.heap) (mw_A n0)
theorem mw_blind {n0 : Nat} {D : va_G} {cl : List vw_C} {tys : List (ClassId × FieldType)} {av : List Value} {w : mw} : FrameBlind (mw_Pc n0 D cl tys av w) := fun a U g mk q => by
  obtain ⟨q0, q1, qP, qK⟩ := q
  exact ⟨q0, q1, qP, va_K.moved (u := U) (U := U.calling g mk a) (Vm.Alike.refl U.vm) qK.1, mw_X_same (u := U) (U := U.calling g mk a) rfl qK.2⟩
section MWR
variable {p : Program} {l : Launch} {e : Env} {R : Room} {s : State} {m : MethodId} {args : Array Value} {below : List Frame} {meth : Method} {c : Code} {H : Heap} {locs : List Loc} {cells slots : Nat} {Q : State → Prop}
variable {cc : ByteArray} {pc : Nat} {ls : Array Slot} {rest : List Value} {D : va_G} {cl : List vw_C} {a : Nat} {tys : List (ClassId × FieldType)} {w : mw} {n0 nL : Nat} {Ts : List Cond} {own : String}
theorem mw_pre (G : mw_G p m c cc nL s args Ts own D cl tys n0) (h : mw_H n0 D cl s w H locs) {av : List Value} : ∀ U : State, U.heap = H → s.WarmedH U.vm → mw_Pc n0 D cl tys av w av.toArray U := fun U hU hW => ⟨rfl, by rw [hU]; exact Nat.le_trans G.2.2 h.2.1, by rw [hU]; exact h.1, va_K.moved hW.alike G.2.1.1, mw_X_warm hW G.2.1.2⟩
theorem mx_get (G : mw_G p m c cc nL s args Ts own D cl tys n0) (h : mw_H n0 D cl s w H locs) {ref C : String} {T : u_T} {N ci index : Nat} {fs : List Value} {v : Value} (ha : w a = some (.inr (ci, fs))) (hc : cl[ci]? = some (C, T, N)) (k : Nat) (hk : k < N) (hin : ∀ x ∈ u_ws C T N, x ∈ Ts) (hlink : Cond.fieldLink own index ref (T k).2.1 (T k).2.2.1 ∈ Ts) (href : (T k).1 = ref) (hv : fs[k]? = some v) (hdg : decode cc pc = .ok (.getfield index, 3))
    (kk : W p l e R s m args below meth c H locs cells slots Q (F0 m (pc + 3) ls (v :: rest))) : W p l e R s m args below meth c H locs cells slots Q (F0 m pc ls (.ref a :: rest)) := by
  obtain ⟨⟨hx, hb, -, hown, hts⟩, ⟨hK, -⟩, -⟩ := G
  obtain ⟨q0, he⟩ := mw_in h.1 ha
  subst href
  exact va_get hx hb hts hin hown hK (mw_P h.1) q0 he hc k hk (hts _ hlink) (fun _ z => z) hv hdg kk
theorem mx_put (G : mw_G p m c cc nL s args Ts own D cl tys n0) (h : mw_H n0 D cl s w H locs) {ref C : String} {T : u_T} {N ci index : Nat} {fs : List Value} {v : Value} (ha : w a = some (.inr (ci, fs))) (hc : cl[ci]? = some (C, T, N)) (k : Nat) (hk : k < N) (hin : ∀ x ∈ u_ws C T N, x ∈ Ts) (ty0 : Nat → FieldType) (hty : ∀ k, k < N → parseFieldDescriptor (T k).2.2.1 = some (ty0 k)) (hnm : ∀ a, a < N → ∀ b, b < N → a ≠ b → (T a).2.1 ≠ (T b).2.1) (hlink : Cond.fieldLink own index ref (T k).2.1 (T k).2.2.1 ∈ Ts) (href : (T k).1 = ref) (hfin : (T k).2.2.2 = false) {ty : FieldType} (hd : ty0 k = ty) (hn : narrow ty v = v) (hfit : fits ty v = true) (hl : k < fs.length) (hdg : decode cc pc = .ok (.putfield index, 3))
    (kk : ∀ (H1 : Heap) (locs1 : List Loc), mw_H n0 D cl s (mw_up w a (.inr (ci, fs.set k v))) H1 locs1 → W p l e R s m args below meth c H1 locs1 cells slots Q (F0 m (pc + 3) ls rest)) : W p l e R s m args below meth c H locs cells slots Q (F0 m pc ls (v :: .ref a :: rest)) := by
  obtain ⟨⟨hx, hb, -, hown, hts⟩, ⟨hK, -⟩, -⟩ := G
  obtain ⟨q0, he⟩ := mw_in h.1 ha
  subst href
  exact va_put hx hb hts hin ty0 hty hnm hown hK (mw_P h.1) (mw_D h.1) h.2 q0 he hc k hk (hts _ hlink) (fun _ z => z) hfin (by rw [hty k hk, hd]) hn hfit hl hdg (fun H1 locs1 hP1 _ hS1 => kk H1 locs1 ⟨mw_set h.1 he hP1, hS1⟩)
theorem mx_putF (G : mw_G p m c cc nL s args Ts own D cl tys n0) (h : mw_H n0 D cl s w H locs) (hin2 : meth.name = "<init>") {ref C : String} {T : u_T} {N ci index : Nat} {fs : List Value} {v : Value} (ha : w a = some (.inr (ci, fs))) (hc : cl[ci]? = some (C, T, N)) (k : Nat) (hk : k < N) (hin : ∀ x ∈ u_ws C T N, x ∈ Ts) (ty0 : Nat → FieldType) (hty : ∀ k, k < N → parseFieldDescriptor (T k).2.2.1 = some (ty0 k)) (hnm : ∀ a, a < N → ∀ b, b < N → a ≠ b → (T a).2.1 ≠ (T b).2.1) (hlink : Cond.fieldLink own index ref (T k).2.1 (T k).2.2.1 ∈ Ts) (href : (T k).1 = ref) (hdecl : (T k).1 = own) (hfin : (T k).2.2.2 = true) {ty : FieldType} (hd : ty0 k = ty) (hn : narrow ty v = v) (hfit : fits ty v = true) (hl : k < fs.length) (hdg : decode cc pc = .ok (.putfield index, 3))
    (kk : ∀ (H1 : Heap) (locs1 : List Loc), mw_H n0 D cl s (mw_up w a (.inr (ci, fs.set k v))) H1 locs1 → W p l e R s m args below meth c H1 locs1 cells slots Q (F0 m (pc + 3) ls rest)) : W p l e R s m args below meth c H locs cells slots Q (F0 m pc ls (v :: .ref a :: rest)) := by
  obtain ⟨⟨hx, hb, -, hown, hts⟩, ⟨hK, -⟩, -⟩ := G
  obtain ⟨q0, he⟩ := mw_in h.1 ha
  subst href
  exact va_putF hx hb hts hin ty0 hty hnm hown hK (mw_P h.1) (mw_D h.1) h.2 q0 he hc k hk (hts _ hlink) (fun _ z => z) hfin hin2 hdecl (by rw [hty k hk, hd]) hn hfit hl hdg (fun H1 locs1 hP1 _ hS1 => kk H1 locs1 ⟨mw_set h.1 he hP1, hS1⟩)
theorem mx_iald (G : mw_G p m c cc nL s args Ts own D cl tys n0) (h : mw_H n0 D cl s w H locs) (t0 : Nat) {cA : ClassId} {n : Nat} {f : Nat → Int32} (ha : w a = some (.inl (cA, n, .inl f))) (ht : tys[t0]? = some (cA, .int)) {i : Int32} (hin : vp_in i n) (hdg : decode cc pc = .ok (.iaload, 1))
    (kk : W p l e R s m args below meth c H locs cells slots Q (F0 m (pc + 1) ls (.int (f i.toNatClampNeg) :: rest))) : W p l e R s m args below meth c H locs cells slots Q (F0 m pc ls (.int i :: .ref a :: rest)) := by
  obtain ⟨q0, he⟩ := mw_in h.1 ha
  exact va_iald G.1.1 G.1.2.1 G.2.1.1 (mw_P h.1) q0 t0 he ht hin hdg kk
theorem mx_zald (G : mw_G p m c cc nL s args Ts own D cl tys n0) (h : mw_H n0 D cl s w H locs) (t0 : Nat) {cA : ClassId} {n : Nat} {f : Nat → Int32} (ha : w a = some (.inl (cA, n, .inl f))) (ht : tys[t0]? = some (cA, .boolean)) {i : Int32} (hin : vp_in i n) (hdg : decode cc pc = .ok (.baload, 1))
    (kk : W p l e R s m args below meth c H locs cells slots Q (F0 m (pc + 1) ls (.int (f i.toNatClampNeg) :: rest))) : W p l e R s m args below meth c H locs cells slots Q (F0 m pc ls (.int i :: .ref a :: rest)) := by
  obtain ⟨q0, he⟩ := mw_in h.1 ha
  exact va_zald G.1.1 G.1.2.1 G.2.1.1 (mw_P h.1) q0 t0 he ht hin hdg kk
theorem mx_lald (G : mw_G p m c cc nL s args Ts own D cl tys n0) (h : mw_H n0 D cl s w H locs) (t0 : Nat) {cA : ClassId} {n : Nat} {f : Nat → Int64} (ha : w a = some (.inl (cA, n, .inr (.inl f)))) (ht : tys[t0]? = some (cA, .long)) {i : Int32} (hin : vp_in i n) (hdg : decode cc pc = .ok (.laload, 1))
    (kk : W p l e R s m args below meth c H locs cells slots Q (F0 m (pc + 1) ls (.long (f i.toNatClampNeg) :: rest))) : W p l e R s m args below meth c H locs cells slots Q (F0 m pc ls (.int i :: .ref a :: rest)) := by
  obtain ⟨q0, he⟩ := mw_in h.1 ha
  exact va_lald G.1.1 G.1.2.1 G.2.1.1 (mw_P h.1) q0 t0 he ht hin hdg kk
theorem mx_aald (G : mw_G p m c cc nL s args Ts own D cl tys n0) (h : mw_H n0 D cl s w H locs) (t0 : Nat) {cA : ClassId} {C : String} {n v : Nat} {f : Nat → Option Nat} (ha : w a = some (.inl (cA, n, .inr (.inr (.inr (.inr f)))))) (ht : tys[t0]? = some (cA, .object C)) {i : Int32} (hin : vp_in i n) (hv : f i.toNatClampNeg = some v) (hdg : decode cc pc = .ok (.aaload, 1))
    (kk : W p l e R s m args below meth c H locs cells slots Q (F0 m (pc + 1) ls (.ref v :: rest))) : W p l e R s m args below meth c H locs cells slots Q (F0 m pc ls (.int i :: .ref a :: rest)) := by
  obtain ⟨q0, he⟩ := mw_in h.1 ha
  exact va_aldq G.1.1 G.1.2.1 G.2.1.1 (mw_P h.1) q0 t0 he ht hin hdg (by rw [hv]; exact kk)
theorem mx_iast (G : mw_G p m c cc nL s args Ts own D cl tys n0) (h : mw_H n0 D cl s w H locs) (t0 : Nat) {cA : ClassId} {n : Nat} {f : Nat → Int32} (ha : w a = some (.inl (cA, n, .inl f))) (ht : tys[t0]? = some (cA, .int)) {i x : Int32} (hin : vp_in i n) (hdg : decode cc pc = .ok (.iastore, 1))
    (kk : ∀ (H1 : Heap) (locs1 : List Loc), mw_H n0 D cl s (mw_up w a (.inl (cA, n, .inl (upd f i.toNatClampNeg x)))) H1 locs1 → W p l e R s m args below meth c H1 locs1 cells slots Q (F0 m (pc + 1) ls rest)) : W p l e R s m args below meth c H locs cells slots Q (F0 m pc ls (.int x :: .int i :: .ref a :: rest)) := by
  obtain ⟨q0, he⟩ := mw_in h.1 ha
  exact va_iast G.1.1 G.1.2.1 G.2.1.1 (mw_P h.1) (mw_D h.1) h.2 q0 t0 he ht hin hdg (fun H1 locs1 hP1 _ hS1 => kk H1 locs1 ⟨mw_set h.1 he hP1, hS1⟩)
theorem mx_zast (G : mw_G p m c cc nL s args Ts own D cl tys n0) (h : mw_H n0 D cl s w H locs) (t0 : Nat) {cA : ClassId} {n : Nat} {f : Nat → Int32} (ha : w a = some (.inl (cA, n, .inl f))) (ht : tys[t0]? = some (cA, .boolean)) {i x : Int32} (hin : vp_in i n) (hdg : decode cc pc = .ok (.bastore, 1))
    (kk : ∀ (H1 : Heap) (locs1 : List Loc), mw_H n0 D cl s (mw_up w a (.inl (cA, n, .inl (upd f i.toNatClampNeg (vp_nar .boolean x))))) H1 locs1 → W p l e R s m args below meth c H1 locs1 cells slots Q (F0 m (pc + 1) ls rest)) : W p l e R s m args below meth c H locs cells slots Q (F0 m pc ls (.int x :: .int i :: .ref a :: rest)) := by
  obtain ⟨q0, he⟩ := mw_in h.1 ha
  exact va_zast G.1.1 G.1.2.1 G.2.1.1 (mw_P h.1) (mw_D h.1) h.2 q0 t0 he ht hin hdg (fun H1 locs1 hP1 _ hS1 => kk H1 locs1 ⟨mw_set h.1 he hP1, hS1⟩)
theorem mx_last (G : mw_G p m c cc nL s args Ts own D cl tys n0) (h : mw_H n0 D cl s w H locs) (t0 : Nat) {cA : ClassId} {n : Nat} {f : Nat → Int64} (ha : w a = some (.inl (cA, n, .inr (.inl f)))) (ht : tys[t0]? = some (cA, .long)) {i : Int32} {x : Int64} (hin : vp_in i n) (hdg : decode cc pc = .ok (.lastore, 1))
    (kk : ∀ (H1 : Heap) (locs1 : List Loc), mw_H n0 D cl s (mw_up w a (.inl (cA, n, .inr (.inl (vp_updL f i.toNatClampNeg x))))) H1 locs1 → W p l e R s m args below meth c H1 locs1 cells slots Q (F0 m (pc + 1) ls rest)) : W p l e R s m args below meth c H locs cells slots Q (F0 m pc ls (.long x :: .int i :: .ref a :: rest)) := by
  obtain ⟨q0, he⟩ := mw_in h.1 ha
  exact va_last G.1.1 G.1.2.1 G.2.1.1 (mw_P h.1) (mw_D h.1) h.2 q0 t0 he ht hin hdg (fun H1 locs1 hP1 _ hS1 => kk H1 locs1 ⟨mw_set h.1 he hP1, hS1⟩)
theorem mx_aast (G : mw_G p m c cc nL s args Ts own D cl tys n0) (h : mw_H n0 D cl s w H locs) (t0 ci : Nat) {cA : ClassId} {r : vw_C} {n v : Nat} {vs : List Value} {f : Nat → Option Nat} (ha : w a = some (.inl (cA, n, .inr (.inr (.inr (.inr f)))))) (ht : tys[t0]? = some (cA, .object r.1)) (hv : w v = some (.inr (ci, vs))) (hc : cl[ci]? = some r) {i : Int32} (hin : vp_in i n) (hdg : decode cc pc = .ok (.aastore, 1))
    (kk : ∀ (H1 : Heap) (locs1 : List Loc), mw_H n0 D cl s (mw_up w a (.inl (cA, n, .inr (.inr (.inr (.inr (va_up f i.toNatClampNeg (some v)))))))) H1 locs1 → W p l e R s m args below meth c H1 locs1 cells slots Q (F0 m (pc + 1) ls rest)) : W p l e R s m args below meth c H locs cells slots Q (F0 m pc ls (.ref v :: .int i :: .ref a :: rest)) := by
  obtain ⟨q0, he⟩ := mw_in h.1 ha
  obtain ⟨qk, hq⟩ := mw_in h.1 hv
  exact va_astq G.1.1 G.1.2.1 G.2.1.1 (mw_P h.1) (mw_D h.1) h.2 q0 t0 qk ci he ht hq hc hin hdg (fun H1 locs1 hP1 _ hS1 => kk H1 locs1 ⟨mw_set h.1 he hP1, hS1⟩)
theorem mx_alen (G : mw_G p m c cc nL s args Ts own D cl tys n0) (h : mw_H n0 D cl s w H locs) (t0 : Nat) {cA : ClassId} {x : vp_A} (ha : w a = some (.inl (cA, x))) {ty : FieldType} (ht : tys[t0]? = some (cA, ty)) {v : Int32} (hv : Int32.ofNat x.1 = v) (hdg : decode cc pc = .ok (.arraylength, 1))
    (kk : W p l e R s m args below meth c H locs cells slots Q (F0 m (pc + 1) ls (.int v :: rest))) : W p l e R s m args below meth c H locs cells slots Q (F0 m pc ls (.ref a :: rest)) := by
  obtain ⟨q0, he⟩ := mw_in h.1 ha
  exact va_alen G.1.1 G.1.2.1 G.2.1.1 (mw_P h.1) q0 t0 he ht hv hdg kk
/-- the class of the arrays of a type is one -/
theorem mw_oneA {U : State} {x y : ClassId} {ty : FieldType} (hx : va_RA U x ty) (hy : va_RA U y ty) : x = y := by
  have key : ∀ z : ClassId, va_RA U z ty → U.vm.findClass ("[" ++ ty.toString) = some z := by
    intro z hz
    cases ty with
    | object C =>
      obtain ⟨-, -, -, -, -, h⟩ := hz
      exact h
    | _ => exact hz
  exact Option.some.inj ((key x hx).symm.trans (key y hy))
theorem mx_newa (G : mw_G p m c cc nL s args Ts own D cl tys n0) (h : mw_H n0 D cl s w H locs) {atype : ArrayType} (harr : Cond.arrayClass (newarray.typeOf atype) ∈ Ts) {ty : FieldType} (hty : newarray.typeOf atype = ty) (t0 : Nat) {cA : ClassId} (ht : tys[t0]? = some (cA, ty)) {n : Int32} {N' : Nat} {a0 : vp_A} (ha : ∀ cA : ClassId, vp_cell cA a0 = arrV cA N' (fun _ => defaultValue ty)) (hn : ¬ n < 0) (hN : n.toNatClampNeg = N') (hbytes : N' * componentBytes ty ≤ 536870912) (hcells : cells + 1 ≤ R.cells) (hslots : slots + N' ≤ R.slots) (hdg : decode cc pc = .ok (.newarray atype, 2))
    (kk : ∀ (q : Nat) (H1 : Heap), w q = none → mw_H n0 D cl s (mw_up w q (.inl (cA, a0))) H1 locs → W p l e R s m args below meth c H1 locs (cells + 1) (slots + N') Q (F0 m (pc + 2) ls (.ref q :: rest))) : W p l e R s m args below meth c H locs cells slots Q (F0 m pc ls (.int n :: rest)) := by
  refine va_newa G.1.1 G.1.2.1 (G.1.2.2.2.2 _ harr) hty G.2.1.1 (mw_P h.1) (mw_D h.1) h.2 (fun q hq => Nat.le_trans G.2.2 hq) ha hn hN hbytes hcells hslots hdg (fun q cA' H1 hK1 hP1 hD1 hS1 => ?_)
  have e1 : cA' = cA := mw_oneA (hK1.2 tys.length (cA', ty) (by simp)).2 (G.2.1.1.2 t0 (cA, ty) ht).2
  subst e1
  exact kk q H1 (mw_push h.1 hP1 hD1).2 ⟨(mw_push h.1 hP1 hD1).1, hS1⟩
theorem mx_newq (G : mw_G p m c cc nL s args Ts own D cl tys n0) (h : mw_H n0 D cl s w H locs) {C : String} {index : Nat} (hclink : Cond.classLink own index C ∈ Ts) (hover : C ∈ aoL) (t0 : Nat) {cA : ClassId} (ht : tys[t0]? = some (cA, .object C)) {n : Int32} {N' : Nat} (hn : ¬ n < 0) (hN : n.toNatClampNeg = N') (hbytes : N' * 4 ≤ 536870912) (hcells : cells + 1 ≤ R.cells) (hslots : slots + N' ≤ R.slots) (hdg : decode cc pc = .ok (.anewarray index, 3))
    (kk : ∀ (q : Nat) (H1 : Heap), w q = none → mw_H n0 D cl s (mw_up w q (.inl (cA, N', .inr (.inr (.inr (.inr (fun _ => none))))))) H1 locs → W p l e R s m args below meth c H1 locs (cells + 1) (slots + N') Q (F0 m (pc + 3) ls (.ref q :: rest))) : W p l e R s m args below meth c H locs cells slots Q (F0 m pc ls (.int n :: rest)) := by
  refine va_newq G.1.1 G.1.2.1 G.1.2.2.2.1 (G.1.2.2.2.2 _ hclink) (G.2.1.2.1 _ hover) G.2.1.1 (mw_P h.1) (mw_D h.1) h.2 (fun q hq => Nat.le_trans G.2.2 hq) hn hN hbytes hcells hslots hdg (fun q cA' H1 hK1 hP1 hD1 hS1 => ?_)
  have e1 : cA' = cA := mw_oneA (hK1.2 tys.length (cA', .object C) (by simp)).2 (G.2.1.1.2 t0 (cA, .object C) ht).2
  subst e1
  exact kk q H1 (mw_push h.1 hP1 hD1).2 ⟨(mw_push h.1 hP1 hD1).1, hS1⟩
theorem mx_new (G : mw_G p m c cc nL s args Ts own D cl tys n0) (h : mw_H n0 D cl s w H locs) {C : String} {T : u_T} {N ci index : Nat} (hc : cl[ci]? = some (C, T, N)) (hin : ∀ x ∈ u_ws C T N, x ∈ Ts) (ty : Nat → FieldType) (hty : ∀ k, k < N → parseFieldDescriptor (T k).2.2.1 = some (ty k)) (hcl : Cond.classLink own index C ∈ Ts) (hinst : Cond.instantiable C N ∈ Ts) (hini : Cond.initialized C ∈ Ts) {fs : List Value} (hfs : ∀ j, j < N → defaultValue (ty j) = vp_V fs j) (hcells : cells + 1 ≤ R.cells) (hslots : slots + N ≤ R.slots) (hdg : decode cc pc = .ok (.new index, 3))
    (kk : ∀ (q : Nat) (H1 : Heap), w q = none → mw_H n0 D cl s (mw_up w q (.inr (ci, fs))) H1 locs → W p l e R s m args below meth c H1 locs (cells + 1) (slots + N) Q (F0 m (pc + 3) ls (.ref q :: rest))) : W p l e R s m args below meth c H locs cells slots Q (F0 m pc ls rest) := by
  obtain ⟨⟨hx, hb, -, hown, hts⟩, ⟨hK, -⟩, hn⟩ := G
  exact va_new hx hb hts hin ty hty hown (hts _ hcl) (hts _ hinst) (hts _ hini) hK (mw_P h.1) (mw_D h.1) h.2 (fun q hq => Nat.le_trans hn hq) hc hfs hcells hslots hdg (fun q H1 hP1 hD1 hS1 => kk q H1 (mw_push h.1 hP1 hD1).2 ⟨(mw_push h.1 hP1 hD1).1, hS1⟩)
/-- behind a call -/
theorem mx_ci {rest st0 : List Value} {av : Array Value} {mc ms : Nat} {post : Int32 → mw → Prop} (hr : va_Run p l e R s m args below meth c H locs cells slots mc ms (F0 m pc ls st0) rest (mw_Qi n0 D cl post av) (mw_A n0)) (h : mw_H n0 D cl s w H locs)
    (kk : ∀ (r : Int32) (w' : mw) (H1 : Heap) (locs1 : List Loc), mw_H n0 D cl s w' H1 locs1 → post r w' → W p l e R s m args below meth c H1 locs1 (cells + mc) (slots + ms) Q (F0 m (pc + 3) ls (.int r :: rest))) : W p l e R s m args below meth c H locs cells slots Q (F0 m pc ls st0) :=
  va_calli hr h.2 (fun _ _ z => z) (fun _ z => z) (fun r w' t H1 locs1 ht _ hp hB _ _ hS => kk r w' H1 locs1 ⟨by rw [← ht]; exact hB, hS⟩ hp)
theorem mx_cl {rest st0 : List Value} {av : Array Value} {mc ms : Nat} {post : Int64 → mw → Prop} (hr : va_Run p l e R s m args below meth c H locs cells slots mc ms (F0 m pc ls st0) rest (mw_Ql n0 D cl post av) (mw_A n0)) (h : mw_H n0 D cl s w H locs)
    (kk : ∀ (r : Int64) (w' : mw) (H1 : Heap) (locs1 : List Loc), mw_H n0 D cl s w' H1 locs1 → post r w' → W p l e R s m args below meth c H1 locs1 (cells + mc) (slots + ms) Q (F0 m (pc + 3) ls (.long r :: rest))) : W p l e R s m args below meth c H locs cells slots Q (F0 m pc ls st0) :=
  va_calll hr h.2 (fun _ _ z => z) (fun _ z => z) (fun r w' t H1 locs1 ht _ hp hB _ _ hS => kk r w' H1 locs1 ⟨by rw [← ht]; exact hB, hS⟩ hp)
theorem mx_cv {rest st0 : List Value} {av : Array Value} {mc ms : Nat} {post : mw → Prop} (hr : va_Run p l e R s m args below meth c H locs cells slots mc ms (F0 m pc ls st0) rest (mw_Qv n0 D cl post av) (mw_A n0)) (h : mw_H n0 D cl s w H locs)
    (kk : ∀ (w' : mw) (H1 : Heap) (locs1 : List Loc), mw_H n0 D cl s w' H1 locs1 → post w' → W p l e R s m args below meth c H1 locs1 (cells + mc) (slots + ms) Q (F0 m (pc + 3) ls rest)) : W p l e R s m args below meth c H locs cells slots Q (F0 m pc ls st0) :=
  va_callv hr h.2 (fun _ _ z => z) (fun _ z => z) (fun w' t H1 locs1 ht _ hp hB _ _ hS => kk w' H1 locs1 ⟨by rw [← ht]; exact hB, hS⟩ hp)
theorem mx_cr {rest st0 : List Value} {av : Array Value} {mc ms : Nat} {post : Nat → mw → Prop} (hr : va_Run p l e R s m args below meth c H locs cells slots mc ms (F0 m pc ls st0) rest (mw_Qr n0 D cl post av) (mw_A n0)) (h : mw_H n0 D cl s w H locs)
    (kk : ∀ (r : Nat) (w' : mw) (H1 : Heap) (locs1 : List Loc), mw_H n0 D cl s w' H1 locs1 → post r w' → W p l e R s m args below meth c H1 locs1 (cells + mc) (slots + ms) Q (F0 m (pc + 3) ls (.ref r :: rest))) : W p l e R s m args below meth c H locs cells slots Q (F0 m pc ls st0) :=
  va_callr hr h.2 (fun _ _ z => z) (fun _ z => z) (fun u ra t H1 locs1 ht _ hp hB _ _ hS => by
    obtain ⟨he, hB⟩ := hB
    subst he
    exact kk u.1 u.2 H1 locs1 ⟨by rw [← ht]; exact hB, hS⟩ hp)
/-- the calls themselves -/
theorem mx_runV (G : mw_G p m c cc nL s args Ts own D cl tys n0) (h : mw_H n0 D cl s w H locs) {y : MethodName} {bytes : ByteArray} {maxL mc ms n index : Nat} {ret : Option FieldType} {ws : List Cond} {rm : Room} {Qc : Array Value → State → Outcome → State → Prop} {C : String} {b ci N : Nat} {T : u_T} {fs : List Value} {As rest st0 : List Value}
    (hM : Met l y ws rm (mw_Pc n0 D cl tys (.ref b :: As) w) Qc mc ms (mw_A n0)) (cw : CallW R s args own C index y bytes maxL ret ws rm mc ms n) (hr : w b = some (.inr (ci, fs))) (hc : cl[ci]? = some (C, T, N)) (hn : As.length = n) (hsize : ls.size = nL) (hst : st0 = As.reverse ++ .ref b :: rest) (hW : (rest.map fun v => v.category).sum ≤ 8) (hdg : decode cc pc = .ok (.invokevirtual index, 3)) (hf : cells + mc ≤ R.cells ∧ slots + ms ≤ R.slots) :
    va_Run p l e R s m args below meth c H locs cells slots mc ms (F0 m pc ls st0) rest (Qc (Value.ref b :: As).toArray) (mw_A n0) := by
  obtain ⟨q0, he⟩ := mw_in h.1 hr
  exact va_runV G.1 hM cw ⟨mw_blind, va_recv G.2.1.1 (mw_P h.1) hc he, mw_pre G h⟩ rfl hn hsize hst (lv_room hW) hdg hf
theorem mx_runS (G : mw_G p m c cc nL s args Ts own D cl tys n0) (h : mw_H n0 D cl s w H locs) {y : MethodName} {bytes : ByteArray} {maxL mc ms n index : Nat} {ret : Option FieldType} {ws : List Cond} {rm : Room} {Qc : Array Value → State → Outcome → State → Prop} {As rest st0 : List Value}
    (hM : Met l y ws rm (mw_Pc n0 D cl tys As w) Qc mc ms (mw_A n0)) (cw : CallB R s args own index y bytes maxL ret ws rm mc ms n ∧ (Cond.static y).before args s = true) (hn : As.length = n) (hsize : ls.size = nL) (hst : st0 = As.reverse ++ rest) (hW : (rest.map fun v => v.category).sum ≤ 8) (hdg : decode cc pc = .ok (.invokestatic index, 3)) (hf : cells + mc ≤ R.cells ∧ slots + ms ≤ R.slots) :
    va_Run p l e R s m args below meth c H locs cells slots mc ms (F0 m pc ls st0) rest (Qc As.toArray) (mw_A n0) :=
  va_runS G.1 hM cw ⟨mw_blind, mw_pre G h⟩ rfl hn hsize hst (lv_room hW) hdg hf
theorem mx_runI (G : mw_G p m c cc nL s args Ts own D cl tys n0) (h : mw_H n0 D cl s w H locs) {y : MethodName} {bytes : ByteArray} {maxL mc ms n index : Nat} {ws : List Cond} {rm : Room} {Qc : Array Value → State → Outcome → State → Prop} {b : Nat} {As rest st0 : List Value}
    (hM : Met l y ws rm (mw_Pc n0 D cl tys (.ref b :: As) w) Qc mc ms (mw_A n0)) (cw : CallB R s args own index y bytes maxL none ws rm mc ms n ∧ y.name = "<init>" ∧ (Cond.instanceMethod y).before args s = true) (hn : As.length = n) (hsize : ls.size = nL) (hst : st0 = As.reverse ++ .ref b :: rest) (hW : (rest.map fun v => v.category).sum ≤ 8) (hdg : decode cc pc = .ok (.invokespecial index, 3)) (hf : cells + mc ≤ R.cells ∧ slots + ms ≤ R.slots) :
    va_Run p l e R s m args below meth c H locs cells slots mc ms (F0 m pc ls st0) rest (Qc (Value.ref b :: As).toArray) (mw_A n0) :=
  va_runI G.1 hM cw ⟨mw_blind, mw_pre G h⟩ rfl hn hsize hst (lv_room hW) hdg hf
theorem mx_runIN (G : mw_G p m c cc nL s args Ts own D cl tys n0) (h : mw_H n0 D cl s w H locs) {y : MethodName} {bytes : ByteArray} {maxL mc ms n index : Nat} {ws : List Cond} {rm : Room} {Qc : Array Value → State → Outcome → State → Prop} {b : Nat} {As rest st0 : List Value} {host : String}
    (hM : Met l y ws rm (mw_Pc n0 D cl tys (.ref b :: As) w) Qc mc ms (mw_A n0)) (cw : va_CN R s args own index y host bytes maxL none ws rm mc ms n ∧ y.name = "<init>" ∧ (Cond.instanceMethod y).before args s = true) (hn : As.length = n) (hsize : ls.size = nL) (hst : st0 = As.reverse ++ .ref b :: rest) (hW : (rest.map fun v => v.category).sum ≤ 8) (hdg : decode cc pc = .ok (.invokespecial index, 3)) (hf : cells + mc ≤ R.cells ∧ slots + ms ≤ R.slots) :
    va_Run p l e R s m args below meth c H locs cells slots mc ms (F0 m pc ls st0) rest (Qc (Value.ref b :: As).toArray) (mw_A n0) :=
  va_runIN G.1 hM cw ⟨mw_blind, mw_pre G h⟩ rfl hn hsize hst (lv_room hW) hdg hf
/-- the ends -/
theorem mx_reti {post : Int32 → mw → Prop} {v : Int32} (G : mw_G p m c cc nL s args Ts own D cl tys n0) (h : mw_H n0 D cl s w H locs) (hr : meth.sig.returnType = some .int) (hlocks : meth.locks = false) (hdg : decode cc pc = .ok (.ireturn, 1)) (hp : post v w) : W p l e R s m args below meth c H locs cells slots (MQ below (mw_Qi n0 D cl post) args s cells slots (mw_A n0)) (F0 m pc ls [.int v]) :=
  W.iret G.1.1 G.1.2.1 hr (fun t ht _ => ⟨⟨v, w, rfl, hp, by show mw_M n0 D cl w t.heap; rw [ht]; exact h.1⟩, h.2.F ht⟩) h.2.2.2 hdg hlocks
theorem mx_retl {post : Int64 → mw → Prop} {v : Int64} (G : mw_G p m c cc nL s args Ts own D cl tys n0) (h : mw_H n0 D cl s w H locs) (hr : meth.sig.returnType = some .long) (hlocks : meth.locks = false) (hdg : decode cc pc = .ok (.lreturn, 1)) (hp : post v w) : W p l e R s m args below meth c H locs cells slots (MQ below (mw_Ql n0 D cl post) args s cells slots (mw_A n0)) (F0 m pc ls [.long v]) :=
  W.lret G.1.1 G.1.2.1 hr (fun t ht _ => ⟨⟨v, w, rfl, hp, by show mw_M n0 D cl w t.heap; rw [ht]; exact h.1⟩, h.2.F ht⟩) h.2.2.2 hdg hlocks
theorem mx_retv {post : mw → Prop} (G : mw_G p m c cc nL s args Ts own D cl tys n0) (h : mw_H n0 D cl s w H locs) (hr : meth.sig.returnType = none) (hlocks : meth.locks = false) (hdg : decode cc pc = .ok (.return_, 1)) (hp : post w) : W p l e R s m args below meth c H locs cells slots (MQ below (mw_Qv n0 D cl post) args s cells slots (mw_A n0)) (F0 m pc ls []) :=
  W.vret G.1.1 G.1.2.1 hr (fun t ht _ => ⟨⟨w, rfl, hp, by show mw_M n0 D cl w t.heap; rw [ht]; exact h.1⟩, h.2.F ht⟩) h.2.2.2 hdg hlocks
theorem mx_retz {post : Int32 → mw → Prop} {v : Int32} (G : mw_G p m c cc nL s args Ts own D cl tys n0) (h : mw_H n0 D cl s w H locs) (hr : meth.sig.returnType = some .boolean) (hlocks : meth.locks = false) (hdg : decode cc pc = .ok (.ireturn, 1)) (hv : narrow .boolean (.int v) = .int v) (hp : post v w) : W p l e R s m args below meth c H locs cells slots (MQ below (mw_Qi n0 D cl post) args s cells slots (mw_A n0)) (F0 m pc ls [.int v]) :=
  W.zret G.1.1 G.1.2.1 hr hv (fun t ht _ => ⟨⟨v, w, rfl, hp, by show mw_M n0 D cl w t.heap; rw [ht]; exact h.1⟩, h.2.F ht⟩) h.2.2.2 hdg hlocks
theorem mx_reta {post : Nat → mw → Prop} {v : Nat} {rt : String} (G : mw_G p m c cc nL s args Ts own D cl tys n0) (h : mw_H n0 D cl s w H locs) (hr : meth.sig.returnType = some (.object rt)) (hlocks : meth.locks = false) (hdg : decode cc pc = .ok (.areturn, 1)) (hp : post v w) : W p l e R s m args below meth c H locs cells slots (MQ below (mw_Qr n0 D cl post) args s cells slots (mw_A n0)) (F0 m pc ls [.ref v]) :=
  W.aret G.1.1 G.1.2.1 hr (Or.inl ⟨rt, rfl⟩) (Or.inr ⟨v, rfl⟩) (fun t ht _ => ⟨⟨(v, w), v, rfl, hp, rfl, by show mw_M n0 D cl w t.heap; rw [ht]; exact h.1⟩, h.2.F ht⟩) h.2.2.2 hdg hlocks
end MWR
/-- a method's entry -/
theorem mw_met {l : Launch} {y : MethodName} {ws ws' : List Cond} {rm : Room} {Qc : Array Value → State → Outcome → State → Prop} {mc ms : Nat} {cc : ByteArray} {maxL : Nat} {ret : Option FieldType} {n0 : Nat} {D : va_G} {cl : List vw_C} {tys : List (ClassId × FieldType)} {av : List Value} {w : mw} (hy : plainName y.cls = true) (hw : ws = Cond.code y cc maxL ret :: ws') (hlen : (lg_sl av).length ≤ maxL)
    (body : ∀ (p : Program) (e : Env) (s : State) (m : MethodId) (below : List Frame) (meth : Method) (c : Code) (ls : Array Slot), mw_G p m c cc maxL s av.toArray ws y.cls D cl tys n0 → meth.sig.returnType = ret → meth.locks = false → meth.name = y.name → mw_H n0 D cl s w s.heap [] → lv_has ls maxL (lv_args 0 av) → W p l e rm s m av.toArray below meth c s.heap [] 0 0 (MQ below Qc av.toArray s mc ms (mw_A n0)) (F0 m 0 ls [])) : Met l y ws rm (mw_Pc n0 D cl tys av w) Qc mc ms (mw_A n0) := by
  refine Met.ofW (cc := cc) (maxL := maxL) (ret := ret) hy hw ?_
  intro p e s m args below meth c s₁ B hml hv
  obtain ⟨rfl, hn, hM, hK⟩ := hv
  have hl := lv_entry av (n := maxL) hlen
  rw [lg_entry_eq]
  exact body p e s m below meth c _ ⟨⟨B.exec, B.bytes, hml, findClass_of_methodNamed B.named, atoms_spec (ws := ws) B.pre⟩, hK, hn⟩ B.returns B.notSynchronized (name_of_methodNamed B.named B.method).1 ⟨hM, va_S.rf⟩ hl
