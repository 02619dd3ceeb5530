/-! Rows over the tables' words TB: what every method of this claim uses -/
abbrev tys (cA : Nat → ClassId) : List (ClassId × FieldType) := [(cA 0, .int), (cA 1, .long), (cA 2, .boolean), (cA 3, .object R_U), (cA 4, .object R_K), (cA 5, .object R_Q)]
abbrev rmd (d : Nat) : Room := { frames := d, cells := 0, slots := 0, locals := 40 * d }
abbrev NN : Int64 := -1000000000000
theorem tb_c {c w : Cond} (h : w ∈ TB) : w ∈ c :: TB := List.mem_cons_of_mem _ h
theorem tb_in {c : Cond} {L : List Cond} (h : ∀ x ∈ L, x ∈ TB) : ∀ x ∈ L, x ∈ c :: TB := fun x hx => tb_c (h x hx)
theorem tb_gd {cx cy : Cond} (h : cy ∈ TB) : GoodIn (cx :: TB) (cy :: TB) := fun w hw => by
  have hw : w ∈ TB := (List.mem_cons.mp hw).elim (fun e => e ▸ h) id
  exact ⟨tb_c hw, good_of_word (tb_good hw)⟩
theorem tb_gV {cx cy : Cond} {own C : String} {idx : Nat} {y : MethodName} (kl : Cond.methodLink own idx y ∈ TB) (ki : Cond.instanceMethod y ∈ TB) (ks : Cond.selects C y y ∈ TB) (kn : Cond.initialized C ∈ TB) (kc : cy ∈ TB) : GoodIn (cx :: TB) (wsV own idx C y (cy :: TB)) := fun w hw => by
  have hw : w ∈ TB := by
    unfold wsV at hw
    rcases List.mem_append.mp hw with h | h
    · simp only [List.mem_cons, List.not_mem_nil, or_false] at h
      rcases h with rfl | rfl | rfl | rfl
      · exact kl
      · exact ki
      · exact ks
      · exact kn
    · exact (List.mem_cons.mp h).elim (fun e => e ▸ kc) id
  exact ⟨tb_c hw, good_of_word (tb_good hw)⟩
theorem tb_gS {cx cy : Cond} {own : String} {idx : Nat} {y : MethodName} (kl : Cond.methodLink own idx y ∈ TB) (ks : Cond.static y ∈ TB) (kn : Cond.initialized own ∈ TB) (kc : cy ∈ TB) : GoodIn (cx :: TB) (wsS own idx y (cy :: TB)) := fun w hw => by
  have hw : w ∈ TB := by
    unfold wsS at hw
    rcases List.mem_append.mp hw with h | h
    · simp only [List.mem_cons, List.not_mem_nil, or_false] at h
      rcases h with rfl | rfl | rfl
      · exact kl
      · exact ks
      · exact kn
    · exact (List.mem_cons.mp h).elim (fun e => e ▸ kc) id
  exact ⟨tb_c hw, good_of_word (tb_good hw)⟩
/-- contracts: an int, a long, nothing, a reference comes back; no cell is made -/
abbrev Mi (l : Launch) (D : va_G) (cA : Nat → ClassId) (n0 : Nat) (y : MethodName) (cy : Cond) (rm : Room) (av : List Value) (w : mw) (post : Int32 → mw → Prop) : Prop := Met l y (cy :: TB) rm (mw_Pc n0 D cl (tys cA) av w) (mw_Qi n0 D cl post) 0 0 (mw_A n0)
abbrev Ml (l : Launch) (D : va_G) (cA : Nat → ClassId) (n0 : Nat) (y : MethodName) (cy : Cond) (rm : Room) (av : List Value) (w : mw) (post : Int64 → mw → Prop) : Prop := Met l y (cy :: TB) rm (mw_Pc n0 D cl (tys cA) av w) (mw_Ql n0 D cl post) 0 0 (mw_A n0)
abbrev Mv (l : Launch) (D : va_G) (cA : Nat → ClassId) (n0 : Nat) (y : MethodName) (cy : Cond) (rm : Room) (av : List Value) (w : mw) (post : mw → Prop) : Prop := Met l y (cy :: TB) rm (mw_Pc n0 D cl (tys cA) av w) (mw_Qv n0 D cl post) 0 0 (mw_A n0)
abbrev Mr (l : Launch) (D : va_G) (cA : Nat → ClassId) (n0 : Nat) (y : MethodName) (cy : Cond) (rm : Room) (av : List Value) (w : mw) (post : Nat → mw → Prop) : Prop := Met l y (cy :: TB) rm (mw_Pc n0 D cl (tys cA) av w) (mw_Qr n0 D cl post) 0 0 (mw_A n0)
/-- a constructor's: mc cells of ms slots are made -/
abbrev Mc (l : Launch) (D : va_G) (cA : Nat → ClassId) (n0 : Nat) (y : MethodName) (cy : Cond) (d mc ms : Nat) (av : List Value) (w : mw) (post : mw → Prop) : Prop := Met l y (cy :: TB) { frames := d, cells := mc, slots := ms, locals := 40 * d } (mw_Pc n0 D cl (tys cA) av w) (mw_Qv n0 D cl post) mc ms (mw_A n0)
section TBR
variable {p : Program} {l : Launch} {e : Env} {R : Room} {s : State} {m : MethodId} {args : Array Value} {below : List Frame} {meth : Method} {c : Code} {H : Heap} {locs : List Loc} {cells slots : Nat} {Q : State → Prop}
variable {cc : ByteArray} {pc : Nat} {ls : Array Slot} {rest : List Value} {D : va_G} {a : Nat} {w : mw} {n0 nL : Nat} {cx : Cond} {own : String} {cA : Nat → ClassId}
theorem cV (G : mw_G p m c cc nL s args (cx :: TB) own D cl (tys cA) n0) (h : mw_H n0 D cl s w H locs) {y : MethodName} {bytes : ByteArray} {maxL mc ms n index : Nat} {ret : Option FieldType} {rm : Room} {Qc : Array Value → State → Outcome → State → Prop} {b ci N : Nat} {T : u_T} {fs : List Value} {As rest st0 : List Value}
    (hM : Met l y (Cond.code y bytes maxL ret :: TB) rm (mw_Pc n0 D cl (tys cA) (.ref b :: As) w) Qc mc ms (mw_A n0)) (kl : Cond.methodLink own index y ∈ TB) (ki : Cond.instanceMethod y ∈ TB) (ks : Cond.selects y.cls y y ∈ TB) (kn : Cond.initialized y.cls ∈ TB) (kc : Cond.code y bytes maxL ret ∈ TB) (hd : y.cls ≠ "java/lang/invoke/MethodHandle" ∧ y.cls ≠ "java/lang/invoke/VarHandle" ∧ (parseMethodDescriptor y.desc).map (fun d => d.parameters.length) = some n) (hrc : rm.cells = mc) (hrs : rm.slots = ms) (hR : rm.frames + 1 ≤ R.frames ∧ 8 + (maxL + 11) + rm.locals ≤ R.locals)
    (hr : w b = some (.inr (ci, fs))) (hc : cl[ci]? = some (y.cls, T, N)) (hn : As.length = n) (hsize : ls.size = nL) (hst : st0 = As.reverse ++ .ref b :: rest) (hW : (rest.map fun v => v.category).sum ≤ 8) (hdg : decode cc pc = .ok (.invokevirtual index, 3)) (hf : cells + mc ≤ R.cells ∧ slots + ms ≤ R.slots) :
    va_Run p l e R s m args below meth c H locs cells slots mc ms (F0 m pc ls st0) rest (Qc (Value.ref b :: As).toArray) (mw_A n0) :=
  mx_runV G h hM (cwV n G.1.2.2.2.2 (tb_gV kl ki ks kn kc) rfl hrc hrs ⟨rfl, hd⟩ hR) hr hc hn hsize hst hW hdg hf
theorem cS (G : mw_G p m c cc nL s args (cx :: TB) own D cl (tys cA) n0) (h : mw_H n0 D cl s w H locs) {y : MethodName} {bytes : ByteArray} {maxL mc ms n index : Nat} {ret : Option FieldType} {rm : Room} {Qc : Array Value → State → Outcome → State → Prop} {As rest st0 : List Value}
    (hM : Met l y (Cond.code y bytes maxL ret :: TB) rm (mw_Pc n0 D cl (tys cA) As w) Qc mc ms (mw_A n0)) (kl : Cond.methodLink own index y ∈ TB) (ks : Cond.static y ∈ TB) (kn : Cond.initialized own ∈ TB) (kc : Cond.code y bytes maxL ret ∈ TB) (hown : y.cls = own) (hd : y.cls ≠ "java/lang/invoke/MethodHandle" ∧ y.cls ≠ "java/lang/invoke/VarHandle" ∧ (parseMethodDescriptor y.desc).map (fun d => d.parameters.length) = some n) (hrc : rm.cells = mc) (hrs : rm.slots = ms) (hR : rm.frames + 1 ≤ R.frames ∧ 8 + (maxL + 11) + rm.locals ≤ R.locals)
    (hn : As.length = n) (hsize : ls.size = nL) (hst : st0 = As.reverse ++ rest) (hW : (rest.map fun v => v.category).sum ≤ 8) (hdg : decode cc pc = .ok (.invokestatic index, 3)) (hf : cells + mc ≤ R.cells ∧ slots + ms ≤ R.slots) :
    va_Run p l e R s m args below meth c H locs cells slots mc ms (F0 m pc ls st0) rest (Qc As.toArray) (mw_A n0) :=
  mx_runS G h hM (cwS n G.1.2.2.2.2 (tb_gS kl ks kn kc) rfl hrc hrs ⟨hown, hd⟩ hR) hn hsize hst hW hdg hf
theorem cI (G : mw_G p m c cc nL s args (cx :: TB) own D cl (tys cA) n0) (h : mw_H n0 D cl s w H locs) {y : MethodName} {bytes : ByteArray} {maxL mc ms n index : Nat} {rm : Room} {Qc : Array Value → State → Outcome → State → Prop} {b : Nat} {As rest st0 : List Value}
    (hM : Met l y (Cond.code y bytes maxL none :: TB) rm (mw_Pc n0 D cl (tys cA) (.ref b :: As) w) Qc mc ms (mw_A n0)) (kl : Cond.methodLink own index y ∈ TB) (ki : Cond.instanceMethod y ∈ TB) (kn : Cond.initialized y.cls ∈ TB) (kc : Cond.code y bytes maxL none ∈ TB) (hy : y.name = "<init>") (hd : y.cls ≠ "java/lang/invoke/MethodHandle" ∧ y.cls ≠ "java/lang/invoke/VarHandle" ∧ (parseMethodDescriptor y.desc).map (fun d => d.parameters.length) = some n) (hrc : rm.cells = mc) (hrs : rm.slots = ms) (hR : rm.frames + 1 ≤ R.frames ∧ 8 + (maxL + 11) + rm.locals ≤ R.locals)
    (hn : As.length = n) (hsize : ls.size = nL) (hst : st0 = As.reverse ++ .ref b :: rest) (hW : (rest.map fun v => v.category).sum ≤ 8) (hdg : decode cc pc = .ok (.invokespecial index, 3)) (hf : cells + mc ≤ R.cells ∧ slots + ms ≤ R.slots) :
    va_Run p l e R s m args below meth c H locs cells slots mc ms (F0 m pc ls st0) rest (Qc (Value.ref b :: As).toArray) (mw_A n0) :=
  mx_runI G h hM (cwI n G.1.2.2.2.2 (tb_gd kc) rfl hrc hrs (G.1.2.2.2.2 _ (tb_c kn)) (G.1.2.2.2.2 _ (tb_c kl)) (G.1.2.2.2.2 _ (tb_c ki)) hy hd hR) hn hsize hst hW hdg hf
theorem cIN (G : mw_G p m c cc nL s args (cx :: TB) own D cl (tys cA) n0) (h : mw_H n0 D cl s w H locs) {y : MethodName} {bytes : ByteArray} {maxL mc ms n index : Nat} {rm : Room} {Qc : Array Value → State → Outcome → State → Prop} {b : Nat} {As rest st0 : List Value} {host : String}
    (hM : Met l y (Cond.code y bytes maxL none :: TB) rm (mw_Pc n0 D cl (tys cA) (.ref b :: As) w) Qc mc ms (mw_A n0)) (kl : (own, index, y, host) ∈ nsL) (ki : Cond.instanceMethod y ∈ TB) (kn : Cond.initialized y.cls ∈ TB) (kc : Cond.code y bytes maxL none ∈ TB) (hy : y.name = "<init>") (hd : y.cls ≠ "java/lang/invoke/MethodHandle" ∧ y.cls ≠ "java/lang/invoke/VarHandle" ∧ (parseMethodDescriptor y.desc).map (fun d => d.parameters.length) = some n) (hrc : rm.cells = mc) (hrs : rm.slots = ms) (hR : rm.frames + 1 ≤ R.frames ∧ 8 + (maxL + 11) + rm.locals ≤ R.locals)
    (hn : As.length = n) (hsize : ls.size = nL) (hst : st0 = As.reverse ++ .ref b :: rest) (hW : (rest.map fun v => v.category).sum ≤ 8) (hdg : decode cc pc = .ok (.invokespecial index, 3)) (hf : cells + mc ≤ R.cells ∧ slots + ms ≤ R.slots) :
    va_Run p l e R s m args below meth c H locs cells slots mc ms (F0 m pc ls st0) rest (Qc (Value.ref b :: As).toArray) (mw_A n0) :=
  mx_runIN G h hM ⟨va_cnB n G.1.2.2.2.2 (tb_gd kc) rfl hrc hrs (G.2.1.2.2 _ kl) (G.1.2.2.2.2 _ (tb_c kn)) hd hR, hy, G.1.2.2.2.2 _ (tb_c ki)⟩ hn hsize hst hW hdg hf
/-- the places of arrays by natural numbers -/
theorem vp_j {i : Int32} {j n : Nat} (e : i = nI j) (hj : j < n) (hn : n < 2 ^ 31) : vp_in i n := by rw [e]; exact vp_in_nI hj hn
theorem cl_j {i : Int32} {j n : Nat} (e : i = nI j) (hj : j < n) (hn : n < 2 ^ 31) : i.toNatClampNeg = j := by rw [e]; exact nI_clamp (by omega)
theorem ax_i (G : mw_G p m c cc nL s args (cx :: TB) own D cl (tys cA) n0) (h : mw_H n0 D cl s w H locs) {n : Nat} {f : Nat → Int32} (ha : w a = some (.inl (cA 0, n, .inl f))) {i : Int32} (j : Nat) (e1 : i = nI j) (hj : j < n) (hn : n < 2 ^ 31) (hdg : decode cc pc = .ok (.iaload, 1))
    (kk : W p l e R s m args below meth c H locs cells slots Q (F0 m (pc + 1) ls (.int (f j) :: rest))) : W p l e R s m args below meth c H locs cells slots Q (F0 m pc ls (.int i :: .ref a :: rest)) :=
  mx_iald G h 0 ha rfl (vp_j e1 hj hn) hdg (by rw [cl_j e1 hj hn]; exact kk)
theorem ax_z (G : mw_G p m c cc nL s args (cx :: TB) own D cl (tys cA) n0) (h : mw_H n0 D cl s w H locs) {n : Nat} {f : Nat → Int32} (ha : w a = some (.inl (cA 2, n, .inl f))) {i : Int32} (j : Nat) (e1 : i = nI j) (hj : j < n) (hn : n < 2 ^ 31) (hdg : decode cc pc = .ok (.baload, 1))
    (kk : W p l e R s m args below meth c H locs cells slots Q (F0 m (pc + 1) ls (.int (f j) :: rest))) : W p l e R s m args below meth c H locs cells slots Q (F0 m pc ls (.int i :: .ref a :: rest)) :=
  mx_zald G h 2 ha rfl (vp_j e1 hj hn) hdg (by rw [cl_j e1 hj hn]; exact kk)
theorem ax_l (G : mw_G p m c cc nL s args (cx :: TB) own D cl (tys cA) n0) (h : mw_H n0 D cl s w H locs) {n : Nat} {f : Nat → Int64} (ha : w a = some (.inl (cA 1, n, .inr (.inl f)))) {i : Int32} (j : Nat) (e1 : i = nI j) (hj : j < n) (hn : n < 2 ^ 31) (hdg : decode cc pc = .ok (.laload, 1))
    (kk : W p l e R s m args below meth c H locs cells slots Q (F0 m (pc + 1) ls (.long (f j) :: rest))) : W p l e R s m args below meth c H locs cells slots Q (F0 m pc ls (.int i :: .ref a :: rest)) :=
  mx_lald G h 1 ha rfl (vp_j e1 hj hn) hdg (by rw [cl_j e1 hj hn]; exact kk)
theorem ax_a (G : mw_G p m c cc nL s args (cx :: TB) own D cl (tys cA) n0) (h : mw_H n0 D cl s w H locs) (t0 : Nat) {C : String} {x : ClassId} {n v : Nat} {f : Nat → Option Nat} (ha : w a = some (.inl (x, n, .inr (.inr (.inr (.inr f)))))) (ht : (tys cA)[t0]? = some (x, .object C)) {i : Int32} (j : Nat) (e1 : i = nI j) (hj : j < n) (hn : n < 2 ^ 31) (hv : f j = some v) (hdg : decode cc pc = .ok (.aaload, 1))
    (kk : W p l e R s m args below meth c H locs cells slots Q (F0 m (pc + 1) ls (.ref v :: rest))) : W p l e R s m args below meth c H locs cells slots Q (F0 m pc ls (.int i :: .ref a :: rest)) :=
  mx_aald G h t0 ha ht (vp_j e1 hj hn) (by rw [cl_j e1 hj hn]; exact hv) hdg kk
theorem ax_si (G : mw_G p m c cc nL s args (cx :: TB) own D cl (tys cA) n0) (h : mw_H n0 D cl s w H locs) {n : Nat} {f : Nat → Int32} (ha : w a = some (.inl (cA 0, n, .inl f))) {i x : Int32} (j : Nat) (e1 : i = nI j) (hj : j < n) (hn : n < 2 ^ 31) (hdg : decode cc pc = .ok (.iastore, 1))
    (kk : ∀ (H1 : Heap) (locs1 : List Loc), mw_H n0 D cl s (mw_up w a (.inl (cA 0, n, .inl (upd f j x)))) H1 locs1 → W p l e R s m args below meth c H1 locs1 cells slots Q (F0 m (pc + 1) ls rest)) : W p l e R s m args below meth c H locs cells slots Q (F0 m pc ls (.int x :: .int i :: .ref a :: rest)) :=
  mx_iast G h 0 ha rfl (vp_j e1 hj hn) hdg (by rw [cl_j e1 hj hn]; exact kk)
theorem ax_sl (G : mw_G p m c cc nL s args (cx :: TB) own D cl (tys cA) n0) (h : mw_H n0 D cl s w H locs) {n : Nat} {f : Nat → Int64} (ha : w a = some (.inl (cA 1, n, .inr (.inl f)))) {i : Int32} {x : Int64} (j : Nat) (e1 : i = nI j) (hj : j < n) (hn : n < 2 ^ 31) (hdg : decode cc pc = .ok (.lastore, 1))
    (kk : ∀ (H1 : Heap) (locs1 : List Loc), mw_H n0 D cl s (mw_up w a (.inl (cA 1, n, .inr (.inl (vp_updL f j x))))) H1 locs1 → W p l e R s m args below meth c H1 locs1 cells slots Q (F0 m (pc + 1) ls rest)) : W p l e R s m args below meth c H locs cells slots Q (F0 m pc ls (.long x :: .int i :: .ref a :: rest)) :=
  mx_last G h 1 ha rfl (vp_j e1 hj hn) hdg (by rw [cl_j e1 hj hn]; exact kk)
theorem ax_sz (G : mw_G p m c cc nL s args (cx :: TB) own D cl (tys cA) n0) (h : mw_H n0 D cl s w H locs) {n : Nat} {f : Nat → Int32} (ha : w a = some (.inl (cA 2, n, .inl f))) {i x : Int32} (j : Nat) (e1 : i = nI j) (hj : j < n) (hn : n < 2 ^ 31) (hx : vp_nar .boolean x = x) (hdg : decode cc pc = .ok (.bastore, 1))
    (kk : ∀ (H1 : Heap) (locs1 : List Loc), mw_H n0 D cl s (mw_up w a (.inl (cA 2, n, .inl (upd f j x)))) H1 locs1 → W p l e R s m args below meth c H1 locs1 cells slots Q (F0 m (pc + 1) ls rest)) : W p l e R s m args below meth c H locs cells slots Q (F0 m pc ls (.int x :: .int i :: .ref a :: rest)) :=
  mx_zast G h 2 ha rfl (vp_j e1 hj hn) hdg (by rw [cl_j e1 hj hn, hx]; exact kk)
theorem ax_sa (G : mw_G p m c cc nL s args (cx :: TB) own D cl (tys cA) n0) (h : mw_H n0 D cl s w H locs) (t0 ci : Nat) {x : ClassId} {r : vw_C} {n v : Nat} {vs : List Value} {f : Nat → Option Nat} (ha : w a = some (.inl (x, n, .inr (.inr (.inr (.inr f)))))) (ht : (tys cA)[t0]? = some (x, .object r.1)) (hv : w v = some (.inr (ci, vs))) (hc : cl[ci]? = some r) {i : Int32} (j : Nat) (e1 : i = nI j) (hj : j < n) (hn : n < 2 ^ 31) (hdg : decode cc pc = .ok (.aastore, 1))
    (kk : ∀ (H1 : Heap) (locs1 : List Loc), mw_H n0 D cl s (mw_up w a (.inl (x, n, .inr (.inr (.inr (.inr (va_up f j (some v)))))))) H1 locs1 → W p l e R s m args below meth c H1 locs1 cells slots Q (F0 m (pc + 1) ls rest)) : W p l e R s m args below meth c H locs cells slots Q (F0 m pc ls (.ref v :: .int i :: .ref a :: rest)) :=
  mx_aast G h t0 ci ha ht hv hc (vp_j e1 hj hn) hdg (by rw [cl_j e1 hj hn]; exact kk)
end TBR
