/-! The log against the flash and the cache -/
def stF (F : Nat → Nat → Int32) (u : Nat) (x : Int32) : Nat → Nat → Int32 := va_up (va_up F 5 (upd (F 5) u x)) 6 (upd (F 6) u 0)
theorem stF_5 {F : Nat → Nat → Int32} {u v : Nat} {x : Int32} : stF F u x 5 v = if v = u then x else F 5 v := by simp [stF, va_up, upd]
theorem stF_6 {F : Nat → Nat → Int32} {u v : Nat} {x : Int32} : stF F u x 6 v = if v = u then 0 else F 6 v := by simp [stF, va_up, upd]
theorem stF_o {F : Nat → Nat → Int32} {u i : Nat} {x : Int32} (h5 : i ≠ 5) (h6 : i ≠ 6) : stF F u x i = F i := by simp [stF, va_up, h5, h6]
theorem stF_uN {F : Nat → Nat → Int32} {u v : Nat} {x : Int32} : uN (stF F u x) v = uN F v := by simp [uN, stF, va_up]
theorem bestN_cov {F : Nat → Nat → Int32} {x : Int32} : ∀ {n b : Nat}, bestN F x n = some b → cov (uN F b) x
  | 0, b, h => by cases h
  | n + 1, b, h => by
    rw [bestN] at h
    split at h
    · rename_i hc; cases h; exact hc.2.1
    · exact bestN_cov h
/-- rows that agree below n give the same -/
theorem bestN_congr {F F' : Nat → Nat → Int32} {x : Int32} : ∀ {n : Nat}, (∀ v, v < n → F' 5 v = F 5 v ∧ uN F' v = uN F v) → bestN F' x n = bestN F x n
  | 0, _ => rfl
  | n + 1, h => by
    have ih : bestN F' x n = bestN F x n := bestN_congr (fun v hv => h v (by omega))
    have hn := h n (by omega)
    rw [bestN, bestN, ih, hn.1, hn.2]
    have e : (∀ b, bestN F x n = some b → F' 5 b < F 5 n) ↔ (∀ b, bestN F x n = some b → F 5 b < F 5 n) := by
      constructor
      · intro z b hb; rw [← (h b (by have := bestN_lt hb; omega)).1]; exact z b hb
      · intro z b hb; rw [(h b (by have := bestN_lt hb; omega)).1]; exact z b hb
    simp only [e]
theorem liveN_congr {F F' : Nat → Nat → Int32} : ∀ {n : Nat}, (∀ v, v < n → F' 6 v = F 6 v) → liveN F' n = liveN F n
  | 0, _ => rfl
  | n + 1, h => by rw [liveN_s, liveN_s, liveN_congr (fun v hv => h v (by omega)), h n (by omega)]
theorem liveN_mem {F : Nat → Nat → Int32} {n u : Nat} : u ∈ liveN F n ↔ u < n ∧ ¬ F 6 u = 0 := by simp [liveN]
theorem bestN_c {F : Nat → Nat → Int32} {x : Int32} {n : Nat} (h : 0 < F 5 n ∧ cov (uN F n) x ∧ ∀ b, bestN F x n = some b → F 5 b < F 5 n) : bestN F x (n + 1) = some n := by rw [bestN]; exact if_pos h
theorem bestN_k {F : Nat → Nat → Int32} {x : Int32} {n : Nat} (h : ¬ (0 < F 5 n ∧ cov (uN F n) x ∧ ∀ b, bestN F x n = some b → F 5 b < F 5 n)) : bestN F x (n + 1) = bestN F x n := by rw [bestN]; exact if_neg h
theorem bestN_lo {F : Nat → Nat → Int32} {u n : Nat} {x y : Int32} (h : n ≤ u) : bestN (stF F u y) x n = bestN F x n := bestN_congr (fun v hv => ⟨by rw [stF_5, if_neg (by omega)], stF_uN⟩)
theorem bestN_st {F : Nat → Nat → Int32} {u sn : Nat} {x : Int32} (hsn : sn < 1000000) : ∀ {n : Nat}, u < n → (∀ v, v < n → ∃ k, k ≤ sn ∧ F 5 v = nI k) → bestN (stF F u (nI (sn + 1))) x n = if cov (uN F u) x then some u else bestN F x n
  | 0, hu, _ => by omega
  | n + 1, hu, h => by
    obtain ⟨kn, hkn, ekn⟩ := h n (by omega)
    by_cases e : n = u
    · subst e
      by_cases hc : cov (uN F n) x
      · rw [if_pos hc]
        refine bestN_c ⟨by rw [stF_5, if_pos rfl, ← nI_0]; exact nI_lt (by omega) (by omega), by rw [stF_uN]; exact hc, fun b hb => ?_⟩
        have hbn := bestN_lt hb
        obtain ⟨kb, hkb, ekb⟩ := h b (by omega)
        rw [stF_5, if_neg (by omega), stF_5, if_pos rfl, ekb]
        exact nI_lt (by omega) (by omega)
      · rw [if_neg hc, bestN_k (fun z => hc (by have z2 := z.2.1; rw [stF_uN] at z2; exact z2)), bestN_k (fun z => hc z.2.1), bestN_lo (Nat.le_refl _)]
    · have ih := bestN_st hsn (n := n) (u := u) (x := x) (by omega) (fun v hv => h v (by omega))
      have e5 : stF F u (nI (sn + 1)) 5 n = F 5 n := by rw [stF_5, if_neg e]
      by_cases hc : cov (uN F u) x
      · rw [if_pos hc] at ih ⊢
        rw [bestN_k, ih]
        intro z
        have z2 := z.2.2 u ih
        rw [e5, stF_5, if_pos rfl, ekn, nI_ltI (by omega) (by omega)] at z2
        omega
      · rw [if_neg hc] at ih ⊢
        have hne : ∀ b, bestN F x n = some b → stF F u (nI (sn + 1)) 5 b = F 5 b := fun b hb => by
          rw [stF_5, if_neg (fun z => hc (by rw [← z]; exact bestN_cov hb))]
        by_cases hp : 0 < F 5 n ∧ cov (uN F n) x ∧ ∀ b, bestN F x n = some b → F 5 b < F 5 n
        · rw [bestN_c hp]
          exact bestN_c ⟨by rw [e5]; exact hp.1, by rw [stF_uN]; exact hp.2.1, fun b hb => by rw [ih] at hb; rw [hne b hb, e5]; exact hp.2.2 b hb⟩
        · rw [bestN_k hp, bestN_k, ih]
          intro z
          exact hp ⟨by have := z.1; rw [e5] at this; exact this, by have := z.2.1; rw [stF_uN] at this; exact this, fun b hb => by have := z.2.2 b (by rw [ih]; exact hb); rw [hne b hb, e5] at this; exact this⟩
theorem inFl_st {F : Nat → Nat → Int32} {u sn n : Nat} {x : Int32} (hsn : sn < 1000000) (hu : u < n) (h : ∀ v, v < n → ∃ k, k ≤ sn ∧ F 5 v = nI k) : inFl (stF F u (nI (sn + 1))) n x = if cov (uN F u) x then wrd (uN F u) x else inFl F n x := by
  rw [inFl, bestN_st hsn hu h]
  by_cases hc : cov (uN F u) x
  · rw [if_pos hc, if_pos hc]
    show wrd (uN (stF F u (nI (sn + 1))) u) x = _
    rw [stF_uN]
  · rw [if_neg hc, if_neg hc, inFl]
    cases bestN F x n with
    | none => rfl
    | some b => show wrd (uN (stF F u (nI (sn + 1))) b) x = _; rw [stF_uN]
theorem liveN_st {F : Nat → Nat → Int32} {u : Nat} {x : Int32} : ∀ {n : Nat}, liveN (stF F u x) n = (liveN F n).filter (fun v => decide (v ≠ u))
  | 0 => rfl
  | n + 1 => by
    rw [liveN_s, liveN_s, liveN_st, stF_6]
    by_cases hu : n = u
    · subst hu
      rw [if_pos rfl, if_pos rfl]
      split
      · rfl
      · simp
    · rw [if_neg hu]
      split
      · rfl
      · simp [hu]
theorem liveN_nd {F : Nat → Nat → Int32} {n : Nat} : (liveN F n).Nodup := List.Pairwise.filter _ List.nodup_range
theorem liveN_hd {F : Nat → Nat → Int32} {u n : Nat} {x : Int32} {r : List Nat} (h : liveN F n = u :: r) : liveN (stF F u x) n = r := by
  have hn := liveN_nd (F := F) (n := n)
  rw [h] at hn
  rw [liveN_st, h]
  have hr : ∀ v ∈ r, v ≠ u := fun v hv z => (List.nodup_cons.mp hn).1 (by rw [← z]; exact hv)
  simp
  exact hr
theorem covN {u : uU} {a : Nat} (hv : vU u) (ha : a < 24) : cov u (nI a) ↔ fsU u ≤ a ∧ a < fsU u + lnU u := by
  obtain ⟨h1, h2, h3, h4, h5, -⟩ := hv
  unfold cov
  rw [h1, h2, nI_add]
  rw [nI_leI (by omega) (by omega), nI_ltI (by omega) (by omega)]
/-- the log tells this flash, this cache -/
def LG (F : Nat → Nat → Int32) (un sn : Nat) (fl : Nat → Int64) (us : List uU) : Prop :=
  us = (liveN F un).map (uN F) ∧ (∀ a, a < 24 → fl a = inFl F un (nI a)) ∧ (∀ u, u < un → vU (uN F u)) ∧ (∀ u, u < un → ∃ k, k ≤ sn ∧ F 5 u = nI k) ∧ (∀ u, un ≤ u → F 6 u = 0) ∧ sn + (liveN F un).length ≤ un ∧ un ≤ 512
theorem LG.hldE {F : Nat → Nat → Int32} {un sn : Nat} {fl : Nat → Int64} {us : List uU} (h : LG F un sn fl us) {a : Nat} (ha : a < 24) : hldN F un (nI a) un = hld fl us a := by
  have key : ∀ n, hldN F un (nI a) n = hld fl ((liveN F n).map (uN F)) a := by
    intro n
    induction n with
    | zero => show inFl F un (nI a) = fl a; exact (h.2.1 a ha).symm
    | succ n ih =>
      rw [hldN, liveN_s]
      by_cases h6 : F 6 n = 0
      · rw [if_neg (fun z => z.1 h6), if_pos h6]; exact ih
      · rw [if_neg h6, List.map_append, List.map_cons, List.map_nil, hld_snoc]
        by_cases hc : cov (uN F n) (nI a)
        · rw [if_pos ⟨h6, hc⟩, if_pos hc]
        · rw [if_neg (fun z => hc z.2), if_neg hc]; exact ih
  rw [key un, h.1]
theorem LG.store {F : Nat → Nat → Int32} {un sn : Nat} {fl : Nat → Int64} {us us' : List uU} (h : LG F un sn fl us) {u : Nat} (hu : u < un) (hl : sn + 1 + us'.length ≤ un) (hus : us' = (liveN (stF F u (nI (sn + 1))) un).map (uN F)) : LG (stF F u (nI (sn + 1))) un (sn + 1) (apU (uN F u) (lnU (uN F u)) fl) us' := by
  obtain ⟨h1, h2, h3, h4, h5, h6, h7⟩ := h
  refine ⟨?_, fun a ha => ?_, fun v hv => by rw [stF_uN]; exact h3 v hv, fun v hv => ?_, fun v hv => ?_, ?_, h7⟩
  · rw [hus]; exact List.map_congr_left (fun v _ => stF_uN.symm)
  · rw [inFl_st (by omega) hu h4, apU]
    by_cases hc : cov (uN F u) (nI a)
    · rw [if_pos hc, if_pos ((covN (h3 u hu) ha).mp hc)]
    · rw [if_neg hc, if_neg (fun z => hc ((covN (h3 u hu) ha).mpr z))]; exact h2 a ha
  · rw [stF_5]
    by_cases e : v = u
    · rw [if_pos e]; exact ⟨sn + 1, Nat.le_refl _, rfl⟩
    · rw [if_neg e]; obtain ⟨k, hk, e2⟩ := h4 v hv; exact ⟨k, by omega, e2⟩
  · rw [stF_6]
    by_cases e : v = u
    · rw [if_pos e]
    · rw [if_neg e]; exact h5 v hv
  · have : us'.length = (liveN (stF F u (nI (sn + 1))) un).length := by rw [hus, List.length_map]
    omega
/-- rows 7 and on are the same -/
def SF (F F' : Nat → Nat → Int32) : Prop := ∀ i, 7 ≤ i → F' i = F i
theorem SF.rf {F : Nat → Nat → Int32} : SF F F := fun _ _ => rfl
theorem SF.tr {F F1 F2 : Nat → Nat → Int32} (h1 : SF F F1) (h2 : SF F1 F2) : SF F F2 := fun i hi => (h2 i hi).trans (h1 i hi)
theorem SF.st {F : Nat → Nat → Int32} {u : Nat} {x : Int32} : SF F (stF F u x) := fun i hi => stF_o (by omega) (by omega)
def MC (cA : Nat → ClassId) (w : mw) (ρ q : Nat → Nat) (lim un cm cp : Nat) (tk : Int32) (rs : Int64) (F : Nat → Nat → Int32) (R : Nat → Int64) (κ : kS) : Prop :=
  MX cA w ρ q lim un κ.2.2.1 κ.2.2.2.1 κ.2.2.2.2 cm cp tk rs F R ∧ LG F un κ.2.2.1 κ.1 κ.2.1
abbrev P7 (ρ : Nat → Nat) : Nat → Prop := fun y => ρ y = 7
theorem d_M_store_0 : decode b_M_store 0 = .ok (.iconst 0, 1) := by decide +kernel
theorem d_M_store_1 : decode b_M_store 1 = .ok (.istore_n 2, 1) := by decide +kernel
theorem d_M_store_2 : decode b_M_store 2 = .ok (.iload_n 2, 1) := by decide +kernel
theorem d_M_store_3 : decode b_M_store 3 = .ok (.aload_n 0, 1) := by decide +kernel
theorem d_M_store_4 : decode b_M_store 4 = .ok (.getfield 13, 3) := by decide +kernel
theorem d_M_store_7 : decode b_M_store 7 = .ok (.iload_n 1, 1) := by decide +kernel
theorem d_M_store_8 : decode b_M_store 8 = .ok (.iaload, 1) := by decide +kernel
theorem d_M_store_9 : decode b_M_store 9 = .ok (.if_icmp .ge 38, 3) := by decide +kernel
theorem d_M_store_12 : decode b_M_store 12 = .ok (.aload_n 0, 1) := by decide +kernel
theorem d_M_store_13 : decode b_M_store 13 = .ok (.getfield 79, 3) := by decide +kernel
theorem d_M_store_16 : decode b_M_store 16 = .ok (.ifCond .ne 5, 3) := by decide +kernel
theorem d_M_store_19 : decode b_M_store 19 = .ok (.iconst 0, 1) := by decide +kernel
theorem d_M_store_20 : decode b_M_store 20 = .ok (.ireturn, 1) := by decide +kernel
theorem d_M_store_21 : decode b_M_store 21 = .ok (.aload_n 0, 1) := by decide +kernel
theorem d_M_store_22 : decode b_M_store 22 = .ok (.dup, 1) := by decide +kernel
theorem d_M_store_23 : decode b_M_store 23 = .ok (.getfield 79, 3) := by decide +kernel
theorem d_M_store_26 : decode b_M_store 26 = .ok (.iconst 1, 1) := by decide +kernel
theorem d_M_store_27 : decode b_M_store 27 = .ok (.isub, 1) := by decide +kernel
theorem d_M_store_28 : decode b_M_store 28 = .ok (.putfield 79, 3) := by decide +kernel
theorem d_M_store_31 : decode b_M_store 31 = .ok (.aload_n 0, 1) := by decide +kernel
theorem d_M_store_32 : decode b_M_store 32 = .ok (.dup, 1) := by decide +kernel
theorem d_M_store_33 : decode b_M_store 33 = .ok (.getfield 82, 3) := by decide +kernel
theorem d_M_store_36 : decode b_M_store 36 = .ok (.iconst 1, 1) := by decide +kernel
theorem d_M_store_37 : decode b_M_store 37 = .ok (.iadd, 1) := by decide +kernel
theorem d_M_store_38 : decode b_M_store 38 = .ok (.putfield 82, 3) := by decide +kernel
theorem d_M_store_41 : decode b_M_store 41 = .ok (.iinc 2 1, 3) := by decide +kernel
theorem d_M_store_44 : decode b_M_store 44 = .ok (.goto (-42), 3) := by decide +kernel
theorem d_M_store_47 : decode b_M_store 47 = .ok (.aload_n 0, 1) := by decide +kernel
theorem d_M_store_48 : decode b_M_store 48 = .ok (.dup, 1) := by decide +kernel
theorem d_M_store_49 : decode b_M_store 49 = .ok (.getfield 85, 3) := by decide +kernel
theorem d_M_store_52 : decode b_M_store 52 = .ok (.iconst 1, 1) := by decide +kernel
theorem d_M_store_53 : decode b_M_store 53 = .ok (.iadd, 1) := by decide +kernel
theorem d_M_store_54 : decode b_M_store 54 = .ok (.putfield 85, 3) := by decide +kernel
theorem d_M_store_57 : decode b_M_store 57 = .ok (.aload_n 0, 1) := by decide +kernel
theorem d_M_store_58 : decode b_M_store 58 = .ok (.getfield 23, 3) := by decide +kernel
theorem d_M_store_61 : decode b_M_store 61 = .ok (.iload_n 1, 1) := by decide +kernel
theorem d_M_store_62 : decode b_M_store 62 = .ok (.aload_n 0, 1) := by decide +kernel
theorem d_M_store_63 : decode b_M_store 63 = .ok (.getfield 85, 3) := by decide +kernel
theorem d_M_store_66 : decode b_M_store 66 = .ok (.iastore, 1) := by decide +kernel
theorem d_M_store_67 : decode b_M_store 67 = .ok (.aload_n 0, 1) := by decide +kernel
theorem d_M_store_68 : decode b_M_store 68 = .ok (.getfield 26, 3) := by decide +kernel
theorem d_M_store_71 : decode b_M_store 71 = .ok (.iload_n 1, 1) := by decide +kernel
theorem d_M_store_72 : decode b_M_store 72 = .ok (.iconst 0, 1) := by decide +kernel
theorem d_M_store_73 : decode b_M_store 73 = .ok (.bastore, 1) := by decide +kernel
theorem d_M_store_74 : decode b_M_store 74 = .ok (.iconst 1, 1) := by decide +kernel
theorem d_M_store_75 : decode b_M_store 75 = .ok (.ireturn, 1) := by decide +kernel
theorem d_M_storeOldest_0 : decode b_M_storeOldest 0 = .ok (.iconst 0, 1) := by decide +kernel
theorem d_M_storeOldest_1 : decode b_M_storeOldest 1 = .ok (.istore_n 1, 1) := by decide +kernel
theorem d_M_storeOldest_2 : decode b_M_storeOldest 2 = .ok (.iload_n 1, 1) := by decide +kernel
theorem d_M_storeOldest_3 : decode b_M_storeOldest 3 = .ok (.aload_n 0, 1) := by decide +kernel
theorem d_M_storeOldest_4 : decode b_M_storeOldest 4 = .ok (.getfield 64, 3) := by decide +kernel
theorem d_M_storeOldest_7 : decode b_M_storeOldest 7 = .ok (.if_icmp .ge 24, 3) := by decide +kernel
theorem d_M_storeOldest_10 : decode b_M_storeOldest 10 = .ok (.aload_n 0, 1) := by decide +kernel
theorem d_M_storeOldest_11 : decode b_M_storeOldest 11 = .ok (.getfield 26, 3) := by decide +kernel
theorem d_M_storeOldest_14 : decode b_M_storeOldest 14 = .ok (.iload_n 1, 1) := by decide +kernel
theorem d_M_storeOldest_15 : decode b_M_storeOldest 15 = .ok (.baload, 1) := by decide +kernel
theorem d_M_storeOldest_16 : decode b_M_storeOldest 16 = .ok (.ifCond .eq 9, 3) := by decide +kernel
theorem d_M_storeOldest_19 : decode b_M_storeOldest 19 = .ok (.aload_n 0, 1) := by decide +kernel
theorem d_M_storeOldest_20 : decode b_M_storeOldest 20 = .ok (.iload_n 1, 1) := by decide +kernel
theorem d_M_storeOldest_21 : decode b_M_storeOldest 21 = .ok (.invokevirtual 88, 3) := by decide +kernel
theorem d_M_storeOldest_24 : decode b_M_storeOldest 24 = .ok (.ireturn, 1) := by decide +kernel
theorem d_M_storeOldest_25 : decode b_M_storeOldest 25 = .ok (.iinc 1 1, 3) := by decide +kernel
theorem d_M_storeOldest_28 : decode b_M_storeOldest 28 = .ok (.goto (-26), 3) := by decide +kernel
theorem d_M_storeOldest_31 : decode b_M_storeOldest 31 = .ok (.iconst 1, 1) := by decide +kernel
theorem d_M_storeOldest_32 : decode b_M_storeOldest 32 = .ok (.ireturn, 1) := by decide +kernel
theorem d_M_empty_0 : decode b_M_empty 0 = .ok (.iconst 1, 1) := by decide +kernel
theorem d_M_empty_1 : decode b_M_empty 1 = .ok (.istore_n 1, 1) := by decide +kernel
theorem d_M_empty_2 : decode b_M_empty 2 = .ok (.iload_n 1, 1) := by decide +kernel
theorem d_M_empty_3 : decode b_M_empty 3 = .ok (.ifCond .eq 18, 3) := by decide +kernel
theorem d_M_empty_6 : decode b_M_empty 6 = .ok (.aload_n 0, 1) := by decide +kernel
theorem d_M_empty_7 : decode b_M_empty 7 = .ok (.invokevirtual 92, 3) := by decide +kernel
theorem d_M_empty_10 : decode b_M_empty 10 = .ok (.ifCond .le 11, 3) := by decide +kernel
theorem d_M_empty_13 : decode b_M_empty 13 = .ok (.aload_n 0, 1) := by decide +kernel
theorem d_M_empty_14 : decode b_M_empty 14 = .ok (.invokevirtual 96, 3) := by decide +kernel
theorem d_M_empty_17 : decode b_M_empty 17 = .ok (.istore_n 1, 1) := by decide +kernel
theorem d_M_empty_18 : decode b_M_empty 18 = .ok (.goto (-16), 3) := by decide +kernel
theorem d_M_empty_21 : decode b_M_empty 21 = .ok (.iload_n 1, 1) := by decide +kernel
theorem d_M_empty_22 : decode b_M_empty 22 = .ok (.ireturn, 1) := by decide +kernel
set_option maxHeartbeats 4000000 in
set_option maxRecDepth 100000 in
theorem m_M_store {l : Launch} {D : va_G} {cA : Nat → ClassId} {n0 : Nat} {w : mw} {ρ q : Nat → Nat} {lim un sn pg bd cm cp : Nat} {tk : Int32} {rs : Int64} {F : Nat → Nat → Int32} {R : Nat → Int64} (X : MX cA w ρ q lim un sn pg bd cm cp tk rs F R) {u : Nat} (hu : u < 520) (hV : vU (uN F u)) (hbd : bd < 1000) {y : Int32} (hyu : y = nI u) :
    Mi l D cA n0 y_M_store c_M_store (rmd 0) [.ref (q 0), .int y] w (fun r w' => (lnU (uN F u) ≤ bd → r = 1 ∧ MX cA w' ρ q lim un (sn + 1) (pg + lnU (uN F u)) (bd - lnU (uN F u)) cm cp tk rs (stF F u (nI (sn + 1))) R ∧ FR w w' (P7 ρ)) ∧ (bd < lnU (uN F u) → r = 0 ∧ MX cA w' ρ q lim un sn (pg + bd) 0 cm cp tk rs F R ∧ FR w w' (P7 ρ))) := by
  refine mw_met (cc := b_M_store) (maxL := 3) (ret := (some .boolean)) (by decide) rfl (Nat.le_of_ble_eq_true rfl) ?_
  intro p e s m below meth c ls G hrt hlocks hname h hl
  have G : mw_G p m c b_M_store 3 s _ (c_M_store :: TB) R_M D cl (tys cA) n0 := G
  have hx := G.1.1
  have hb := G.1.2.1
  have hl : lv_has ls 3 [(0, .ref (q 0)), (1, .int y)] := hl
  obtain ⟨hu1, hu2, hl1, hl4, h24, hz⟩ := hV
  have hu2 : F 2 u = nI (lnU (uN F u)) := hu2
  obtain ⟨ln, hln⟩ : ∃ n, n = lnU (uN F u) := ⟨_, rfl⟩
  rw [← hln] at hu2 hl1 hl4 h24 ⊢
  refine lv_iconst (v := 0) hx hb d_M_store_0 (by decide) ?_
  refine lv_istore_n (lv' := [(2, .int 0), (0, .ref (q 0)), (1, .int y)]) hx hb d_M_store_1 rfl hl (by decide) rfl (fun ls hl => ?_)
  have r0 := X.2.2.2.2.2.1
  have loop : ∀ (t i : Nat), i + t = ln → i ≤ bd → ∀ (v : mw), MX cA v ρ q lim un sn (pg + i) (bd - i) cm cp tk rs F R → FR w v (P7 ρ) → ∀ (H : Heap) (locs : List Loc) (ls : Array Slot), mw_H n0 D cl s v H locs → lv_has ls 3 [(2, .int (nI i)), (0, .ref (q 0)), (1, .int y)] → W p l e (rmd 0) s m ([.ref (q 0), .int y] : List Value).toArray below meth c H locs 0 0 (MQ below (mw_Qi n0 D cl (fun r w' => (ln ≤ bd → r = 1 ∧ MX cA w' ρ q lim un (sn + 1) (pg + ln) (bd - ln) cm cp tk rs (stF F u (nI (sn + 1))) R ∧ FR w w' (P7 ρ)) ∧ (bd < ln → r = 0 ∧ MX cA w' ρ q lim un sn (pg + bd) 0 cm cp tk rs F R ∧ FR w w' (P7 ρ)))) ([.ref (q 0), .int y] : List Value).toArray s 0 0 (mw_A n0)) (F0 m 2 ls []) := by
    intro t
    induction t with
    | zero =>
      intro i hi hib v V hfr H locs ls h hl
      have hi : i = ln := hi
      subst hi
      refine lv_iload_n hx hb d_M_store_2 rfl (lv_at hl 0 rfl) ?_
      refine lv_aload_n hx hb d_M_store_3 rfl (lv_at hl 1 rfl) ?_
      refine mx_get G h V.1 rfl 2 (by decide) (tb_in in_M) (tb_c k_314) rfl rfl d_M_store_4 ?_
      refine lv_iload_n hx hb d_M_store_7 rfl (lv_at hl 2 rfl) ?_
      refine ax_i G h (V.2.1 2 (by decide)) u hyu hu (by decide) d_M_store_8 ?_
      refine lv_icmp_ge (tgt := 47) hx hb d_M_store_9 (by decide) (fun c_1 => ?_) (fun c_1 => ?_)
      · refine lv_aload_n hx hb d_M_store_47 rfl (lv_at hl 1 rfl) ?_
        refine lv_dup hx hb d_M_store_48 rfl ?_
        refine mx_get G h V.1 rfl 8 (by decide) (tb_in in_M) (tb_c k_320) rfl rfl d_M_store_49 ?_
        refine lv_iconst (v := 1) hx hb d_M_store_52 (by decide) ?_
        refine lv_iadd hx hb d_M_store_53 ?_
        have et_2 : (nI sn) + 1 = nI (sn + 1) := nI_1 sn
        rw [et_2]
        refine mx_put G h V.1 rfl 8 (by decide) (tb_in in_M) t_M t_M_ok n_M (tb_c k_320) rfl rfl rfl rfl rfl (Nat.le_of_ble_eq_true rfl) d_M_store_54 (fun H locs h => ?_)
        have h : mw_H n0 D cl s (mw_up v (q 0) (.inr (5, [.int (nI lim), .ref (q 1), .ref (q 2), .ref (q 3), .ref (q 4), .ref (q 5), .ref (q 6), .int (nI un), .int (nI (sn + 1)), .int (nI (pg + i)), .int (nI (bd - i)), .ref (q 11), .ref (q 12), .ref (q 13), .ref (q 14), .ref (q 15), .int (nI cm), .ref (q 17), .ref (q 18), .ref (q 19), .int (nI cp), .int tk, .long rs]))) H locs := h
        obtain ⟨w_3, ew_3⟩ : ∃ xx : mw, mw_up v (q 0) (.inr (5, [.int (nI lim), .ref (q 1), .ref (q 2), .ref (q 3), .ref (q 4), .ref (q 5), .ref (q 6), .int (nI un), .int (nI (sn + 1)), .int (nI (pg + i)), .int (nI (bd - i)), .ref (q 11), .ref (q 12), .ref (q 13), .ref (q 14), .ref (q 15), .int (nI cm), .ref (q 17), .ref (q 18), .ref (q 19), .int (nI cp), .int tk, .long rs])) = xx := ⟨_, rfl⟩
        rw [ew_3] at h
        have f_4 : w_3 (q 0) = some (.inr (5, [.int (nI lim), .ref (q 1), .ref (q 2), .ref (q 3), .ref (q 4), .ref (q 5), .ref (q 6), .int (nI un), .int (nI (sn + 1)), .int (nI (pg + i)), .int (nI (bd - i)), .ref (q 11), .ref (q 12), .ref (q 13), .ref (q 14), .ref (q 15), .int (nI cm), .ref (q 17), .ref (q 18), .ref (q 19), .int (nI cp), .int tk, .long rs])) := by rw [← ew_3]; exact mw_self
        have V1 : MX cA w_3 ρ q lim un (sn + 1) (pg + i) (bd - i) cm cp tk rs F R := by rw [← ew_3]; exact V.put0 un (sn + 1) (pg + i) (bd - i) cm cp tk rs
        have hfr1 : FR w w_3 (P7 ρ) := hfr.tr (by rw [← ew_3]; exact FQ r0)
        refine lv_aload_n hx hb d_M_store_57 rfl (lv_at hl 1 rfl) ?_
        refine mx_get G h V1.1 rfl 5 (by decide) (tb_in in_M) (tb_c k_317) rfl rfl d_M_store_58 ?_
        refine lv_iload_n hx hb d_M_store_61 rfl (lv_at hl 2 rfl) ?_
        refine lv_aload_n hx hb d_M_store_62 rfl (lv_at hl 1 rfl) ?_
        refine mx_get G h V1.1 rfl 8 (by decide) (tb_in in_M) (tb_c k_320) rfl rfl d_M_store_63 ?_
        refine ax_si G h (V1.2.1 5 (by decide)) u hyu hu (by decide) d_M_store_66 (fun H locs h => ?_)
        have h : mw_H n0 D cl s (mw_up w_3 (q 5) (.inl (cA 0, 520, .inl (upd (F 5) u (nI (sn + 1)))))) H locs := h
        obtain ⟨w_5, ew_5⟩ : ∃ xx : mw, mw_up w_3 (q 5) (.inl (cA 0, 520, .inl (upd (F 5) u (nI (sn + 1))))) = xx := ⟨_, rfl⟩
        rw [ew_5] at h
        have f_6 : w_5 (q 5) = some (.inl (cA 0, 520, .inl (upd (F 5) u (nI (sn + 1))))) := by rw [← ew_5]; exact mw_self
        have V2 : MX cA w_5 ρ q lim un (sn + 1) (pg + i) (bd - i) cm cp tk rs (va_up F 5 (upd (F 5) u (nI (sn + 1)))) R := by rw [← ew_5]; exact V1.putI 5 (by decide) _
        have hfr2 : FR w w_5 (P7 ρ) := hfr1.tr (by rw [← ew_5]; exact FQ (X.2.2.2.2.2.2.1 5 (by decide)))
        refine lv_aload_n hx hb d_M_store_67 rfl (lv_at hl 1 rfl) ?_
        refine mx_get G h V2.1 rfl 6 (by decide) (tb_in in_M) (tb_c k_318) rfl rfl d_M_store_68 ?_
        refine lv_iload_n hx hb d_M_store_71 rfl (lv_at hl 2 rfl) ?_
        refine lv_iconst (v := 0) hx hb d_M_store_72 (by decide) ?_
        refine ax_sz G h (V2.2.2.1 6 (by decide)) u hyu hu (by decide) (by decide) d_M_store_73 (fun H locs h => ?_)
        have h : mw_H n0 D cl s (mw_up w_5 (q 6) (.inl (cA 2, 520, .inl (upd ((va_up F 5 (upd (F 5) u (nI (sn + 1)))) 6) u 0)))) H locs := h
        obtain ⟨w_7, ew_7⟩ : ∃ xx : mw, mw_up w_5 (q 6) (.inl (cA 2, 520, .inl (upd ((va_up F 5 (upd (F 5) u (nI (sn + 1)))) 6) u 0))) = xx := ⟨_, rfl⟩
        rw [ew_7] at h
        have f_8 : w_7 (q 6) = some (.inl (cA 2, 520, .inl (upd ((va_up F 5 (upd (F 5) u (nI (sn + 1)))) 6) u 0))) := by rw [← ew_7]; exact mw_self
        have V3 : MX cA w_7 ρ q lim un (sn + 1) (pg + i) (bd - i) cm cp tk rs (stF F u (nI (sn + 1))) R := by rw [← ew_7]; exact V2.putZ 6 (by decide) _
        have hfr3 : FR w w_7 (P7 ρ) := hfr2.tr (by rw [← ew_7]; exact FQ (X.2.2.2.2.2.2.1 6 (by decide)))
        refine lv_iconst (v := 1) hx hb d_M_store_74 (by decide) ?_
        exact mx_retz G h hrt hlocks d_M_store_75 rfl (⟨fun _ => ⟨rfl, V3, hfr3⟩, fun z => absurd z (by omega)⟩)
      · exact absurd (by rw [hu2]; exact Int32.le_refl _) c_1
    | succ t ih =>
      intro i hi hib v V hfr H locs ls h hl
      refine lv_iload_n hx hb d_M_store_2 rfl (lv_at hl 0 rfl) ?_
      refine lv_aload_n hx hb d_M_store_3 rfl (lv_at hl 1 rfl) ?_
      refine mx_get G h V.1 rfl 2 (by decide) (tb_in in_M) (tb_c k_314) rfl rfl d_M_store_4 ?_
      refine lv_iload_n hx hb d_M_store_7 rfl (lv_at hl 2 rfl) ?_
      refine ax_i G h (V.2.1 2 (by decide)) u hyu hu (by decide) d_M_store_8 ?_
      refine lv_icmp_ge (tgt := 47) hx hb d_M_store_9 (by decide) (fun c_9 => ?_) (fun c_9 => ?_)
      · exact absurd c_9 (by rw [hu2, nI_leI (by omega) (by omega)]; omega)
      · refine lv_aload_n hx hb d_M_store_12 rfl (lv_at hl 1 rfl) ?_
        refine mx_get G h V.1 rfl 10 (by decide) (tb_in in_M) (tb_c k_322) rfl rfl d_M_store_13 ?_
        refine lv_if_ne (tgt := 21) hx hb d_M_store_16 (by decide) (fun c_10 => ?_) (fun c_10 => ?_)
        · have hlt : i < bd := by
            rcases Nat.lt_or_ge i bd with z | z
            · exact z
            · exact absurd (by rw [show bd - i = 0 by omega]; rfl) c_10
          refine lv_aload_n hx hb d_M_store_21 rfl (lv_at hl 1 rfl) ?_
          refine lv_dup hx hb d_M_store_22 rfl ?_
          refine mx_get G h V.1 rfl 10 (by decide) (tb_in in_M) (tb_c k_322) rfl rfl d_M_store_23 ?_
          refine lv_iconst (v := 1) hx hb d_M_store_26 (by decide) ?_
          refine lv_isub hx hb d_M_store_27 ?_
          have et_11 : (nI (bd - i)) - 1 = nI (bd - (i + 1)) := by rw [nI_sub1 (by omega)]; congr 1
          rw [et_11]
          refine mx_put G h V.1 rfl 10 (by decide) (tb_in in_M) t_M t_M_ok n_M (tb_c k_322) rfl rfl rfl rfl rfl (Nat.le_of_ble_eq_true rfl) d_M_store_28 (fun H locs h => ?_)
          have h : mw_H n0 D cl s (mw_up v (q 0) (.inr (5, [.int (nI lim), .ref (q 1), .ref (q 2), .ref (q 3), .ref (q 4), .ref (q 5), .ref (q 6), .int (nI un), .int (nI sn), .int (nI (pg + i)), .int (nI (bd - (i + 1))), .ref (q 11), .ref (q 12), .ref (q 13), .ref (q 14), .ref (q 15), .int (nI cm), .ref (q 17), .ref (q 18), .ref (q 19), .int (nI cp), .int tk, .long rs]))) H locs := h
          obtain ⟨w_12, ew_12⟩ : ∃ xx : mw, mw_up v (q 0) (.inr (5, [.int (nI lim), .ref (q 1), .ref (q 2), .ref (q 3), .ref (q 4), .ref (q 5), .ref (q 6), .int (nI un), .int (nI sn), .int (nI (pg + i)), .int (nI (bd - (i + 1))), .ref (q 11), .ref (q 12), .ref (q 13), .ref (q 14), .ref (q 15), .int (nI cm), .ref (q 17), .ref (q 18), .ref (q 19), .int (nI cp), .int tk, .long rs])) = xx := ⟨_, rfl⟩
          rw [ew_12] at h
          have f_13 : w_12 (q 0) = some (.inr (5, [.int (nI lim), .ref (q 1), .ref (q 2), .ref (q 3), .ref (q 4), .ref (q 5), .ref (q 6), .int (nI un), .int (nI sn), .int (nI (pg + i)), .int (nI (bd - (i + 1))), .ref (q 11), .ref (q 12), .ref (q 13), .ref (q 14), .ref (q 15), .int (nI cm), .ref (q 17), .ref (q 18), .ref (q 19), .int (nI cp), .int tk, .long rs])) := by rw [← ew_12]; exact mw_self
          refine lv_aload_n hx hb d_M_store_31 rfl (lv_at hl 1 rfl) ?_
          refine lv_dup hx hb d_M_store_32 rfl ?_
          refine mx_get G h f_13 rfl 9 (by decide) (tb_in in_M) (tb_c k_321) rfl rfl d_M_store_33 ?_
          refine lv_iconst (v := 1) hx hb d_M_store_36 (by decide) ?_
          refine lv_iadd hx hb d_M_store_37 ?_
          have et_14 : (nI (pg + i)) + 1 = nI (pg + (i + 1)) := by rw [nI_1]; rfl
          rw [et_14]
          refine mx_put G h f_13 rfl 9 (by decide) (tb_in in_M) t_M t_M_ok n_M (tb_c k_321) rfl rfl rfl rfl rfl (Nat.le_of_ble_eq_true rfl) d_M_store_38 (fun H locs h => ?_)
          have h : mw_H n0 D cl s (mw_up w_12 (q 0) (.inr (5, [.int (nI lim), .ref (q 1), .ref (q 2), .ref (q 3), .ref (q 4), .ref (q 5), .ref (q 6), .int (nI un), .int (nI sn), .int (nI (pg + (i + 1))), .int (nI (bd - (i + 1))), .ref (q 11), .ref (q 12), .ref (q 13), .ref (q 14), .ref (q 15), .int (nI cm), .ref (q 17), .ref (q 18), .ref (q 19), .int (nI cp), .int tk, .long rs]))) H locs := h
          obtain ⟨w_15, ew_15⟩ : ∃ xx : mw, mw_up w_12 (q 0) (.inr (5, [.int (nI lim), .ref (q 1), .ref (q 2), .ref (q 3), .ref (q 4), .ref (q 5), .ref (q 6), .int (nI un), .int (nI sn), .int (nI (pg + (i + 1))), .int (nI (bd - (i + 1))), .ref (q 11), .ref (q 12), .ref (q 13), .ref (q 14), .ref (q 15), .int (nI cm), .ref (q 17), .ref (q 18), .ref (q 19), .int (nI cp), .int tk, .long rs])) = xx := ⟨_, rfl⟩
          rw [ew_15] at h
          have f_16 : w_15 (q 0) = some (.inr (5, [.int (nI lim), .ref (q 1), .ref (q 2), .ref (q 3), .ref (q 4), .ref (q 5), .ref (q 6), .int (nI un), .int (nI sn), .int (nI (pg + (i + 1))), .int (nI (bd - (i + 1))), .ref (q 11), .ref (q 12), .ref (q 13), .ref (q 14), .ref (q 15), .int (nI cm), .ref (q 17), .ref (q 18), .ref (q 19), .int (nI cp), .int tk, .long rs])) := by rw [← ew_15]; exact mw_self
          refine lv_iinc (v := (nI i) + 1) (lv' := [(2, .int ((nI i) + 1)), (0, .ref (q 0)), (1, .int y)]) hx hb d_M_store_41 hl (k := 0) rfl rfl (by decide) rfl (fun ls hl => ?_)
          refine lv_goto (tgt := 2) hx hb d_M_store_44 (by decide) ?_
          rw [nI_1] at hl
          have q1 : mw_up v (q 0) (mcell q lim un sn (pg + (i + 1)) (bd - (i + 1)) cm cp tk rs) = w_15 := by rw [← ew_15, ← ew_12, mw_uu]
          exact ih (i + 1) (by omega) (by omega) _ (by rw [← q1]; exact V.put0 un sn (pg + (i + 1)) (bd - (i + 1)) cm cp tk rs) (hfr.tr (by rw [← q1]; exact FQ r0)) H locs ls h (lv_sub hl [0, 1, 2] rfl)
        · refine lv_iconst (v := 0) hx hb d_M_store_19 (by decide) ?_
          have hib2 : i = bd := by
            rcases Nat.lt_or_ge i bd with z | z
            · exact absurd c_10 (nI_ne0 (by omega) (by omega))
            · omega
          exact mx_retz G h hrt hlocks d_M_store_20 rfl (⟨fun z => absurd z (by omega), fun _ => ⟨rfl, by rw [hib2, Nat.sub_self] at V; exact V, hfr⟩⟩)
  exact loop ln 0 (by omega) (Nat.zero_le _) w X FR.rf _ _ ls h (lv_sub hl [0, 1, 2] rfl)
theorem liveN_pre (F : Nat → Nat → Int32) (n : Nat) : ∀ t : Nat, ∃ r, liveN F (n + t) = liveN F n ++ r
  | 0 => ⟨[], by simp⟩
  | t + 1 => by
    obtain ⟨r, hr⟩ := liveN_pre F n t
    rw [show n + (t + 1) = n + t + 1 by omega, liveN_s]
    split
    · exact ⟨r, hr⟩
    · exact ⟨r ++ [n + t], by rw [hr, List.append_assoc]⟩
set_option maxHeartbeats 4000000 in
set_option maxRecDepth 100000 in
theorem m_M_storeOldest {l : Launch} {D : va_G} {cA : Nat → ClassId} {n0 : Nat} {w : mw} {ρ q : Nat → Nat} {lim un cm cp : Nat} {tk : Int32} {rs : Int64} {F : Nat → Nat → Int32} {R : Nat → Int64} {fl : Nat → Int64} {us : List uU} {sn pg bd : Nat} (Y : MC cA w ρ q lim un cm cp tk rs F R (fl, us, sn, pg, bd)) (hcm : cm ≤ 512) (hcp : cp ≤ 512) (hbd : bd < 1000) :
    Mi l D cA n0 y_M_storeOldest c_M_storeOldest (rmd 1) [.ref (q 0)] w (fun r w' => r = bI ((stoO (fl, us, sn, pg, bd)).1 = true) ∧ ∃ F', MC cA w' ρ q lim un cm cp tk rs F' R (stoO (fl, us, sn, pg, bd)).2 ∧ SF F F' ∧ FR w w' (P7 ρ)) := by
  refine mw_met (cc := b_M_storeOldest) (maxL := 2) (ret := (some .boolean)) (by decide) rfl (Nat.le_of_ble_eq_true rfl) ?_
  intro p e s m below meth c ls G hrt hlocks hname h hl
  have G : mw_G p m c b_M_storeOldest 2 s _ (c_M_storeOldest :: TB) R_M D cl (tys cA) n0 := G
  have hx := G.1.1
  have hb := G.1.2.1
  have hl : lv_has ls 2 [(0, .ref (q 0))] := hl
  obtain ⟨X, hG⟩ := id Y
  have X : MX cA w ρ q lim un sn pg bd cm cp tk rs F R := X
  have hG : LG F un sn fl us := hG
  have hun := hG.2.2.2.2.2.2
  refine lv_iconst (v := 0) hx hb d_M_storeOldest_0 (by decide) ?_
  refine lv_istore_n (lv' := [(1, .int 0), (0, .ref (q 0))]) hx hb d_M_storeOldest_1 rfl hl (by decide) rfl (fun ls hl => ?_)
  have loop : ∀ (t k : Nat), k + t = un → liveN F k = [] → ∀ (H : Heap) (locs : List Loc) (ls : Array Slot), mw_H n0 D cl s w H locs → lv_has ls 2 [(1, .int (nI k)), (0, .ref (q 0))] → W p l e (rmd 1) s m ([.ref (q 0)] : List Value).toArray below meth c H locs 0 0 (MQ below (mw_Qi n0 D cl (fun r w' => r = bI ((stoO (fl, us, sn, pg, bd)).1 = true) ∧ ∃ F', MC cA w' ρ q lim un cm cp tk rs F' R (stoO (fl, us, sn, pg, bd)).2 ∧ SF F F' ∧ FR w w' (P7 ρ))) ([.ref (q 0)] : List Value).toArray s 0 0 (mw_A n0)) (F0 m 2 ls []) := by
    intro t
    induction t with
    | zero =>
      intro k hk hlv H locs ls h hl
      have hk : k = un := hk
      refine lv_iload_n hx hb d_M_storeOldest_2 rfl (lv_at hl 0 rfl) ?_
      refine lv_aload_n hx hb d_M_storeOldest_3 rfl (lv_at hl 1 rfl) ?_
      refine mx_get G h X.1 rfl 7 (by decide) (tb_in in_M) (tb_c k_319) rfl rfl d_M_storeOldest_4 ?_
      refine lv_icmp_ge (tgt := 31) hx hb d_M_storeOldest_7 (by decide) (fun c_1 => ?_) (fun c_1 => ?_)
      · refine lv_iconst (v := 1) hx hb d_M_storeOldest_31 (by decide) ?_
        have hus : us = [] := by rw [hG.1, ← hk, hlv]; rfl
        subst hus
        exact mx_retz G h hrt hlocks d_M_storeOldest_32 rfl (⟨rfl, F, Y, SF.rf, FR.rf⟩)
      · exact absurd (by rw [hk]; exact Int32.le_refl _) c_1
    | succ t ih =>
      intro k hk hlv H locs ls h hl
      refine lv_iload_n hx hb d_M_storeOldest_2 rfl (lv_at hl 0 rfl) ?_
      refine lv_aload_n hx hb d_M_storeOldest_3 rfl (lv_at hl 1 rfl) ?_
      refine mx_get G h X.1 rfl 7 (by decide) (tb_in in_M) (tb_c k_319) rfl rfl d_M_storeOldest_4 ?_
      refine lv_icmp_ge (tgt := 31) hx hb d_M_storeOldest_7 (by decide) (fun c_2 => ?_) (fun c_2 => ?_)
      · exact absurd ((nI_leI (by omega) (by omega)).mp c_2) (by omega)
      · refine lv_aload_n hx hb d_M_storeOldest_10 rfl (lv_at hl 1 rfl) ?_
        refine mx_get G h X.1 rfl 6 (by decide) (tb_in in_M) (tb_c k_318) rfl rfl d_M_storeOldest_11 ?_
        refine lv_iload_n hx hb d_M_storeOldest_14 rfl (lv_at hl 0 rfl) ?_
        refine ax_z G h (X.2.2.1 6 (by decide)) k rfl (by omega) (by decide) d_M_storeOldest_15 ?_
        refine lv_if_eq (tgt := 25) hx hb d_M_storeOldest_16 (by decide) (fun c_3 => ?_) (fun c_3 => ?_)
        · refine lv_iinc (v := (nI k) + 1) (lv' := [(1, .int ((nI k) + 1)), (0, .ref (q 0))]) hx hb d_M_storeOldest_25 hl (k := 0) rfl rfl (by decide) rfl (fun ls hl => ?_)
          refine lv_goto (tgt := 2) hx hb d_M_storeOldest_28 (by decide) ?_
          rw [nI_1] at hl
          exact ih (k + 1) (by omega) (by rw [liveN_s, if_pos c_3]; exact hlv) H locs ls h (lv_sub hl [0, 1] rfl)
        · obtain ⟨rr, hrr⟩ := liveN_pre F (k + 1) t
          have hlv2 : liveN F un = k :: rr := by rw [show un = k + 1 + t by omega, hrr, liveN_s, if_neg c_3, hlv]; rfl
          have hus : us = uN F k :: rr.map (uN F) := by rw [hG.1, hlv2]; rfl
          have hVk := hG.2.2.1 k (by omega)
          refine lv_aload_n hx hb d_M_storeOldest_19 rfl (lv_at hl 1 rfl) ?_
          refine lv_iload_n hx hb d_M_storeOldest_20 rfl (lv_at hl 0 rfl) ?_
          refine mx_ci (cV (As := [.int (nI k)]) (rest := []) G h (m_M_store X (u := k) (by omega) hVk hbd rfl) k_446 k_448 ks_26 k_7 k_449 hd_M_store rfl rfl ⟨Nat.le_of_ble_eq_true rfl, Nat.le_of_ble_eq_true rfl⟩ X.1 rfl rfl hl.1 rfl (Nat.le_of_ble_eq_true rfl) d_M_storeOldest_21 ⟨Nat.le_of_ble_eq_true rfl, Nat.le_of_ble_eq_true rfl⟩) h (fun r_5 w_4 H locs h hcp1 => ?_)
          rcases Nat.lt_or_ge bd (lnU (uN F k)) with hlt | hge
          · obtain ⟨er, X1, hf1⟩ := hcp1.2 hlt
            subst er
            have e9 : stoO (fl, us, sn, pg, bd) = (false, (fl, us, sn, pg + bd, 0)) := by rw [hus]; exact stoO_f hlt
            exact mx_retz G h hrt hlocks d_M_storeOldest_24 rfl (by rw [e9]; exact ⟨rfl, F, ⟨X1, hG⟩, SF.rf, hf1⟩)
          · obtain ⟨er, X1, hf1⟩ := hcp1.1 hge
            subst er
            have e9 : stoO (fl, us, sn, pg, bd) = (true, (apU (uN F k) (lnU (uN F k)) fl, rr.map (uN F), sn + 1, pg + lnU (uN F k), bd - lnU (uN F k))) := by rw [hus]; exact stoO_t hge
            have hln : sn + 1 + (rr.map (uN F)).length ≤ un := by have := hG.2.2.2.2.2.1; rw [hlv2] at this; rw [List.length_map]; simp at this; omega
            exact mx_retz G h hrt hlocks d_M_storeOldest_24 rfl (by rw [e9]; exact ⟨rfl, _, ⟨X1, hG.store (by omega) hln (by rw [liveN_hd hlv2])⟩, SF.st, hf1⟩)
  exact loop un 0 (by omega) rfl _ _ ls h (lv_sub hl [0, 1] rfl)
set_option maxHeartbeats 4000000 in
set_option maxRecDepth 100000 in
theorem m_M_empty {l : Launch} {D : va_G} {cA : Nat → ClassId} {n0 : Nat} {w : mw} {ρ q : Nat → Nat} {lim un cm cp : Nat} {tk : Int32} {rs : Int64} {F : Nat → Nat → Int32} {R : Nat → Int64} {fl : Nat → Int64} {us : List uU} {sn pg bd : Nat} (Y : MC cA w ρ q lim un cm cp tk rs F R (fl, us, sn, pg, bd)) (hcm : cm ≤ 512) (hcp : cp ≤ 512) (hbd : bd < 1000) :
    Mi l D cA n0 y_M_empty c_M_empty (rmd 2) [.ref (q 0)] w (fun r w' => r = bI ((empK (fl, us, sn, pg, bd)).1 = true) ∧ ∃ F', MC cA w' ρ q lim un cm cp tk rs F' R (empK (fl, us, sn, pg, bd)).2 ∧ SF F F' ∧ FR w w' (P7 ρ)) := by
  refine mw_met (cc := b_M_empty) (maxL := 2) (ret := (some .boolean)) (by decide) rfl (Nat.le_of_ble_eq_true rfl) ?_
  intro p e s m below meth c ls G hrt hlocks hname h hl
  have G : mw_G p m c b_M_empty 2 s _ (c_M_empty :: TB) R_M D cl (tys cA) n0 := G
  have hx := G.1.1
  have hb := G.1.2.1
  have hl : lv_has ls 2 [(0, .ref (q 0))] := hl
  have hG := Y.2
  have hun := hG.2.2.2.2.2.2
  refine lv_iconst (v := 1) hx hb d_M_empty_0 (by decide) ?_
  refine lv_istore_n (lv' := [(1, .int 1), (0, .ref (q 0))]) hx hb d_M_empty_1 rfl hl (by decide) rfl (fun ls hl => ?_)
  have loop : ∀ (vs : List uU) (gl : Nat → Int64) (s1 p1 b1 : Nat) (E : Nat → Nat → Int32) (v : mw), b1 < 1000 → MC cA v ρ q lim un cm cp tk rs E R (gl, vs, s1, p1, b1) → SF F E → FR w v (P7 ρ) → empA vs gl s1 p1 b1 = empA us fl sn pg bd → ∀ (H : Heap) (locs : List Loc) (ls : Array Slot), mw_H n0 D cl s v H locs → lv_has ls 2 [(1, .int 1), (0, .ref (q 0))] → W p l e (rmd 2) s m ([.ref (q 0)] : List Value).toArray below meth c H locs 0 0 (MQ below (mw_Qi n0 D cl (fun r w' => r = bI ((empK (fl, us, sn, pg, bd)).1 = true) ∧ ∃ F', MC cA w' ρ q lim un cm cp tk rs F' R (empK (fl, us, sn, pg, bd)).2 ∧ SF F F' ∧ FR w w' (P7 ρ))) ([.ref (q 0)] : List Value).toArray s 0 0 (mw_A n0)) (F0 m 2 ls []) := by
    intro vs
    induction vs with
    | nil =>
      intro gl s1 p1 b1 E v hb1 V hsf hfr he H locs ls h hl
      have hE0 : (liveN E un).length = 0 := by have := congrArg List.length V.2.1; simp at this; omega
      refine lv_iload_n hx hb d_M_empty_2 rfl (lv_at hl 0 rfl) ?_
      refine lv_if_eq (tgt := 21) hx hb d_M_empty_3 (by decide) (fun c_1 => ?_) (fun c_1 => ?_)
      · exact absurd c_1 (by decide)
      · refine lv_aload_n hx hb d_M_empty_6 rfl (lv_at hl 1 rfl) ?_
        refine mx_ci (cV (As := []) (rest := []) G h (m_M_inCache V.1 hun hcm hcp) k_434 k_436 ks_23 k_7 k_437 hd_M_inCache rfl rfl ⟨Nat.le_of_ble_eq_true rfl, Nat.le_of_ble_eq_true rfl⟩ V.1.1 rfl rfl hl.1 rfl (Nat.le_of_ble_eq_true rfl) d_M_empty_7 ⟨Nat.le_of_ble_eq_true rfl, Nat.le_of_ble_eq_true rfl⟩) h (fun r_3 w_2 H locs h hcp1 => ?_)
        obtain ⟨er_4, ew_5⟩ := hcp1
        subst er_4
        rw [ew_5] at h
        refine lv_if_le (tgt := 21) hx hb d_M_empty_10 (by decide) (fun c_6 => ?_) (fun c_6 => ?_)
        · refine lv_iload_n hx hb d_M_empty_21 rfl (lv_at hl 0 rfl) ?_
          exact mx_retz G h hrt hlocks d_M_empty_22 rfl (⟨by show 1 = bI ((empA us fl sn pg bd).1 = true); rw [← he]; rfl, E, by show MC cA v ρ q lim un cm cp tk rs E R (empA us fl sn pg bd).2; rw [← he]; exact V, hsf, hfr⟩)
        · exact absurd (by rw [hE0]; decide) c_6
    | cons u vs ih =>
      intro gl s1 p1 b1 E v hb1 V hsf hfr he H locs ls h hl
      have hEl := liveN_le E un
      have hE0 : 0 < (liveN E un).length := by have := congrArg List.length V.2.1; simp at this; omega
      refine lv_iload_n hx hb d_M_empty_2 rfl (lv_at hl 0 rfl) ?_
      refine lv_if_eq (tgt := 21) hx hb d_M_empty_3 (by decide) (fun c_7 => ?_) (fun c_7 => ?_)
      · exact absurd c_7 (by decide)
      · refine lv_aload_n hx hb d_M_empty_6 rfl (lv_at hl 1 rfl) ?_
        refine mx_ci (cV (As := []) (rest := []) G h (m_M_inCache V.1 hun hcm hcp) k_434 k_436 ks_23 k_7 k_437 hd_M_inCache rfl rfl ⟨Nat.le_of_ble_eq_true rfl, Nat.le_of_ble_eq_true rfl⟩ V.1.1 rfl rfl hl.1 rfl (Nat.le_of_ble_eq_true rfl) d_M_empty_7 ⟨Nat.le_of_ble_eq_true rfl, Nat.le_of_ble_eq_true rfl⟩) h (fun r_9 w_8 H locs h hcp1 => ?_)
        obtain ⟨er_10, ew_11⟩ := hcp1
        subst er_10
        rw [ew_11] at h
        refine lv_if_le (tgt := 21) hx hb d_M_empty_10 (by decide) (fun c_12 => ?_) (fun c_12 => ?_)
        · exact absurd c_12 (nI_nle hE0 (by omega))
        · refine lv_aload_n hx hb d_M_empty_13 rfl (lv_at hl 1 rfl) ?_
          refine mx_ci (cV (As := []) (rest := []) G h (m_M_storeOldest V hcm hcp hb1) k_442 k_444 ks_25 k_7 k_445 hd_M_storeOldest rfl rfl ⟨Nat.le_of_ble_eq_true rfl, Nat.le_of_ble_eq_true rfl⟩ V.1.1 rfl rfl hl.1 rfl (Nat.le_of_ble_eq_true rfl) d_M_empty_14 ⟨Nat.le_of_ble_eq_true rfl, Nat.le_of_ble_eq_true rfl⟩) h (fun r_14 w_13 H locs h hcp1 => ?_)
          obtain ⟨er, E1, V1, hsf1, hf1⟩ := hcp1
          rcases Nat.lt_or_ge b1 (lnU u) with hlt | hge
          · rw [stoO_f hlt] at er V1
            have er : r_14 = 0 := er
            subst er
            refine lv_istore_n (lv' := [(1, .int 0), (0, .ref (q 0))]) hx hb d_M_empty_17 rfl hl (by decide) rfl (fun ls hl => ?_)
            refine lv_goto (tgt := 2) hx hb d_M_empty_18 (by decide) ?_
            refine lv_iload_n hx hb d_M_empty_2 rfl (lv_at hl 0 rfl) ?_
            refine lv_if_eq (tgt := 21) hx hb d_M_empty_3 (by decide) (fun c_15 => ?_) (fun c_15 => ?_)
            · refine lv_iload_n hx hb d_M_empty_21 rfl (lv_at hl 0 rfl) ?_
              exact mx_retz G h hrt hlocks d_M_empty_22 rfl (⟨by show 0 = bI ((empA us fl sn pg bd).1 = true); rw [← he, empA_f hlt]; rfl, E1, by show MC cA _ ρ q lim un cm cp tk rs E1 R (empA us fl sn pg bd).2; rw [← he, empA_f hlt]; exact V1, hsf.tr hsf1, hfr.tr hf1⟩)
            · exact absurd rfl c_15
          · rw [stoO_t hge] at er V1
            have er : r_14 = 1 := er
            subst er
            refine lv_istore_n (lv' := [(1, .int 1), (0, .ref (q 0))]) hx hb d_M_empty_17 rfl hl (by decide) rfl (fun ls hl => ?_)
            refine lv_goto (tgt := 2) hx hb d_M_empty_18 (by decide) ?_
            exact ih _ _ _ _ E1 _ (by omega) V1 (hsf.tr hsf1) (hfr.tr hf1) (by rw [← he, empA_t hge]) H locs ls h (lv_sub hl [0, 1] rfl)
  exact loop us fl sn pg bd F w hbd Y SF.rf FR.rf rfl _ _ ls h (lv_sub hl [0, 1] rfl)
