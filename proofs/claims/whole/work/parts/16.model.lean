/-! The reference: one object, fourteen rows of 520 places. q i the address of the row in field i; F i the row's ints (bits for 4 and 6); R the row 19 -/
abbrev mcell (q : Nat → Nat) (lim un sn pg bd cm cp : Nat) (tk : Int32) (rs : Int64) : va_E := .inr (5, [.int (nI lim), .ref (q 1), .ref (q 2), .ref (q 3), .ref (q 4), .ref (q 5), .ref (q 6), .int (nI un), .int (nI sn), .int (nI pg), .int (nI bd), .ref (q 11), .ref (q 12), .ref (q 13), .ref (q 14), .ref (q 15), .int (nI cm), .ref (q 17), .ref (q 18), .ref (q 19), .int (nI cp), .int tk, .long rs])
def ixI : List Nat := [1, 2, 3, 5, 11, 12, 13, 14, 15, 17, 18]
def ixZ : List Nat := [4, 6]
def MX (cA : Nat → ClassId) (w : mw) (ρ q : Nat → Nat) (lim un sn pg bd cm cp : Nat) (tk : Int32) (rs : Int64) (F : Nat → Nat → Int32) (R : Nat → Int64) : Prop :=
  w (q 0) = some (mcell q lim un sn pg bd cm cp tk rs) ∧ (∀ i ∈ ixI, w (q i) = some (ints cA 520 (F i))) ∧ (∀ i ∈ ixZ, w (q i) = some (bools cA 520 (F i))) ∧ w (q 19) = some (longs cA 520 R) ∧ (∀ i ∈ ixI ++ ixZ, ∀ j ∈ ixI ++ ixZ, q i = q j → i = j) ∧ ρ (q 0) = 7 ∧ (∀ i ∈ ixI ++ ixZ, ρ (q i) = 7) ∧ ρ (q 19) = 7
section MXL
variable {cA : Nat → ClassId} {w w' : mw} {ρ q : Nat → Nat} {lim un sn pg bd cm cp : Nat} {tk : Int32} {rs : Int64} {F : Nat → Nat → Int32} {R : Nat → Int64}
theorem MX.put0 (h : MX cA w ρ q lim un sn pg bd cm cp tk rs F R) (un' sn' pg' bd' cm' cp' : Nat) (tk' : Int32) (rs' : Int64) : MX cA (mw_up w (q 0) (mcell q lim un' sn' pg' bd' cm' cp' tk' rs')) ρ q lim un' sn' pg' bd' cm' cp' tk' rs' F R := by
  obtain ⟨h1, h2, h3, h4, h5, h6⟩ := h
  exact ⟨mw_self, fun i hi => by rw [mw_ne (mw_apart (h2 i hi) h1 (by simp))]; exact h2 i hi, fun i hi => by rw [mw_ne (mw_apart (h3 i hi) h1 (by simp))]; exact h3 i hi, by rw [mw_ne (mw_apart h4 h1 (by simp))]; exact h4, h5, h6⟩
theorem ixIZ {i j : Nat} (hi : i ∈ ixI) (hj : j ∈ ixZ) : i ≠ j := by
  intro z
  subst z
  simp [ixI, ixZ] at hi hj
  omega
theorem MX.putI (h : MX cA w ρ q lim un sn pg bd cm cp tk rs F R) (i : Nat) (hi : i ∈ ixI) (f : Nat → Int32) : MX cA (mw_up w (q i) (ints cA 520 f)) ρ q lim un sn pg bd cm cp tk rs (va_up F i f) R := by
  obtain ⟨h1, h2, h3, h4, h5, h6⟩ := h
  refine ⟨by rw [mw_ne (mw_apart h1 (h2 i hi) (by simp))]; exact h1, fun j hj => ?_, fun j hj => ?_, by rw [mw_ne (mw_apart h4 (h2 i hi) (by simp))]; exact h4, h5, h6⟩
  · by_cases e : j = i
    · subst e; simp only [va_up, if_true]; exact mw_self
    · simp only [va_up, if_neg e]
      rw [mw_ne (fun z => e (h5 j (List.mem_append_left _ hj) i (List.mem_append_left _ hi) z))]
      exact h2 j hj
  · have e : j ≠ i := (ixIZ hi hj).symm
    simp only [va_up, if_neg e]
    rw [mw_ne (fun z => e (h5 j (List.mem_append_right _ hj) i (List.mem_append_left _ hi) z))]
    exact h3 j hj
theorem MX.putZ (h : MX cA w ρ q lim un sn pg bd cm cp tk rs F R) (i : Nat) (hi : i ∈ ixZ) (f : Nat → Int32) : MX cA (mw_up w (q i) (bools cA 520 f)) ρ q lim un sn pg bd cm cp tk rs (va_up F i f) R := by
  obtain ⟨h1, h2, h3, h4, h5, h6⟩ := h
  refine ⟨by rw [mw_ne (mw_apart h1 (h3 i hi) (by simp))]; exact h1, fun j hj => ?_, fun j hj => ?_, by rw [mw_ne (mw_apart h4 (h3 i hi) (by simp))]; exact h4, h5, h6⟩
  · have e : j ≠ i := ixIZ hj hi
    simp only [va_up, if_neg e]
    rw [mw_ne (fun z => e (h5 j (List.mem_append_left _ hj) i (List.mem_append_right _ hi) z))]
    exact h2 j hj
  · by_cases e : j = i
    · subst e; simp only [va_up, if_true]; exact mw_self
    · simp only [va_up, if_neg e]
      rw [mw_ne (fun z => e (h5 j (List.mem_append_right _ hj) i (List.mem_append_right _ hi) z))]
      exact h3 j hj
theorem MX.putL (h : MX cA w ρ q lim un sn pg bd cm cp tk rs F R) (R' : Nat → Int64) : MX cA (mw_up w (q 19) (longs cA 520 R')) ρ q lim un sn pg bd cm cp tk rs F R' := by
  obtain ⟨h1, h2, h3, h4, h5, h6⟩ := h
  exact ⟨by rw [mw_ne (mw_apart h1 h4 (by simp))]; exact h1, fun i hi => by rw [mw_ne (mw_apart (h2 i hi) h4 (by simp))]; exact h2 i hi, fun i hi => by rw [mw_ne (mw_apart (h3 i hi) h4 (by simp))]; exact h3 i hi, mw_self, h5, h6⟩
theorem MX.frame (h : MX cA w ρ q lim un sn pg bd cm cp tk rs F R) (e : ∀ x, ρ x = 7 → w' x = w x) : MX cA w' ρ q lim un sn pg bd cm cp tk rs F R := by
  obtain ⟨h1, h2, h3, h4, h5, r0, r1, r2⟩ := h
  exact ⟨by rw [e _ r0]; exact h1, fun i hi => by rw [e _ (r1 i (List.mem_append_left _ hi))]; exact h2 i hi, fun i hi => by rw [e _ (r1 i (List.mem_append_right _ hi))]; exact h3 i hi, by rw [e _ r2]; exact h4, h5, r0, r1, r2⟩
end MXL
/-- unit u of the log; which are in the cache; pending commands of a queue; completions of a queue -/
def uN (F : Nat → Nat → Int32) (u : Nat) : uU := (F 1 u, F 2 u, F 3 u, F 4 u)
def liveN (F : Nat → Nat → Int32) (n : Nat) : List Nat := (List.range n).filter (fun u => decide (¬ F 6 u = 0))
def pendN (F : Nat → Nat → Int32) (n : Nat) (x : Int32) : List Nat := ((List.range n).map (fun i => i + 1)).filter (fun c => decide (F 11 c = x))
def doneN (F : Nat → Nat → Int32) (n : Nat) (x : Int32) : List Nat := (List.range n).filter (fun i => decide (F 17 i = x))
theorem liveN_s (F : Nat → Nat → Int32) (n : Nat) : liveN F (n + 1) = if F 6 n = 0 then liveN F n else liveN F n ++ [n] := by
  simp only [liveN, List.range_succ, List.filter_append]
  by_cases h : F 6 n = 0 <;> simp [h]
theorem pendN_s (F : Nat → Nat → Int32) (n : Nat) (x : Int32) : pendN F (n + 1) x = if F 11 (n + 1) = x then pendN F n x ++ [n + 1] else pendN F n x := by
  simp only [pendN, List.range_succ, List.map_append, List.filter_append]
  by_cases h : F 11 (n + 1) = x <;> simp [h]
theorem doneN_s (F : Nat → Nat → Int32) (n : Nat) (x : Int32) : doneN F (n + 1) x = if F 17 n = x then doneN F n x ++ [n] else doneN F n x := by
  simp only [doneN, List.range_succ, List.filter_append]
  by_cases h : F 17 n = x <;> simp [h]
theorem liveN_le (F : Nat → Nat → Int32) (n : Nat) : (liveN F n).length ≤ n := by
  have := List.length_filter_le (fun u => decide (¬ F 6 u = 0)) (List.range n)
  rw [List.length_range] at this
  exact this
theorem pendN_le (F : Nat → Nat → Int32) (n : Nat) (x : Int32) : (pendN F n x).length ≤ n := by
  have := List.length_filter_le (fun c => decide (F 11 c = x)) ((List.range n).map (fun i => i + 1))
  rw [List.length_map, List.length_range] at this
  exact this
theorem doneN_le (F : Nat → Nat → Int32) (n : Nat) (x : Int32) : (doneN F n x).length ≤ n := by
  have := List.length_filter_le (fun i => decide (F 17 i = x)) (List.range n)
  rw [List.length_range] at this
  exact this
theorem pendN_pre (F : Nat → Nat → Int32) (n : Nat) (x : Int32) : ∀ t : Nat, ∃ r, pendN F (n + t) x = pendN F n x ++ r
  | 0 => ⟨[], by simp⟩
  | t + 1 => by
    obtain ⟨r, hr⟩ := pendN_pre F n x t
    rw [show n + (t + 1) = n + t + 1 by omega, pendN_s]
    split
    · exact ⟨r ++ [n + t + 1], by rw [hr, List.append_assoc]⟩
    · exact ⟨r, hr⟩
/-- the last stored of the first n units that covers x -/
def bestN (F : Nat → Nat → Int32) (x : Int32) : Nat → Option Nat
  | 0 => none
  | n + 1 => if 0 < F 5 n ∧ cov (uN F n) x ∧ (∀ b, bestN F x n = some b → F 5 b < F 5 n) then some n else bestN F x n
def inFl (F : Nat → Nat → Int32) (n : Nat) (x : Int32) : Int64 := match bestN F x n with
  | some b => wrd (uN F b) x
  | none => NN
def hldN (F : Nat → Nat → Int32) (un : Nat) (x : Int32) : Nat → Int64
  | 0 => inFl F un x
  | n + 1 => if ¬ F 6 n = 0 ∧ cov (uN F n) x then wrd (uN F n) x else hldN F un x n
theorem d_M_in_0 : decode b_M_in 0 = .ok (.iload_n 0, 1) := by decide +kernel
theorem d_M_in_1 : decode b_M_in 1 = .ok (.ifCond .lt 12, 3) := by decide +kernel
theorem d_M_in_4 : decode b_M_in 4 = .ok (.iload_n 0, 1) := by decide +kernel
theorem d_M_in_5 : decode b_M_in 5 = .ok (.iload_n 1, 1) := by decide +kernel
theorem d_M_in_6 : decode b_M_in 6 = .ok (.if_icmp .ge 7, 3) := by decide +kernel
theorem d_M_in_9 : decode b_M_in 9 = .ok (.iconst 1, 1) := by decide +kernel
theorem d_M_in_10 : decode b_M_in 10 = .ok (.goto 4, 3) := by decide +kernel
theorem d_M_in_13 : decode b_M_in 13 = .ok (.iconst 0, 1) := by decide +kernel
theorem d_M_in_14 : decode b_M_in 14 = .ok (.ireturn, 1) := by decide +kernel
theorem d_M_inCache_0 : decode b_M_inCache 0 = .ok (.iconst 0, 1) := by decide +kernel
theorem d_M_inCache_1 : decode b_M_inCache 1 = .ok (.istore_n 1, 1) := by decide +kernel
theorem d_M_inCache_2 : decode b_M_inCache 2 = .ok (.iconst 0, 1) := by decide +kernel
theorem d_M_inCache_3 : decode b_M_inCache 3 = .ok (.istore_n 2, 1) := by decide +kernel
theorem d_M_inCache_4 : decode b_M_inCache 4 = .ok (.iload_n 2, 1) := by decide +kernel
theorem d_M_inCache_5 : decode b_M_inCache 5 = .ok (.aload_n 0, 1) := by decide +kernel
theorem d_M_inCache_6 : decode b_M_inCache 6 = .ok (.getfield 64, 3) := by decide +kernel
theorem d_M_inCache_9 : decode b_M_inCache 9 = .ok (.if_icmp .ge 21, 3) := by decide +kernel
theorem d_M_inCache_12 : decode b_M_inCache 12 = .ok (.aload_n 0, 1) := by decide +kernel
theorem d_M_inCache_13 : decode b_M_inCache 13 = .ok (.getfield 26, 3) := by decide +kernel
theorem d_M_inCache_16 : decode b_M_inCache 16 = .ok (.iload_n 2, 1) := by decide +kernel
theorem d_M_inCache_17 : decode b_M_inCache 17 = .ok (.baload, 1) := by decide +kernel
theorem d_M_inCache_18 : decode b_M_inCache 18 = .ok (.ifCond .eq 6, 3) := by decide +kernel
theorem d_M_inCache_21 : decode b_M_inCache 21 = .ok (.iinc 1 1, 3) := by decide +kernel
theorem d_M_inCache_24 : decode b_M_inCache 24 = .ok (.iinc 2 1, 3) := by decide +kernel
theorem d_M_inCache_27 : decode b_M_inCache 27 = .ok (.goto (-23), 3) := by decide +kernel
theorem d_M_inCache_30 : decode b_M_inCache 30 = .ok (.iload_n 1, 1) := by decide +kernel
theorem d_M_inCache_31 : decode b_M_inCache 31 = .ok (.ireturn, 1) := by decide +kernel
theorem d_M_wordOf_0 : decode b_M_wordOf 0 = .ok (.aload_n 0, 1) := by decide +kernel
theorem d_M_wordOf_1 : decode b_M_wordOf 1 = .ok (.getfield 19, 3) := by decide +kernel
theorem d_M_wordOf_4 : decode b_M_wordOf 4 = .ok (.iload_n 1, 1) := by decide +kernel
theorem d_M_wordOf_5 : decode b_M_wordOf 5 = .ok (.baload, 1) := by decide +kernel
theorem d_M_wordOf_6 : decode b_M_wordOf 6 = .ok (.ifCond .eq 9, 3) := by decide +kernel
theorem d_M_wordOf_9 : decode b_M_wordOf 9 = .ok (.ldc2_w 54, 3) := by decide +kernel
theorem d_M_wordOf_12 : decode b_M_wordOf 12 = .ok (.goto 19, 3) := by decide +kernel
theorem d_M_wordOf_15 : decode b_M_wordOf 15 = .ok (.aload_n 0, 1) := by decide +kernel
theorem d_M_wordOf_16 : decode b_M_wordOf 16 = .ok (.getfield 16, 3) := by decide +kernel
theorem d_M_wordOf_19 : decode b_M_wordOf 19 = .ok (.iload_n 1, 1) := by decide +kernel
theorem d_M_wordOf_20 : decode b_M_wordOf 20 = .ok (.iaload, 1) := by decide +kernel
theorem d_M_wordOf_21 : decode b_M_wordOf 21 = .ok (.iload_n 2, 1) := by decide +kernel
theorem d_M_wordOf_22 : decode b_M_wordOf 22 = .ok (.aload_n 0, 1) := by decide +kernel
theorem d_M_wordOf_23 : decode b_M_wordOf 23 = .ok (.getfield 7, 3) := by decide +kernel
theorem d_M_wordOf_26 : decode b_M_wordOf 26 = .ok (.iload_n 1, 1) := by decide +kernel
theorem d_M_wordOf_27 : decode b_M_wordOf 27 = .ok (.iaload, 1) := by decide +kernel
theorem d_M_wordOf_28 : decode b_M_wordOf 28 = .ok (.isub, 1) := by decide +kernel
theorem d_M_wordOf_29 : decode b_M_wordOf 29 = .ok (.iadd, 1) := by decide +kernel
theorem d_M_wordOf_30 : decode b_M_wordOf 30 = .ok (.i2l, 1) := by decide +kernel
theorem d_M_wordOf_31 : decode b_M_wordOf 31 = .ok (.lreturn, 1) := by decide +kernel
theorem d_M_covers_0 : decode b_M_covers 0 = .ok (.iload_n 2, 1) := by decide +kernel
theorem d_M_covers_1 : decode b_M_covers 1 = .ok (.aload_n 0, 1) := by decide +kernel
theorem d_M_covers_2 : decode b_M_covers 2 = .ok (.getfield 7, 3) := by decide +kernel
theorem d_M_covers_5 : decode b_M_covers 5 = .ok (.iload_n 1, 1) := by decide +kernel
theorem d_M_covers_6 : decode b_M_covers 6 = .ok (.iaload, 1) := by decide +kernel
theorem d_M_covers_7 : decode b_M_covers 7 = .ok (.if_icmp .lt 24, 3) := by decide +kernel
theorem d_M_covers_10 : decode b_M_covers 10 = .ok (.iload_n 2, 1) := by decide +kernel
theorem d_M_covers_11 : decode b_M_covers 11 = .ok (.aload_n 0, 1) := by decide +kernel
theorem d_M_covers_12 : decode b_M_covers 12 = .ok (.getfield 7, 3) := by decide +kernel
theorem d_M_covers_15 : decode b_M_covers 15 = .ok (.iload_n 1, 1) := by decide +kernel
theorem d_M_covers_16 : decode b_M_covers 16 = .ok (.iaload, 1) := by decide +kernel
theorem d_M_covers_17 : decode b_M_covers 17 = .ok (.aload_n 0, 1) := by decide +kernel
theorem d_M_covers_18 : decode b_M_covers 18 = .ok (.getfield 13, 3) := by decide +kernel
theorem d_M_covers_21 : decode b_M_covers 21 = .ok (.iload_n 1, 1) := by decide +kernel
theorem d_M_covers_22 : decode b_M_covers 22 = .ok (.iaload, 1) := by decide +kernel
theorem d_M_covers_23 : decode b_M_covers 23 = .ok (.iadd, 1) := by decide +kernel
theorem d_M_covers_24 : decode b_M_covers 24 = .ok (.if_icmp .ge 7, 3) := by decide +kernel
theorem d_M_covers_27 : decode b_M_covers 27 = .ok (.iconst 1, 1) := by decide +kernel
theorem d_M_covers_28 : decode b_M_covers 28 = .ok (.goto 4, 3) := by decide +kernel
theorem d_M_covers_31 : decode b_M_covers 31 = .ok (.iconst 0, 1) := by decide +kernel
theorem d_M_covers_32 : decode b_M_covers 32 = .ok (.ireturn, 1) := by decide +kernel
theorem d_M_inFlash_0 : decode b_M_inFlash 0 = .ok (.iconst (-1), 1) := by decide +kernel
theorem d_M_inFlash_1 : decode b_M_inFlash 1 = .ok (.istore_n 2, 1) := by decide +kernel
theorem d_M_inFlash_2 : decode b_M_inFlash 2 = .ok (.iconst 0, 1) := by decide +kernel
theorem d_M_inFlash_3 : decode b_M_inFlash 3 = .ok (.istore_n 3, 1) := by decide +kernel
theorem d_M_inFlash_4 : decode b_M_inFlash 4 = .ok (.iload_n 3, 1) := by decide +kernel
theorem d_M_inFlash_5 : decode b_M_inFlash 5 = .ok (.aload_n 0, 1) := by decide +kernel
theorem d_M_inFlash_6 : decode b_M_inFlash 6 = .ok (.getfield 64, 3) := by decide +kernel
theorem d_M_inFlash_9 : decode b_M_inFlash 9 = .ok (.if_icmp .ge 48, 3) := by decide +kernel
theorem d_M_inFlash_12 : decode b_M_inFlash 12 = .ok (.aload_n 0, 1) := by decide +kernel
theorem d_M_inFlash_13 : decode b_M_inFlash 13 = .ok (.getfield 23, 3) := by decide +kernel
theorem d_M_inFlash_16 : decode b_M_inFlash 16 = .ok (.iload_n 3, 1) := by decide +kernel
theorem d_M_inFlash_17 : decode b_M_inFlash 17 = .ok (.iaload, 1) := by decide +kernel
theorem d_M_inFlash_18 : decode b_M_inFlash 18 = .ok (.ifCond .le 33, 3) := by decide +kernel
theorem d_M_inFlash_21 : decode b_M_inFlash 21 = .ok (.aload_n 0, 1) := by decide +kernel
theorem d_M_inFlash_22 : decode b_M_inFlash 22 = .ok (.iload_n 3, 1) := by decide +kernel
theorem d_M_inFlash_23 : decode b_M_inFlash 23 = .ok (.iload_n 1, 1) := by decide +kernel
theorem d_M_inFlash_24 : decode b_M_inFlash 24 = .ok (.invokevirtual 67, 3) := by decide +kernel
theorem d_M_inFlash_27 : decode b_M_inFlash 27 = .ok (.ifCond .eq 24, 3) := by decide +kernel
theorem d_M_inFlash_30 : decode b_M_inFlash 30 = .ok (.iload_n 2, 1) := by decide +kernel
theorem d_M_inFlash_31 : decode b_M_inFlash 31 = .ok (.ifCond .lt 18, 3) := by decide +kernel
theorem d_M_inFlash_34 : decode b_M_inFlash 34 = .ok (.aload_n 0, 1) := by decide +kernel
theorem d_M_inFlash_35 : decode b_M_inFlash 35 = .ok (.getfield 23, 3) := by decide +kernel
theorem d_M_inFlash_38 : decode b_M_inFlash 38 = .ok (.iload_n 3, 1) := by decide +kernel
theorem d_M_inFlash_39 : decode b_M_inFlash 39 = .ok (.iaload, 1) := by decide +kernel
theorem d_M_inFlash_40 : decode b_M_inFlash 40 = .ok (.aload_n 0, 1) := by decide +kernel
theorem d_M_inFlash_41 : decode b_M_inFlash 41 = .ok (.getfield 23, 3) := by decide +kernel
theorem d_M_inFlash_44 : decode b_M_inFlash 44 = .ok (.iload_n 2, 1) := by decide +kernel
theorem d_M_inFlash_45 : decode b_M_inFlash 45 = .ok (.iaload, 1) := by decide +kernel
theorem d_M_inFlash_46 : decode b_M_inFlash 46 = .ok (.if_icmp .le 5, 3) := by decide +kernel
theorem d_M_inFlash_49 : decode b_M_inFlash 49 = .ok (.iload_n 3, 1) := by decide +kernel
theorem d_M_inFlash_50 : decode b_M_inFlash 50 = .ok (.istore_n 2, 1) := by decide +kernel
theorem d_M_inFlash_51 : decode b_M_inFlash 51 = .ok (.iinc 3 1, 3) := by decide +kernel
theorem d_M_inFlash_54 : decode b_M_inFlash 54 = .ok (.goto (-50), 3) := by decide +kernel
theorem d_M_inFlash_57 : decode b_M_inFlash 57 = .ok (.iload_n 2, 1) := by decide +kernel
theorem d_M_inFlash_58 : decode b_M_inFlash 58 = .ok (.ifCond .ge 9, 3) := by decide +kernel
theorem d_M_inFlash_61 : decode b_M_inFlash 61 = .ok (.ldc2_w 54, 3) := by decide +kernel
theorem d_M_inFlash_64 : decode b_M_inFlash 64 = .ok (.goto 9, 3) := by decide +kernel
theorem d_M_inFlash_67 : decode b_M_inFlash 67 = .ok (.aload_n 0, 1) := by decide +kernel
theorem d_M_inFlash_68 : decode b_M_inFlash 68 = .ok (.iload_n 2, 1) := by decide +kernel
theorem d_M_inFlash_69 : decode b_M_inFlash 69 = .ok (.iload_n 1, 1) := by decide +kernel
theorem d_M_inFlash_70 : decode b_M_inFlash 70 = .ok (.invokevirtual 71, 3) := by decide +kernel
theorem d_M_inFlash_73 : decode b_M_inFlash 73 = .ok (.lreturn, 1) := by decide +kernel
theorem d_M_holds_0 : decode b_M_holds 0 = .ok (.aload_n 0, 1) := by decide +kernel
theorem d_M_holds_1 : decode b_M_holds 1 = .ok (.getfield 64, 3) := by decide +kernel
theorem d_M_holds_4 : decode b_M_holds 4 = .ok (.iconst 1, 1) := by decide +kernel
theorem d_M_holds_5 : decode b_M_holds 5 = .ok (.isub, 1) := by decide +kernel
theorem d_M_holds_6 : decode b_M_holds 6 = .ok (.istore_n 2, 1) := by decide +kernel
theorem d_M_holds_7 : decode b_M_holds 7 = .ok (.iload_n 2, 1) := by decide +kernel
theorem d_M_holds_8 : decode b_M_holds 8 = .ok (.ifCond .lt 34, 3) := by decide +kernel
theorem d_M_holds_11 : decode b_M_holds 11 = .ok (.aload_n 0, 1) := by decide +kernel
theorem d_M_holds_12 : decode b_M_holds 12 = .ok (.getfield 26, 3) := by decide +kernel
theorem d_M_holds_15 : decode b_M_holds 15 = .ok (.iload_n 2, 1) := by decide +kernel
theorem d_M_holds_16 : decode b_M_holds 16 = .ok (.baload, 1) := by decide +kernel
theorem d_M_holds_17 : decode b_M_holds 17 = .ok (.ifCond .eq 19, 3) := by decide +kernel
theorem d_M_holds_20 : decode b_M_holds 20 = .ok (.aload_n 0, 1) := by decide +kernel
theorem d_M_holds_21 : decode b_M_holds 21 = .ok (.iload_n 2, 1) := by decide +kernel
theorem d_M_holds_22 : decode b_M_holds 22 = .ok (.iload_n 1, 1) := by decide +kernel
theorem d_M_holds_23 : decode b_M_holds 23 = .ok (.invokevirtual 67, 3) := by decide +kernel
theorem d_M_holds_26 : decode b_M_holds 26 = .ok (.ifCond .eq 10, 3) := by decide +kernel
theorem d_M_holds_29 : decode b_M_holds 29 = .ok (.aload_n 0, 1) := by decide +kernel
theorem d_M_holds_30 : decode b_M_holds 30 = .ok (.iload_n 2, 1) := by decide +kernel
theorem d_M_holds_31 : decode b_M_holds 31 = .ok (.iload_n 1, 1) := by decide +kernel
theorem d_M_holds_32 : decode b_M_holds 32 = .ok (.invokevirtual 71, 3) := by decide +kernel
theorem d_M_holds_35 : decode b_M_holds 35 = .ok (.lreturn, 1) := by decide +kernel
theorem d_M_holds_36 : decode b_M_holds 36 = .ok (.iinc 2 (-1), 3) := by decide +kernel
theorem d_M_holds_39 : decode b_M_holds 39 = .ok (.goto (-32), 3) := by decide +kernel
theorem d_M_holds_42 : decode b_M_holds 42 = .ok (.aload_n 0, 1) := by decide +kernel
theorem d_M_holds_43 : decode b_M_holds 43 = .ok (.iload_n 1, 1) := by decide +kernel
theorem d_M_holds_44 : decode b_M_holds 44 = .ok (.invokevirtual 75, 3) := by decide +kernel
theorem d_M_holds_47 : decode b_M_holds 47 = .ok (.lreturn, 1) := by decide +kernel
theorem d_M_pending_0 : decode b_M_pending 0 = .ok (.iconst 0, 1) := by decide +kernel
theorem d_M_pending_1 : decode b_M_pending 1 = .ok (.istore_n 2, 1) := by decide +kernel
theorem d_M_pending_2 : decode b_M_pending 2 = .ok (.iconst 1, 1) := by decide +kernel
theorem d_M_pending_3 : decode b_M_pending 3 = .ok (.istore_n 3, 1) := by decide +kernel
theorem d_M_pending_4 : decode b_M_pending 4 = .ok (.iload_n 3, 1) := by decide +kernel
theorem d_M_pending_5 : decode b_M_pending 5 = .ok (.aload_n 0, 1) := by decide +kernel
theorem d_M_pending_6 : decode b_M_pending 6 = .ok (.getfield 116, 3) := by decide +kernel
theorem d_M_pending_9 : decode b_M_pending 9 = .ok (.if_icmp .gt 22, 3) := by decide +kernel
theorem d_M_pending_12 : decode b_M_pending 12 = .ok (.aload_n 0, 1) := by decide +kernel
theorem d_M_pending_13 : decode b_M_pending 13 = .ok (.getfield 29, 3) := by decide +kernel
theorem d_M_pending_16 : decode b_M_pending 16 = .ok (.iload_n 3, 1) := by decide +kernel
theorem d_M_pending_17 : decode b_M_pending 17 = .ok (.iaload, 1) := by decide +kernel
theorem d_M_pending_18 : decode b_M_pending 18 = .ok (.iload_n 1, 1) := by decide +kernel
theorem d_M_pending_19 : decode b_M_pending 19 = .ok (.if_icmp .ne 6, 3) := by decide +kernel
theorem d_M_pending_22 : decode b_M_pending 22 = .ok (.iinc 2 1, 3) := by decide +kernel
theorem d_M_pending_25 : decode b_M_pending 25 = .ok (.iinc 3 1, 3) := by decide +kernel
theorem d_M_pending_28 : decode b_M_pending 28 = .ok (.goto (-24), 3) := by decide +kernel
theorem d_M_pending_31 : decode b_M_pending 31 = .ok (.iload_n 2, 1) := by decide +kernel
theorem d_M_pending_32 : decode b_M_pending 32 = .ok (.ireturn, 1) := by decide +kernel
theorem d_M_picked_0 : decode b_M_picked 0 = .ok (.iconst 0, 1) := by decide +kernel
theorem d_M_picked_1 : decode b_M_picked 1 = .ok (.istore_n 3, 1) := by decide +kernel
theorem d_M_picked_2 : decode b_M_picked 2 = .ok (.iconst 1, 1) := by decide +kernel
theorem d_M_picked_3 : decode b_M_picked 3 = .ok (.istore 4, 2) := by decide +kernel
theorem d_M_picked_5 : decode b_M_picked 5 = .ok (.iload 4, 2) := by decide +kernel
theorem d_M_picked_7 : decode b_M_picked 7 = .ok (.aload_n 0, 1) := by decide +kernel
theorem d_M_picked_8 : decode b_M_picked 8 = .ok (.getfield 116, 3) := by decide +kernel
theorem d_M_picked_11 : decode b_M_picked 11 = .ok (.if_icmp .gt 31, 3) := by decide +kernel
theorem d_M_picked_14 : decode b_M_picked 14 = .ok (.aload_n 0, 1) := by decide +kernel
theorem d_M_picked_15 : decode b_M_picked 15 = .ok (.getfield 29, 3) := by decide +kernel
theorem d_M_picked_18 : decode b_M_picked 18 = .ok (.iload 4, 2) := by decide +kernel
theorem d_M_picked_20 : decode b_M_picked 20 = .ok (.iaload, 1) := by decide +kernel
theorem d_M_picked_21 : decode b_M_picked 21 = .ok (.iload_n 1, 1) := by decide +kernel
theorem d_M_picked_22 : decode b_M_picked 22 = .ok (.if_icmp .ne 14, 3) := by decide +kernel
theorem d_M_picked_25 : decode b_M_picked 25 = .ok (.iload_n 3, 1) := by decide +kernel
theorem d_M_picked_26 : decode b_M_picked 26 = .ok (.iload_n 2, 1) := by decide +kernel
theorem d_M_picked_27 : decode b_M_picked 27 = .ok (.if_icmp .ne 6, 3) := by decide +kernel
theorem d_M_picked_30 : decode b_M_picked 30 = .ok (.iload 4, 2) := by decide +kernel
theorem d_M_picked_32 : decode b_M_picked 32 = .ok (.ireturn, 1) := by decide +kernel
theorem d_M_picked_33 : decode b_M_picked 33 = .ok (.iinc 3 1, 3) := by decide +kernel
theorem d_M_picked_36 : decode b_M_picked 36 = .ok (.iinc 4 1, 3) := by decide +kernel
theorem d_M_picked_39 : decode b_M_picked 39 = .ok (.goto (-34), 3) := by decide +kernel
theorem d_M_picked_42 : decode b_M_picked 42 = .ok (.iconst 0, 1) := by decide +kernel
theorem d_M_picked_43 : decode b_M_picked 43 = .ok (.ireturn, 1) := by decide +kernel
theorem d_M_done_0 : decode b_M_done 0 = .ok (.iconst 0, 1) := by decide +kernel
theorem d_M_done_1 : decode b_M_done 1 = .ok (.istore_n 2, 1) := by decide +kernel
theorem d_M_done_2 : decode b_M_done 2 = .ok (.iconst 0, 1) := by decide +kernel
theorem d_M_done_3 : decode b_M_done 3 = .ok (.istore_n 3, 1) := by decide +kernel
theorem d_M_done_4 : decode b_M_done 4 = .ok (.iload_n 3, 1) := by decide +kernel
theorem d_M_done_5 : decode b_M_done 5 = .ok (.aload_n 0, 1) := by decide +kernel
theorem d_M_done_6 : decode b_M_done 6 = .ok (.getfield 119, 3) := by decide +kernel
theorem d_M_done_9 : decode b_M_done 9 = .ok (.if_icmp .ge 22, 3) := by decide +kernel
theorem d_M_done_12 : decode b_M_done 12 = .ok (.aload_n 0, 1) := by decide +kernel
theorem d_M_done_13 : decode b_M_done 13 = .ok (.getfield 44, 3) := by decide +kernel
theorem d_M_done_16 : decode b_M_done 16 = .ok (.iload_n 3, 1) := by decide +kernel
theorem d_M_done_17 : decode b_M_done 17 = .ok (.iaload, 1) := by decide +kernel
theorem d_M_done_18 : decode b_M_done 18 = .ok (.iload_n 1, 1) := by decide +kernel
theorem d_M_done_19 : decode b_M_done 19 = .ok (.if_icmp .ne 6, 3) := by decide +kernel
theorem d_M_done_22 : decode b_M_done 22 = .ok (.iinc 2 1, 3) := by decide +kernel
theorem d_M_done_25 : decode b_M_done 25 = .ok (.iinc 3 1, 3) := by decide +kernel
theorem d_M_done_28 : decode b_M_done 28 = .ok (.goto (-24), 3) := by decide +kernel
theorem d_M_done_31 : decode b_M_done 31 = .ok (.iload_n 2, 1) := by decide +kernel
theorem d_M_done_32 : decode b_M_done 32 = .ok (.ireturn, 1) := by decide +kernel
set_option maxHeartbeats 4000000 in
set_option maxRecDepth 100000 in
theorem m_M_in {l : Launch} {D : va_G} {cA : Nat → ClassId} {n0 : Nat} {w : mw} {x n : Int32} :
    Mi l D cA n0 y_M_in c_M_in (rmd 0) [.int x, .int n] w (fun r w' => r = bI (0 ≤ x ∧ x < n) ∧ w' = w) := by
  refine mw_met (cc := b_M_in) (maxL := 2) (ret := (some .boolean)) (by decide) rfl (Nat.le_of_ble_eq_true rfl) ?_
  intro p e s m below meth c ls G hrt hlocks hname h hl
  have G : mw_G p m c b_M_in 2 s _ (c_M_in :: TB) R_M D cl (tys cA) n0 := G
  have hx := G.1.1
  have hb := G.1.2.1
  have hl : lv_has ls 2 [(0, .int x), (1, .int n)] := hl
  refine lv_iload_n hx hb d_M_in_0 rfl (lv_at hl 0 rfl) ?_
  refine lv_if_lt (tgt := 13) hx hb d_M_in_1 (by decide) (fun c_1 => ?_) (fun c_1 => ?_)
  · refine lv_iconst (v := 0) hx hb d_M_in_13 (by decide) ?_
    exact mx_retz G h hrt hlocks d_M_in_14 rfl (⟨(bI_f (fun z => absurd z.1 (Int32.not_le.mpr c_1))).symm, rfl⟩)
  · refine lv_iload_n hx hb d_M_in_4 rfl (lv_at hl 0 rfl) ?_
    refine lv_iload_n hx hb d_M_in_5 rfl (lv_at hl 1 rfl) ?_
    refine lv_icmp_ge (tgt := 13) hx hb d_M_in_6 (by decide) (fun c_2 => ?_) (fun c_2 => ?_)
    · refine lv_iconst (v := 0) hx hb d_M_in_13 (by decide) ?_
      exact mx_retz G h hrt hlocks d_M_in_14 rfl (⟨(bI_f (fun z => absurd z.2 (Int32.not_lt.mpr c_2))).symm, rfl⟩)
    · refine lv_iconst (v := 1) hx hb d_M_in_9 (by decide) ?_
      refine lv_goto (tgt := 14) hx hb d_M_in_10 (by decide) ?_
      exact mx_retz G h hrt hlocks d_M_in_14 rfl (⟨(bI_t ⟨Int32.not_lt.mp c_1, Int32.not_le.mp c_2⟩).symm, rfl⟩)
set_option maxHeartbeats 4000000 in
set_option maxRecDepth 100000 in
theorem m_M_wordOf {l : Launch} {D : va_G} {cA : Nat → ClassId} {n0 : Nat} {w : mw} {ρ q : Nat → Nat} {lim un sn pg bd cm cp : Nat} {tk : Int32} {rs : Int64} {F : Nat → Nat → Int32} {R : Nat → Int64} (X : MX cA w ρ q lim un sn pg bd cm cp tk rs F R) {u : Nat} (hu : u < 520) {y x : Int32} (hyu : y = nI u) :
    Ml l D cA n0 y_M_wordOf c_M_wordOf (rmd 0) [.ref (q 0), .int y, .int x] w (fun r w' => r = wrd (uN F u) x ∧ w' = w) := by
  refine mw_met (cc := b_M_wordOf) (maxL := 3) (ret := (some .long)) (by decide) rfl (Nat.le_of_ble_eq_true rfl) ?_
  intro p e s m below meth c ls G hrt hlocks hname h hl
  have G : mw_G p m c b_M_wordOf 3 s _ (c_M_wordOf :: TB) R_M D cl (tys cA) n0 := G
  have hx := G.1.1
  have hb := G.1.2.1
  have hl : lv_has ls 3 [(0, .ref (q 0)), (1, .int y), (2, .int x)] := hl
  refine lv_aload_n hx hb d_M_wordOf_0 rfl (lv_at hl 0 rfl) ?_
  refine mx_get G h X.1 rfl 4 (by decide) (tb_in in_M) (tb_c k_316) rfl rfl d_M_wordOf_1 ?_
  refine lv_iload_n hx hb d_M_wordOf_4 rfl (lv_at hl 1 rfl) ?_
  refine ax_z G h (X.2.2.1 4 (by decide)) u hyu hu (by decide) d_M_wordOf_5 ?_
  refine lv_if_eq (tgt := 15) hx hb d_M_wordOf_6 (by decide) (fun c_1 => ?_) (fun c_1 => ?_)
  · refine lv_aload_n hx hb d_M_wordOf_15 rfl (lv_at hl 0 rfl) ?_
    refine mx_get G h X.1 rfl 3 (by decide) (tb_in in_M) (tb_c k_315) rfl rfl d_M_wordOf_16 ?_
    refine lv_iload_n hx hb d_M_wordOf_19 rfl (lv_at hl 1 rfl) ?_
    refine ax_i G h (X.2.1 3 (by decide)) u hyu hu (by decide) d_M_wordOf_20 ?_
    refine lv_iload_n hx hb d_M_wordOf_21 rfl (lv_at hl 2 rfl) ?_
    refine lv_aload_n hx hb d_M_wordOf_22 rfl (lv_at hl 0 rfl) ?_
    refine mx_get G h X.1 rfl 1 (by decide) (tb_in in_M) (tb_c k_313) rfl rfl d_M_wordOf_23 ?_
    refine lv_iload_n hx hb d_M_wordOf_26 rfl (lv_at hl 1 rfl) ?_
    refine ax_i G h (X.2.1 1 (by decide)) u hyu hu (by decide) d_M_wordOf_27 ?_
    refine lv_isub hx hb d_M_wordOf_28 ?_
    refine lv_iadd hx hb d_M_wordOf_29 ?_
    refine lv_i2l hx hb d_M_wordOf_30 rfl ?_
    exact mx_retl G h hrt hlocks d_M_wordOf_31 (⟨by rw [wrd, if_pos (show (uN F u).2.2.2 = 0 from c_1)]; rfl, rfl⟩)
  · refine lv_ldc2 (v := NN) hx hb G.1.2.2.2.1 (G.1.2.2.2.2 _ (tb_c k_311)) d_M_wordOf_9 ?_
    refine lv_goto (tgt := 31) hx hb d_M_wordOf_12 (by decide) ?_
    exact mx_retl G h hrt hlocks d_M_wordOf_31 (⟨by rw [wrd, if_neg (show ¬ (uN F u).2.2.2 = 0 from c_1)], rfl⟩)
set_option maxHeartbeats 4000000 in
set_option maxRecDepth 100000 in
theorem m_M_covers {l : Launch} {D : va_G} {cA : Nat → ClassId} {n0 : Nat} {w : mw} {ρ q : Nat → Nat} {lim un sn pg bd cm cp : Nat} {tk : Int32} {rs : Int64} {F : Nat → Nat → Int32} {R : Nat → Int64} (X : MX cA w ρ q lim un sn pg bd cm cp tk rs F R) {u : Nat} (hu : u < 520) {y x : Int32} (hyu : y = nI u) :
    Mi l D cA n0 y_M_covers c_M_covers (rmd 0) [.ref (q 0), .int y, .int x] w (fun r w' => r = bI (cov (uN F u) x) ∧ w' = w) := by
  refine mw_met (cc := b_M_covers) (maxL := 3) (ret := (some .boolean)) (by decide) rfl (Nat.le_of_ble_eq_true rfl) ?_
  intro p e s m below meth c ls G hrt hlocks hname h hl
  have G : mw_G p m c b_M_covers 3 s _ (c_M_covers :: TB) R_M D cl (tys cA) n0 := G
  have hx := G.1.1
  have hb := G.1.2.1
  have hl : lv_has ls 3 [(0, .ref (q 0)), (1, .int y), (2, .int x)] := hl
  refine lv_iload_n hx hb d_M_covers_0 rfl (lv_at hl 2 rfl) ?_
  refine lv_aload_n hx hb d_M_covers_1 rfl (lv_at hl 0 rfl) ?_
  refine mx_get G h X.1 rfl 1 (by decide) (tb_in in_M) (tb_c k_313) rfl rfl d_M_covers_2 ?_
  refine lv_iload_n hx hb d_M_covers_5 rfl (lv_at hl 1 rfl) ?_
  refine ax_i G h (X.2.1 1 (by decide)) u hyu hu (by decide) d_M_covers_6 ?_
  refine lv_icmp_lt (tgt := 31) hx hb d_M_covers_7 (by decide) (fun c_1 => ?_) (fun c_1 => ?_)
  · refine lv_iconst (v := 0) hx hb d_M_covers_31 (by decide) ?_
    exact mx_retz G h hrt hlocks d_M_covers_32 rfl (⟨(bI_f (fun z => absurd z.1 (Int32.not_le.mpr c_1))).symm, rfl⟩)
  · refine lv_iload_n hx hb d_M_covers_10 rfl (lv_at hl 2 rfl) ?_
    refine lv_aload_n hx hb d_M_covers_11 rfl (lv_at hl 0 rfl) ?_
    refine mx_get G h X.1 rfl 1 (by decide) (tb_in in_M) (tb_c k_313) rfl rfl d_M_covers_12 ?_
    refine lv_iload_n hx hb d_M_covers_15 rfl (lv_at hl 1 rfl) ?_
    refine ax_i G h (X.2.1 1 (by decide)) u hyu hu (by decide) d_M_covers_16 ?_
    refine lv_aload_n hx hb d_M_covers_17 rfl (lv_at hl 0 rfl) ?_
    refine mx_get G h X.1 rfl 2 (by decide) (tb_in in_M) (tb_c k_314) rfl rfl d_M_covers_18 ?_
    refine lv_iload_n hx hb d_M_covers_21 rfl (lv_at hl 1 rfl) ?_
    refine ax_i G h (X.2.1 2 (by decide)) u hyu hu (by decide) d_M_covers_22 ?_
    refine lv_iadd hx hb d_M_covers_23 ?_
    refine lv_icmp_ge (tgt := 31) hx hb d_M_covers_24 (by decide) (fun c_2 => ?_) (fun c_2 => ?_)
    · refine lv_iconst (v := 0) hx hb d_M_covers_31 (by decide) ?_
      exact mx_retz G h hrt hlocks d_M_covers_32 rfl (⟨(bI_f (fun z => absurd z.2 (Int32.not_lt.mpr c_2))).symm, rfl⟩)
    · refine lv_iconst (v := 1) hx hb d_M_covers_27 (by decide) ?_
      refine lv_goto (tgt := 32) hx hb d_M_covers_28 (by decide) ?_
      exact mx_retz G h hrt hlocks d_M_covers_32 rfl (⟨(bI_t (P := cov (uN F u) x) ⟨Int32.not_lt.mp c_1, Int32.not_le.mp c_2⟩).symm, rfl⟩)
set_option maxHeartbeats 4000000 in
set_option maxRecDepth 100000 in
theorem m_M_inCache {l : Launch} {D : va_G} {cA : Nat → ClassId} {n0 : Nat} {w : mw} {ρ q : Nat → Nat} {lim un sn pg bd cm cp : Nat} {tk : Int32} {rs : Int64} {F : Nat → Nat → Int32} {R : Nat → Int64} (X : MX cA w ρ q lim un sn pg bd cm cp tk rs F R) (hun : un ≤ 512) (hcm : cm ≤ 512) (hcp : cp ≤ 512) :
    Mi l D cA n0 y_M_inCache c_M_inCache (rmd 0) [.ref (q 0)] w (fun r w' => r = nI (liveN F un).length ∧ w' = w) := by
  refine mw_met (cc := b_M_inCache) (maxL := 3) (ret := (some .int)) (by decide) rfl (Nat.le_of_ble_eq_true rfl) ?_
  intro p e s m below meth c ls G hrt hlocks hname h hl
  have G : mw_G p m c b_M_inCache 3 s _ (c_M_inCache :: TB) R_M D cl (tys cA) n0 := G
  have hx := G.1.1
  have hb := G.1.2.1
  have hl : lv_has ls 3 [(0, .ref (q 0))] := hl
  refine lv_iconst (v := 0) hx hb d_M_inCache_0 (by decide) ?_
  refine lv_istore_n (lv' := [(1, .int 0), (0, .ref (q 0))]) hx hb d_M_inCache_1 rfl hl (by decide) rfl (fun ls hl => ?_)
  refine lv_iconst (v := 0) hx hb d_M_inCache_2 (by decide) ?_
  refine lv_istore_n (lv' := [(2, .int 0), (1, .int 0), (0, .ref (q 0))]) hx hb d_M_inCache_3 rfl hl (by decide) rfl (fun ls hl => ?_)
  have loop : ∀ (t k : Nat), k + t = un → ∀ (H : Heap) (locs : List Loc) (ls : Array Slot), mw_H n0 D cl s w H locs → lv_has ls 3 [(2, .int (nI k)), (1, .int (nI (liveN F k).length)), (0, .ref (q 0))] → W p l e (rmd 0) s m ([.ref (q 0)] : List Value).toArray below meth c H locs 0 0 (MQ below (mw_Qi n0 D cl (fun r w' => r = nI (liveN F un).length ∧ w' = w)) ([.ref (q 0)] : List Value).toArray s 0 0 (mw_A n0)) (F0 m 4 ls []) := by
    intro t
    induction t with
    | zero =>
      intro k hk H locs ls h hl
      have hk : k = un := hk
      refine lv_iload_n hx hb d_M_inCache_4 rfl (lv_at hl 0 rfl) ?_
      refine lv_aload_n hx hb d_M_inCache_5 rfl (lv_at hl 2 rfl) ?_
      refine mx_get G h X.1 rfl 7 (by decide) (tb_in in_M) (tb_c k_319) rfl rfl d_M_inCache_6 ?_
      refine lv_icmp_ge (tgt := 30) hx hb d_M_inCache_9 (by decide) (fun c_1 => ?_) (fun c_1 => ?_)
      · refine lv_iload_n hx hb d_M_inCache_30 rfl (lv_at hl 1 rfl) ?_
        exact mx_reti G h hrt hlocks d_M_inCache_31 (⟨by rw [hk], rfl⟩)
      · exact absurd (by rw [hk]; exact Int32.le_refl _) c_1
    | succ t ih =>
      intro k hk H locs ls h hl
      refine lv_iload_n hx hb d_M_inCache_4 rfl (lv_at hl 0 rfl) ?_
      refine lv_aload_n hx hb d_M_inCache_5 rfl (lv_at hl 2 rfl) ?_
      refine mx_get G h X.1 rfl 7 (by decide) (tb_in in_M) (tb_c k_319) rfl rfl d_M_inCache_6 ?_
      refine lv_icmp_ge (tgt := 30) hx hb d_M_inCache_9 (by decide) (fun c_2 => ?_) (fun c_2 => ?_)
      · exact absurd ((nI_leI (by omega) (by omega)).mp c_2) (by omega)
      · refine lv_aload_n hx hb d_M_inCache_12 rfl (lv_at hl 2 rfl) ?_
        refine mx_get G h X.1 rfl 6 (by decide) (tb_in in_M) (tb_c k_318) rfl rfl d_M_inCache_13 ?_
        refine lv_iload_n hx hb d_M_inCache_16 rfl (lv_at hl 0 rfl) ?_
        refine ax_z G h (X.2.2.1 6 (by decide)) k rfl (by omega) (by decide) d_M_inCache_17 ?_
        refine lv_if_eq (tgt := 24) hx hb d_M_inCache_18 (by decide) (fun c_3 => ?_) (fun c_3 => ?_)
        · refine lv_iinc (v := (nI k) + 1) (lv' := [(2, .int ((nI k) + 1)), (1, .int (nI (liveN F k).length)), (0, .ref (q 0))]) hx hb d_M_inCache_24 hl (k := 0) rfl rfl (by decide) rfl (fun ls hl => ?_)
          refine lv_goto (tgt := 4) hx hb d_M_inCache_27 (by decide) ?_
          simp only [nI_1] at hl
          refine ih (k + 1) (by omega) H locs ls h ?_
          have q1 : liveN F (k + 1) = liveN F k := by rw [liveN_s, if_pos c_3]
          rw [q1]
          exact lv_sub hl [0, 1, 2] rfl
        · refine lv_iinc (v := (nI (liveN F k).length) + 1) (lv' := [(1, .int ((nI (liveN F k).length) + 1)), (2, .int (nI k)), (0, .ref (q 0))]) hx hb d_M_inCache_21 hl (k := 1) rfl rfl (by decide) rfl (fun ls hl => ?_)
          refine lv_iinc (v := (nI k) + 1) (lv' := [(2, .int ((nI k) + 1)), (1, .int ((nI (liveN F k).length) + 1)), (0, .ref (q 0))]) hx hb d_M_inCache_24 hl (k := 1) rfl rfl (by decide) rfl (fun ls hl => ?_)
          refine lv_goto (tgt := 4) hx hb d_M_inCache_27 (by decide) ?_
          simp only [nI_1] at hl
          refine ih (k + 1) (by omega) H locs ls h ?_
          have q1 : (liveN F (k + 1)).length = (liveN F k).length + 1 := by rw [liveN_s, if_neg c_3]; simp
          rw [q1]
          exact lv_sub hl [0, 1, 2] rfl
  exact loop un 0 (by omega) _ _ ls h (lv_sub hl [0, 1, 2] rfl)
set_option maxHeartbeats 4000000 in
set_option maxRecDepth 100000 in
theorem m_M_done {l : Launch} {D : va_G} {cA : Nat → ClassId} {n0 : Nat} {w : mw} {ρ q : Nat → Nat} {lim un sn pg bd cm cp : Nat} {tk : Int32} {rs : Int64} {F : Nat → Nat → Int32} {R : Nat → Int64} (X : MX cA w ρ q lim un sn pg bd cm cp tk rs F R) (hun : un ≤ 512) (hcm : cm ≤ 512) (hcp : cp ≤ 512) {x : Int32} :
    Mi l D cA n0 y_M_done c_M_done (rmd 0) [.ref (q 0), .int x] w (fun r w' => r = nI (doneN F cp x).length ∧ w' = w) := by
  refine mw_met (cc := b_M_done) (maxL := 4) (ret := (some .int)) (by decide) rfl (Nat.le_of_ble_eq_true rfl) ?_
  intro p e s m below meth c ls G hrt hlocks hname h hl
  have G : mw_G p m c b_M_done 4 s _ (c_M_done :: TB) R_M D cl (tys cA) n0 := G
  have hx := G.1.1
  have hb := G.1.2.1
  have hl : lv_has ls 4 [(0, .ref (q 0)), (1, .int x)] := hl
  refine lv_iconst (v := 0) hx hb d_M_done_0 (by decide) ?_
  refine lv_istore_n (lv' := [(2, .int 0), (0, .ref (q 0)), (1, .int x)]) hx hb d_M_done_1 rfl hl (by decide) rfl (fun ls hl => ?_)
  refine lv_iconst (v := 0) hx hb d_M_done_2 (by decide) ?_
  refine lv_istore_n (lv' := [(3, .int 0), (2, .int 0), (0, .ref (q 0)), (1, .int x)]) hx hb d_M_done_3 rfl hl (by decide) rfl (fun ls hl => ?_)
  have loop : ∀ (t k : Nat), k + t = cp → ∀ (H : Heap) (locs : List Loc) (ls : Array Slot), mw_H n0 D cl s w H locs → lv_has ls 4 [(3, .int (nI k)), (2, .int (nI (doneN F k x).length)), (0, .ref (q 0)), (1, .int x)] → W p l e (rmd 0) s m ([.ref (q 0), .int x] : List Value).toArray below meth c H locs 0 0 (MQ below (mw_Qi n0 D cl (fun r w' => r = nI (doneN F cp x).length ∧ w' = w)) ([.ref (q 0), .int x] : List Value).toArray s 0 0 (mw_A n0)) (F0 m 4 ls []) := by
    intro t
    induction t with
    | zero =>
      intro k hk H locs ls h hl
      have hk : k = cp := hk
      refine lv_iload_n hx hb d_M_done_4 rfl (lv_at hl 0 rfl) ?_
      refine lv_aload_n hx hb d_M_done_5 rfl (lv_at hl 2 rfl) ?_
      refine mx_get G h X.1 rfl 20 (by decide) (tb_in in_M) (tb_c k_332) rfl rfl d_M_done_6 ?_
      refine lv_icmp_ge (tgt := 31) hx hb d_M_done_9 (by decide) (fun c_1 => ?_) (fun c_1 => ?_)
      · refine lv_iload_n hx hb d_M_done_31 rfl (lv_at hl 1 rfl) ?_
        exact mx_reti G h hrt hlocks d_M_done_32 (⟨by rw [hk], rfl⟩)
      · exact absurd (by rw [hk]; exact Int32.le_refl _) c_1
    | succ t ih =>
      intro k hk H locs ls h hl
      refine lv_iload_n hx hb d_M_done_4 rfl (lv_at hl 0 rfl) ?_
      refine lv_aload_n hx hb d_M_done_5 rfl (lv_at hl 2 rfl) ?_
      refine mx_get G h X.1 rfl 20 (by decide) (tb_in in_M) (tb_c k_332) rfl rfl d_M_done_6 ?_
      refine lv_icmp_ge (tgt := 31) hx hb d_M_done_9 (by decide) (fun c_2 => ?_) (fun c_2 => ?_)
      · exact absurd ((nI_leI (by omega) (by omega)).mp c_2) (by omega)
      · refine lv_aload_n hx hb d_M_done_12 rfl (lv_at hl 2 rfl) ?_
        refine mx_get G h X.1 rfl 17 (by decide) (tb_in in_M) (tb_c k_329) rfl rfl d_M_done_13 ?_
        refine lv_iload_n hx hb d_M_done_16 rfl (lv_at hl 0 rfl) ?_
        refine ax_i G h (X.2.1 17 (by decide)) k rfl (by omega) (by decide) d_M_done_17 ?_
        refine lv_iload_n hx hb d_M_done_18 rfl (lv_at hl 3 rfl) ?_
        refine lv_icmp_ne (tgt := 25) hx hb d_M_done_19 (by decide) (fun c_3 => ?_) (fun c_3 => ?_)
        · refine lv_iinc (v := (nI k) + 1) (lv' := [(3, .int ((nI k) + 1)), (2, .int (nI (doneN F k x).length)), (0, .ref (q 0)), (1, .int x)]) hx hb d_M_done_25 hl (k := 0) rfl rfl (by decide) rfl (fun ls hl => ?_)
          refine lv_goto (tgt := 4) hx hb d_M_done_28 (by decide) ?_
          simp only [nI_1] at hl
          refine ih (k + 1) (by omega) H locs ls h ?_
          have q1 : doneN F (k + 1) x = doneN F k x := by rw [doneN_s, if_neg c_3]
          rw [q1]
          exact lv_sub hl [0, 1, 2, 3] rfl
        · refine lv_iinc (v := (nI (doneN F k x).length) + 1) (lv' := [(2, .int ((nI (doneN F k x).length) + 1)), (3, .int (nI k)), (0, .ref (q 0)), (1, .int x)]) hx hb d_M_done_22 hl (k := 1) rfl rfl (by decide) rfl (fun ls hl => ?_)
          refine lv_iinc (v := (nI k) + 1) (lv' := [(3, .int ((nI k) + 1)), (2, .int ((nI (doneN F k x).length) + 1)), (0, .ref (q 0)), (1, .int x)]) hx hb d_M_done_25 hl (k := 1) rfl rfl (by decide) rfl (fun ls hl => ?_)
          refine lv_goto (tgt := 4) hx hb d_M_done_28 (by decide) ?_
          simp only [nI_1] at hl
          refine ih (k + 1) (by omega) H locs ls h ?_
          have q1 : (doneN F (k + 1) x).length = (doneN F k x).length + 1 := by rw [doneN_s, if_pos c_3]; simp
          rw [q1]
          exact lv_sub hl [0, 1, 2, 3] rfl
  exact loop cp 0 (by omega) _ _ ls h (lv_sub hl [0, 1, 2, 3] rfl)
set_option maxHeartbeats 4000000 in
set_option maxRecDepth 100000 in
theorem m_M_pending {l : Launch} {D : va_G} {cA : Nat → ClassId} {n0 : Nat} {w : mw} {ρ q : Nat → Nat} {lim un sn pg bd cm cp : Nat} {tk : Int32} {rs : Int64} {F : Nat → Nat → Int32} {R : Nat → Int64} (X : MX cA w ρ q lim un sn pg bd cm cp tk rs F R) (hun : un ≤ 512) (hcm : cm ≤ 512) (hcp : cp ≤ 512) {x : Int32} :
    Mi l D cA n0 y_M_pending c_M_pending (rmd 0) [.ref (q 0), .int x] w (fun r w' => r = nI (pendN F cm x).length ∧ w' = w) := by
  refine mw_met (cc := b_M_pending) (maxL := 4) (ret := (some .int)) (by decide) rfl (Nat.le_of_ble_eq_true rfl) ?_
  intro p e s m below meth c ls G hrt hlocks hname h hl
  have G : mw_G p m c b_M_pending 4 s _ (c_M_pending :: TB) R_M D cl (tys cA) n0 := G
  have hx := G.1.1
  have hb := G.1.2.1
  have hl : lv_has ls 4 [(0, .ref (q 0)), (1, .int x)] := hl
  refine lv_iconst (v := 0) hx hb d_M_pending_0 (by decide) ?_
  refine lv_istore_n (lv' := [(2, .int 0), (0, .ref (q 0)), (1, .int x)]) hx hb d_M_pending_1 rfl hl (by decide) rfl (fun ls hl => ?_)
  refine lv_iconst (v := 1) hx hb d_M_pending_2 (by decide) ?_
  refine lv_istore_n (lv' := [(3, .int 1), (2, .int 0), (0, .ref (q 0)), (1, .int x)]) hx hb d_M_pending_3 rfl hl (by decide) rfl (fun ls hl => ?_)
  have loop : ∀ (t k : Nat), k + t = cm → ∀ (H : Heap) (locs : List Loc) (ls : Array Slot), mw_H n0 D cl s w H locs → lv_has ls 4 [(3, .int (nI (k + 1))), (2, .int (nI (pendN F k x).length)), (0, .ref (q 0)), (1, .int x)] → W p l e (rmd 0) s m ([.ref (q 0), .int x] : List Value).toArray below meth c H locs 0 0 (MQ below (mw_Qi n0 D cl (fun r w' => r = nI (pendN F cm x).length ∧ w' = w)) ([.ref (q 0), .int x] : List Value).toArray s 0 0 (mw_A n0)) (F0 m 4 ls []) := by
    intro t
    induction t with
    | zero =>
      intro k hk H locs ls h hl
      have hk : k = cm := hk
      refine lv_iload_n hx hb d_M_pending_4 rfl (lv_at hl 0 rfl) ?_
      refine lv_aload_n hx hb d_M_pending_5 rfl (lv_at hl 2 rfl) ?_
      refine mx_get G h X.1 rfl 16 (by decide) (tb_in in_M) (tb_c k_328) rfl rfl d_M_pending_6 ?_
      refine lv_icmp_gt (tgt := 31) hx hb d_M_pending_9 (by decide) (fun c_1 => ?_) (fun c_1 => ?_)
      · refine lv_iload_n hx hb d_M_pending_31 rfl (lv_at hl 1 rfl) ?_
        exact mx_reti G h hrt hlocks d_M_pending_32 (⟨by rw [hk], rfl⟩)
      · exact absurd ((nI_ltI (by omega) (by omega)).mpr (by omega)) c_1
    | succ t ih =>
      intro k hk H locs ls h hl
      refine lv_iload_n hx hb d_M_pending_4 rfl (lv_at hl 0 rfl) ?_
      refine lv_aload_n hx hb d_M_pending_5 rfl (lv_at hl 2 rfl) ?_
      refine mx_get G h X.1 rfl 16 (by decide) (tb_in in_M) (tb_c k_328) rfl rfl d_M_pending_6 ?_
      refine lv_icmp_gt (tgt := 31) hx hb d_M_pending_9 (by decide) (fun c_2 => ?_) (fun c_2 => ?_)
      · exact absurd ((nI_ltI (by omega) (by omega)).mp c_2) (by omega)
      · refine lv_aload_n hx hb d_M_pending_12 rfl (lv_at hl 2 rfl) ?_
        refine mx_get G h X.1 rfl 11 (by decide) (tb_in in_M) (tb_c k_323) rfl rfl d_M_pending_13 ?_
        refine lv_iload_n hx hb d_M_pending_16 rfl (lv_at hl 0 rfl) ?_
        refine ax_i G h (X.2.1 11 (by decide)) (k + 1) rfl (by omega) (by decide) d_M_pending_17 ?_
        refine lv_iload_n hx hb d_M_pending_18 rfl (lv_at hl 3 rfl) ?_
        refine lv_icmp_ne (tgt := 25) hx hb d_M_pending_19 (by decide) (fun c_3 => ?_) (fun c_3 => ?_)
        · refine lv_iinc (v := (nI (k + 1)) + 1) (lv' := [(3, .int ((nI (k + 1)) + 1)), (2, .int (nI (pendN F k x).length)), (0, .ref (q 0)), (1, .int x)]) hx hb d_M_pending_25 hl (k := 0) rfl rfl (by decide) rfl (fun ls hl => ?_)
          refine lv_goto (tgt := 4) hx hb d_M_pending_28 (by decide) ?_
          simp only [nI_1] at hl
          refine ih (k + 1) (by omega) H locs ls h ?_
          have q1 : pendN F (k + 1) x = pendN F k x := by rw [pendN_s, if_neg c_3]
          rw [q1]
          exact lv_sub hl [0, 1, 2, 3] rfl
        · refine lv_iinc (v := (nI (pendN F k x).length) + 1) (lv' := [(2, .int ((nI (pendN F k x).length) + 1)), (3, .int (nI (k + 1))), (0, .ref (q 0)), (1, .int x)]) hx hb d_M_pending_22 hl (k := 1) rfl rfl (by decide) rfl (fun ls hl => ?_)
          refine lv_iinc (v := (nI (k + 1)) + 1) (lv' := [(3, .int ((nI (k + 1)) + 1)), (2, .int ((nI (pendN F k x).length) + 1)), (0, .ref (q 0)), (1, .int x)]) hx hb d_M_pending_25 hl (k := 1) rfl rfl (by decide) rfl (fun ls hl => ?_)
          refine lv_goto (tgt := 4) hx hb d_M_pending_28 (by decide) ?_
          simp only [nI_1] at hl
          refine ih (k + 1) (by omega) H locs ls h ?_
          have q1 : (pendN F (k + 1) x).length = (pendN F k x).length + 1 := by rw [pendN_s, if_pos c_3]; simp
          rw [q1]
          exact lv_sub hl [0, 1, 2, 3] rfl
  exact loop cm 0 (by omega) _ _ ls h (lv_sub hl [0, 1, 2, 3] rfl)
set_option maxHeartbeats 4000000 in
set_option maxRecDepth 100000 in
theorem m_M_picked {l : Launch} {D : va_G} {cA : Nat → ClassId} {n0 : Nat} {w : mw} {ρ q : Nat → Nat} {lim un sn pg bd cm cp : Nat} {tk : Int32} {rs : Int64} {F : Nat → Nat → Int32} {R : Nat → Int64} (X : MX cA w ρ q lim un sn pg bd cm cp tk rs F R) (hun : un ≤ 512) (hcm : cm ≤ 512) (hcp : cp ≤ 512) {x y : Int32} {i : Nat} (hyi : y = nI i) (hi : i < 1000) :
    Mi l D cA n0 y_M_picked c_M_picked (rmd 0) [.ref (q 0), .int x, .int y] w (fun r w' => r = (match (pendN F cm x)[i]? with | some c => nI c | none => 0) ∧ w' = w) := by
  refine mw_met (cc := b_M_picked) (maxL := 5) (ret := (some .int)) (by decide) rfl (Nat.le_of_ble_eq_true rfl) ?_
  intro p e s m below meth c ls G hrt hlocks hname h hl
  have G : mw_G p m c b_M_picked 5 s _ (c_M_picked :: TB) R_M D cl (tys cA) n0 := G
  have hx := G.1.1
  have hb := G.1.2.1
  have hl : lv_has ls 5 [(0, .ref (q 0)), (1, .int x), (2, .int y)] := hl
  refine lv_iconst (v := 0) hx hb d_M_picked_0 (by decide) ?_
  refine lv_istore_n (lv' := [(3, .int 0), (0, .ref (q 0)), (1, .int x), (2, .int y)]) hx hb d_M_picked_1 rfl hl (by decide) rfl (fun ls hl => ?_)
  refine lv_iconst (v := 1) hx hb d_M_picked_2 (by decide) ?_
  refine lv_istore (lv' := [(4, .int 1), (3, .int 0), (0, .ref (q 0)), (1, .int x), (2, .int y)]) hx hb d_M_picked_3 hl (by decide) rfl (fun ls hl => ?_)
  have loop : ∀ (t k : Nat), k + t = cm → (pendN F k x).length ≤ i → ∀ (H : Heap) (locs : List Loc) (ls : Array Slot), mw_H n0 D cl s w H locs → lv_has ls 5 [(4, .int (nI (k + 1))), (3, .int (nI (pendN F k x).length)), (0, .ref (q 0)), (1, .int x), (2, .int y)] → W p l e (rmd 0) s m ([.ref (q 0), .int x, .int y] : List Value).toArray below meth c H locs 0 0 (MQ below (mw_Qi n0 D cl (fun r w' => r = (match (pendN F cm x)[i]? with | some c => nI c | none => 0) ∧ w' = w)) ([.ref (q 0), .int x, .int y] : List Value).toArray s 0 0 (mw_A n0)) (F0 m 5 ls []) := by
    intro t
    induction t with
    | zero =>
      intro k hk hle H locs ls h hl
      have hk : k = cm := hk
      refine lv_iload hx hb d_M_picked_5 (lv_at hl 0 rfl) ?_
      refine lv_aload_n hx hb d_M_picked_7 rfl (lv_at hl 2 rfl) ?_
      refine mx_get G h X.1 rfl 16 (by decide) (tb_in in_M) (tb_c k_328) rfl rfl d_M_picked_8 ?_
      refine lv_icmp_gt (tgt := 42) hx hb d_M_picked_11 (by decide) (fun c_1 => ?_) (fun c_1 => ?_)
      · refine lv_iconst (v := 0) hx hb d_M_picked_42 (by decide) ?_
        exact mx_reti G h hrt hlocks d_M_picked_43 (⟨by rw [hk] at hle; rw [List.getElem?_eq_none hle], rfl⟩)
      · exact absurd ((nI_ltI (by omega) (by omega)).mpr (by omega)) c_1
    | succ t ih =>
      intro k hk hle H locs ls h hl
      have hkl := pendN_le F k x
      refine lv_iload hx hb d_M_picked_5 (lv_at hl 0 rfl) ?_
      refine lv_aload_n hx hb d_M_picked_7 rfl (lv_at hl 2 rfl) ?_
      refine mx_get G h X.1 rfl 16 (by decide) (tb_in in_M) (tb_c k_328) rfl rfl d_M_picked_8 ?_
      refine lv_icmp_gt (tgt := 42) hx hb d_M_picked_11 (by decide) (fun c_2 => ?_) (fun c_2 => ?_)
      · exact absurd ((nI_ltI (by omega) (by omega)).mp c_2) (by omega)
      · refine lv_aload_n hx hb d_M_picked_14 rfl (lv_at hl 2 rfl) ?_
        refine mx_get G h X.1 rfl 11 (by decide) (tb_in in_M) (tb_c k_323) rfl rfl d_M_picked_15 ?_
        refine lv_iload hx hb d_M_picked_18 (lv_at hl 0 rfl) ?_
        refine ax_i G h (X.2.1 11 (by decide)) (k + 1) rfl (by omega) (by decide) d_M_picked_20 ?_
        refine lv_iload_n hx hb d_M_picked_21 rfl (lv_at hl 3 rfl) ?_
        refine lv_icmp_ne (tgt := 36) hx hb d_M_picked_22 (by decide) (fun c_3 => ?_) (fun c_3 => ?_)
        · refine lv_iinc (v := (nI (k + 1)) + 1) (lv' := [(4, .int ((nI (k + 1)) + 1)), (3, .int (nI (pendN F k x).length)), (0, .ref (q 0)), (1, .int x), (2, .int y)]) hx hb d_M_picked_36 hl (k := 0) rfl rfl (by decide) rfl (fun ls hl => ?_)
          refine lv_goto (tgt := 5) hx hb d_M_picked_39 (by decide) ?_
          simp only [nI_1] at hl
          have q1 : pendN F (k + 1) x = pendN F k x := by rw [pendN_s, if_neg c_3]
          refine ih (k + 1) (by omega) (by rw [q1]; exact hle) H locs ls h ?_
          rw [q1]
          exact lv_sub hl [0, 1, 2, 3, 4] rfl
        · refine lv_iload_n hx hb d_M_picked_25 rfl (lv_at hl 1 rfl) ?_
          refine lv_iload_n hx hb d_M_picked_26 rfl (lv_at hl 4 rfl) ?_
          refine lv_icmp_ne (tgt := 33) hx hb d_M_picked_27 (by decide) (fun c_4 => ?_) (fun c_4 => ?_)
          · refine lv_iinc (v := (nI (pendN F k x).length) + 1) (lv' := [(3, .int ((nI (pendN F k x).length) + 1)), (4, .int (nI (k + 1))), (0, .ref (q 0)), (1, .int x), (2, .int y)]) hx hb d_M_picked_33 hl (k := 1) rfl rfl (by decide) rfl (fun ls hl => ?_)
            refine lv_iinc (v := (nI (k + 1)) + 1) (lv' := [(4, .int ((nI (k + 1)) + 1)), (3, .int ((nI (pendN F k x).length) + 1)), (0, .ref (q 0)), (1, .int x), (2, .int y)]) hx hb d_M_picked_36 hl (k := 1) rfl rfl (by decide) rfl (fun ls hl => ?_)
            refine lv_goto (tgt := 5) hx hb d_M_picked_39 (by decide) ?_
            simp only [nI_1] at hl
            have q1 : (pendN F (k + 1) x).length = (pendN F k x).length + 1 := by rw [pendN_s, if_pos c_3]; simp
            have hne : (pendN F k x).length ≠ i := fun z => c_4 (by rw [hyi, z])
            refine ih (k + 1) (by omega) (by omega) H locs ls h ?_
            rw [q1]
            exact lv_sub hl [0, 1, 2, 3, 4] rfl
          · refine lv_iload hx hb d_M_picked_30 (lv_at hl 0 rfl) ?_
            have hli : (pendN F k x).length = i := (nI_eq (by omega) (by omega)).mp (by rw [c_4, hyi])
            obtain ⟨r9, hr9⟩ := pendN_pre F (k + 1) x t
            have hg : (pendN F cm x)[i]? = some (k + 1) := by
              rw [show cm = k + 1 + t by omega, hr9, pendN_s, if_pos c_3, ← hli]
              simp
            exact mx_reti G h hrt hlocks d_M_picked_32 (⟨by rw [hg], rfl⟩)
  exact loop cm 0 (by omega) (Nat.zero_le _) _ _ ls h (lv_sub hl [0, 1, 2, 3, 4] rfl)
def bst (b : Option Nat) : Int32 := match b with
  | some b => nI b
  | none => -1
theorem bestN_lt {F : Nat → Nat → Int32} {x : Int32} : ∀ {n b : Nat}, bestN F x n = some b → b < n
  | 0, b, h => by cases h
  | n + 1, b, h => by
    rw [bestN] at h
    split at h
    · cases h; exact Nat.lt_succ_self _
    · exact Nat.lt_succ_of_lt (bestN_lt h)
set_option maxHeartbeats 4000000 in
set_option maxRecDepth 100000 in
theorem m_M_inFlash {l : Launch} {D : va_G} {cA : Nat → ClassId} {n0 : Nat} {w : mw} {ρ q : Nat → Nat} {lim un sn pg bd cm cp : Nat} {tk : Int32} {rs : Int64} {F : Nat → Nat → Int32} {R : Nat → Int64} (X : MX cA w ρ q lim un sn pg bd cm cp tk rs F R) (hun : un ≤ 512) (hcm : cm ≤ 512) (hcp : cp ≤ 512) {x : Int32} :
    Ml l D cA n0 y_M_inFlash c_M_inFlash (rmd 1) [.ref (q 0), .int x] w (fun r w' => r = inFl F un x ∧ w' = w) := by
  refine mw_met (cc := b_M_inFlash) (maxL := 4) (ret := (some .long)) (by decide) rfl (Nat.le_of_ble_eq_true rfl) ?_
  intro p e s m below meth c ls G hrt hlocks hname h hl
  have G : mw_G p m c b_M_inFlash 4 s _ (c_M_inFlash :: TB) R_M D cl (tys cA) n0 := G
  have hx := G.1.1
  have hb := G.1.2.1
  have hl : lv_has ls 4 [(0, .ref (q 0)), (1, .int x)] := hl
  refine lv_iconst (v := (-1)) hx hb d_M_inFlash_0 (by decide) ?_
  refine lv_istore_n (lv' := [(2, .int (-1)), (0, .ref (q 0)), (1, .int x)]) hx hb d_M_inFlash_1 rfl hl (by decide) rfl (fun ls hl => ?_)
  refine lv_iconst (v := 0) hx hb d_M_inFlash_2 (by decide) ?_
  refine lv_istore_n (lv' := [(3, .int 0), (2, .int (-1)), (0, .ref (q 0)), (1, .int x)]) hx hb d_M_inFlash_3 rfl hl (by decide) rfl (fun ls hl => ?_)
  have loop : ∀ (t k : Nat), k + t = un → ∀ (H : Heap) (locs : List Loc) (ls : Array Slot), mw_H n0 D cl s w H locs → lv_has ls 4 [(3, .int (nI k)), (2, .int (bst (bestN F x k))), (0, .ref (q 0)), (1, .int x)] → W p l e (rmd 1) s m ([.ref (q 0), .int x] : List Value).toArray below meth c H locs 0 0 (MQ below (mw_Ql n0 D cl (fun r w' => r = inFl F un x ∧ w' = w)) ([.ref (q 0), .int x] : List Value).toArray s 0 0 (mw_A n0)) (F0 m 4 ls []) := by
    intro t
    induction t with
    | zero =>
      intro k hk H locs ls h hl
      have hk : k = un := hk
      subst hk
      cases hb9 : bestN F x k with
      | none =>
        rw [hb9] at hl
        have hl : lv_has ls 4 [(3, .int (nI k)), (2, .int (-1)), (0, .ref (q 0)), (1, .int x)] := hl
        refine lv_iload_n hx hb d_M_inFlash_4 rfl (lv_at hl 0 rfl) ?_
        refine lv_aload_n hx hb d_M_inFlash_5 rfl (lv_at hl 2 rfl) ?_
        refine mx_get G h X.1 rfl 7 (by decide) (tb_in in_M) (tb_c k_319) rfl rfl d_M_inFlash_6 ?_
        refine lv_icmp_ge (tgt := 57) hx hb d_M_inFlash_9 (by decide) (fun c_1 => ?_) (fun c_1 => ?_)
        · refine lv_iload_n hx hb d_M_inFlash_57 rfl (lv_at hl 1 rfl) ?_
          refine lv_if_ge (tgt := 67) hx hb d_M_inFlash_58 (by decide) (fun c_2 => ?_) (fun c_2 => ?_)
          · exact absurd c_2 (by decide)
          · refine lv_ldc2 (v := NN) hx hb G.1.2.2.2.1 (G.1.2.2.2.2 _ (tb_c k_311)) d_M_inFlash_61 ?_
            refine lv_goto (tgt := 73) hx hb d_M_inFlash_64 (by decide) ?_
            exact mx_retl G h hrt hlocks d_M_inFlash_73 (⟨by rw [inFl, hb9], rfl⟩)
        · exact absurd (Int32.le_refl _) c_1
      | some b =>
        have hbk := bestN_lt hb9
        rw [hb9] at hl
        have hl : lv_has ls 4 [(3, .int (nI k)), (2, .int (nI b)), (0, .ref (q 0)), (1, .int x)] := hl
        refine lv_iload_n hx hb d_M_inFlash_4 rfl (lv_at hl 0 rfl) ?_
        refine lv_aload_n hx hb d_M_inFlash_5 rfl (lv_at hl 2 rfl) ?_
        refine mx_get G h X.1 rfl 7 (by decide) (tb_in in_M) (tb_c k_319) rfl rfl d_M_inFlash_6 ?_
        refine lv_icmp_ge (tgt := 57) hx hb d_M_inFlash_9 (by decide) (fun c_3 => ?_) (fun c_3 => ?_)
        · refine lv_iload_n hx hb d_M_inFlash_57 rfl (lv_at hl 1 rfl) ?_
          refine lv_if_ge (tgt := 67) hx hb d_M_inFlash_58 (by decide) (fun c_4 => ?_) (fun c_4 => ?_)
          · refine lv_aload_n hx hb d_M_inFlash_67 rfl (lv_at hl 2 rfl) ?_
            refine lv_iload_n hx hb d_M_inFlash_68 rfl (lv_at hl 1 rfl) ?_
            refine lv_iload_n hx hb d_M_inFlash_69 rfl (lv_at hl 3 rfl) ?_
            refine mx_cl (cV (As := [.int (nI b), .int x]) (rest := []) G h (m_M_wordOf X (u := b) (by omega) rfl (x := x)) k_422 k_424 ks_20 k_7 k_425 hd_M_wordOf rfl rfl ⟨Nat.le_of_ble_eq_true rfl, Nat.le_of_ble_eq_true rfl⟩ X.1 rfl rfl hl.1 rfl (Nat.le_of_ble_eq_true rfl) d_M_inFlash_70 ⟨Nat.le_of_ble_eq_true rfl, Nat.le_of_ble_eq_true rfl⟩) h (fun r_6 w_5 H locs h hcp => ?_)
            obtain ⟨er_7, ew_8⟩ := hcp
            subst er_7
            rw [ew_8] at h
            exact mx_retl G h hrt hlocks d_M_inFlash_73 (⟨by rw [inFl, hb9], rfl⟩)
          · exact absurd (nI_pos' (by omega)) c_4
        · exact absurd (Int32.le_refl _) c_3
    | succ t ih =>
      intro k hk H locs ls h hl
      have step : ∀ (b : Option Nat), bestN F x (k + 1) = b → ∀ (H : Heap) (locs : List Loc) (ls : Array Slot), mw_H n0 D cl s w H locs → lv_has ls 4 [(3, .int (nI k)), (2, .int (bst b)), (0, .ref (q 0)), (1, .int x)] → W p l e (rmd 1) s m ([.ref (q 0), .int x] : List Value).toArray below meth c H locs 0 0 (MQ below (mw_Ql n0 D cl (fun r w' => r = inFl F un x ∧ w' = w)) ([.ref (q 0), .int x] : List Value).toArray s 0 0 (mw_A n0)) (F0 m 51 ls []) := by
        intro b hb9 H locs ls h hl
        refine lv_iinc (v := (nI k) + 1) (lv' := [(3, .int ((nI k) + 1)), (2, .int (bst b)), (0, .ref (q 0)), (1, .int x)]) hx hb d_M_inFlash_51 hl (k := 0) rfl rfl (by decide) rfl (fun ls hl => ?_)
        refine lv_goto (tgt := 4) hx hb d_M_inFlash_54 (by decide) ?_
        simp only [nI_1] at hl
        refine ih (k + 1) (by omega) H locs ls h ?_
        rw [hb9]
        exact lv_sub hl [0, 1, 2, 3] rfl
      refine lv_iload_n hx hb d_M_inFlash_4 rfl (lv_at hl 0 rfl) ?_
      refine lv_aload_n hx hb d_M_inFlash_5 rfl (lv_at hl 2 rfl) ?_
      refine mx_get G h X.1 rfl 7 (by decide) (tb_in in_M) (tb_c k_319) rfl rfl d_M_inFlash_6 ?_
      refine lv_icmp_ge (tgt := 57) hx hb d_M_inFlash_9 (by decide) (fun c_9 => ?_) (fun c_9 => ?_)
      · exact absurd ((nI_leI (by omega) (by omega)).mp c_9) (by omega)
      · refine lv_aload_n hx hb d_M_inFlash_12 rfl (lv_at hl 2 rfl) ?_
        refine mx_get G h X.1 rfl 5 (by decide) (tb_in in_M) (tb_c k_317) rfl rfl d_M_inFlash_13 ?_
        refine lv_iload_n hx hb d_M_inFlash_16 rfl (lv_at hl 0 rfl) ?_
        refine ax_i G h (X.2.1 5 (by decide)) k rfl (by omega) (by decide) d_M_inFlash_17 ?_
        refine lv_if_le (tgt := 51) hx hb d_M_inFlash_18 (by decide) (fun c_10 => ?_) (fun c_10 => ?_)
        · exact step _ (by rw [bestN, if_neg (fun z => absurd z.1 (Int32.not_lt.mpr c_10))]) H locs ls h hl
        · refine lv_aload_n hx hb d_M_inFlash_21 rfl (lv_at hl 2 rfl) ?_
          refine lv_iload_n hx hb d_M_inFlash_22 rfl (lv_at hl 0 rfl) ?_
          refine lv_iload_n hx hb d_M_inFlash_23 rfl (lv_at hl 3 rfl) ?_
          refine mx_ci (cV (As := [.int (nI k), .int x]) (rest := []) G h (m_M_covers X (u := k) (by omega) rfl (x := x)) k_418 k_420 ks_19 k_7 k_421 hd_M_covers rfl rfl ⟨Nat.le_of_ble_eq_true rfl, Nat.le_of_ble_eq_true rfl⟩ X.1 rfl rfl hl.1 rfl (Nat.le_of_ble_eq_true rfl) d_M_inFlash_24 ⟨Nat.le_of_ble_eq_true rfl, Nat.le_of_ble_eq_true rfl⟩) h (fun r_12 w_11 H locs h hcp => ?_)
          obtain ⟨er_13, ew_14⟩ := hcp
          subst er_13
          rw [ew_14] at h
          refine lv_if_eq (tgt := 51) hx hb d_M_inFlash_27 (by decide) (fun c_15 => ?_) (fun c_15 => ?_)
          · exact step _ (by rw [bestN, if_neg (fun z => bI_0 c_15 z.2.1)]) H locs ls h hl
          · cases hb9 : bestN F x k with
            | none =>
              rw [hb9] at hl
              have hl : lv_has ls 4 [(3, .int (nI k)), (2, .int (-1)), (0, .ref (q 0)), (1, .int x)] := hl
              refine lv_iload_n hx hb d_M_inFlash_30 rfl (lv_at hl 1 rfl) ?_
              refine lv_if_lt (tgt := 49) hx hb d_M_inFlash_31 (by decide) (fun c_16 => ?_) (fun c_16 => ?_)
              · refine lv_iload_n hx hb d_M_inFlash_49 rfl (lv_at hl 0 rfl) ?_
                refine lv_istore_n (lv' := [(2, .int (nI k)), (3, .int (nI k)), (0, .ref (q 0)), (1, .int x)]) hx hb d_M_inFlash_50 rfl hl (by decide) rfl (fun ls hl => ?_)
                exact step (some k) (by rw [bestN, if_pos ⟨Int32.not_le.mp c_10, bI_n c_15, fun b z => by rw [hb9] at z; cases z⟩]) H locs ls h (lv_sub hl [1, 0, 2, 3] rfl)
              · exact absurd (by decide) c_16
            | some b =>
              have hbk := bestN_lt hb9
              rw [hb9] at hl
              have hl : lv_has ls 4 [(3, .int (nI k)), (2, .int (nI b)), (0, .ref (q 0)), (1, .int x)] := hl
              refine lv_iload_n hx hb d_M_inFlash_30 rfl (lv_at hl 1 rfl) ?_
              refine lv_if_lt (tgt := 49) hx hb d_M_inFlash_31 (by decide) (fun c_17 => ?_) (fun c_17 => ?_)
              · exact absurd c_17 (nI_pos (by omega))
              · refine lv_aload_n hx hb d_M_inFlash_34 rfl (lv_at hl 2 rfl) ?_
                refine mx_get G h X.1 rfl 5 (by decide) (tb_in in_M) (tb_c k_317) rfl rfl d_M_inFlash_35 ?_
                refine lv_iload_n hx hb d_M_inFlash_38 rfl (lv_at hl 0 rfl) ?_
                refine ax_i G h (X.2.1 5 (by decide)) k rfl (by omega) (by decide) d_M_inFlash_39 ?_
                refine lv_aload_n hx hb d_M_inFlash_40 rfl (lv_at hl 2 rfl) ?_
                refine mx_get G h X.1 rfl 5 (by decide) (tb_in in_M) (tb_c k_317) rfl rfl d_M_inFlash_41 ?_
                refine lv_iload_n hx hb d_M_inFlash_44 rfl (lv_at hl 1 rfl) ?_
                refine ax_i G h (X.2.1 5 (by decide)) b rfl (by omega) (by decide) d_M_inFlash_45 ?_
                refine lv_icmp_le (tgt := 51) hx hb d_M_inFlash_46 (by decide) (fun c_18 => ?_) (fun c_18 => ?_)
                · exact step (some b) (by rw [bestN, if_neg (fun z => absurd (z.2.2 b hb9) (Int32.not_lt.mpr c_18))]; exact hb9) H locs ls h (lv_sub hl [0, 1, 2, 3] rfl)
                · refine lv_iload_n hx hb d_M_inFlash_49 rfl (lv_at hl 0 rfl) ?_
                  refine lv_istore_n (lv' := [(2, .int (nI k)), (3, .int (nI k)), (0, .ref (q 0)), (1, .int x)]) hx hb d_M_inFlash_50 rfl hl (by decide) rfl (fun ls hl => ?_)
                  exact step (some k) (by rw [bestN, if_pos ⟨Int32.not_le.mp c_10, bI_n c_15, fun b2 z => by rw [hb9] at z; cases z; exact Int32.not_le.mp c_18⟩]) H locs ls h (lv_sub hl [1, 0, 2, 3] rfl)
  exact loop un 0 (by omega) _ _ ls h (lv_sub hl [0, 1, 2, 3] rfl)
set_option maxHeartbeats 4000000 in
set_option maxRecDepth 100000 in
theorem m_M_holds {l : Launch} {D : va_G} {cA : Nat → ClassId} {n0 : Nat} {w : mw} {ρ q : Nat → Nat} {lim un sn pg bd cm cp : Nat} {tk : Int32} {rs : Int64} {F : Nat → Nat → Int32} {R : Nat → Int64} (X : MX cA w ρ q lim un sn pg bd cm cp tk rs F R) (hun : un ≤ 512) (hcm : cm ≤ 512) (hcp : cp ≤ 512) {x : Int32} :
    Ml l D cA n0 y_M_holds c_M_holds (rmd 2) [.ref (q 0), .int x] w (fun r w' => r = hldN F un x un ∧ w' = w) := by
  refine mw_met (cc := b_M_holds) (maxL := 3) (ret := (some .long)) (by decide) rfl (Nat.le_of_ble_eq_true rfl) ?_
  intro p e s m below meth c ls G hrt hlocks hname h hl
  have G : mw_G p m c b_M_holds 3 s _ (c_M_holds :: TB) R_M D cl (tys cA) n0 := G
  have hx := G.1.1
  have hb := G.1.2.1
  have hl : lv_has ls 3 [(0, .ref (q 0)), (1, .int x)] := hl
  refine lv_aload_n hx hb d_M_holds_0 rfl (lv_at hl 0 rfl) ?_
  refine mx_get G h X.1 rfl 7 (by decide) (tb_in in_M) (tb_c k_319) rfl rfl d_M_holds_1 ?_
  refine lv_iconst (v := 1) hx hb d_M_holds_4 (by decide) ?_
  refine lv_isub hx hb d_M_holds_5 ?_
  refine lv_istore_n (lv' := [(2, .int ((nI un) - 1)), (0, .ref (q 0)), (1, .int x)]) hx hb d_M_holds_6 rfl hl (by decide) rfl (fun ls hl => ?_)
  have loop : ∀ (j : Nat), j ≤ un → hldN F un x un = hldN F un x j → ∀ (H : Heap) (locs : List Loc) (ls : Array Slot), mw_H n0 D cl s w H locs → lv_has ls 3 [(2, .int (nI j - 1)), (0, .ref (q 0)), (1, .int x)] → W p l e (rmd 2) s m ([.ref (q 0), .int x] : List Value).toArray below meth c H locs 0 0 (MQ below (mw_Ql n0 D cl (fun r w' => r = hldN F un x un ∧ w' = w)) ([.ref (q 0), .int x] : List Value).toArray s 0 0 (mw_A n0)) (F0 m 7 ls []) := by
    intro j
    induction j with
    | zero =>
      intro hj he H locs ls h hl
      refine lv_iload_n hx hb d_M_holds_7 rfl (lv_at hl 0 rfl) ?_
      refine lv_if_lt (tgt := 42) hx hb d_M_holds_8 (by decide) (fun c_1 => ?_) (fun c_1 => ?_)
      · refine lv_aload_n hx hb d_M_holds_42 rfl (lv_at hl 1 rfl) ?_
        refine lv_iload_n hx hb d_M_holds_43 rfl (lv_at hl 2 rfl) ?_
        refine mx_cl (cV (As := [.int x]) (rest := []) G h (m_M_inFlash X hun hcm hcp (x := x)) k_426 k_428 ks_21 k_7 k_429 hd_M_inFlash rfl rfl ⟨Nat.le_of_ble_eq_true rfl, Nat.le_of_ble_eq_true rfl⟩ X.1 rfl rfl hl.1 rfl (Nat.le_of_ble_eq_true rfl) d_M_holds_44 ⟨Nat.le_of_ble_eq_true rfl, Nat.le_of_ble_eq_true rfl⟩) h (fun r_3 w_2 H locs h hcp => ?_)
        obtain ⟨er_4, ew_5⟩ := hcp
        subst er_4
        rw [ew_5] at h
        exact mx_retl G h hrt hlocks d_M_holds_47 (⟨by rw [he]; rfl, rfl⟩)
      · exact absurd (by decide) c_1
    | succ k ih =>
      intro hj he H locs ls h hl
      rw [nI_pred k] at hl
      refine lv_iload_n hx hb d_M_holds_7 rfl (lv_at hl 0 rfl) ?_
      refine lv_if_lt (tgt := 42) hx hb d_M_holds_8 (by decide) (fun c_6 => ?_) (fun c_6 => ?_)
      · exact absurd c_6 (nI_pos (by omega))
      · refine lv_aload_n hx hb d_M_holds_11 rfl (lv_at hl 1 rfl) ?_
        refine mx_get G h X.1 rfl 6 (by decide) (tb_in in_M) (tb_c k_318) rfl rfl d_M_holds_12 ?_
        refine lv_iload_n hx hb d_M_holds_15 rfl (lv_at hl 0 rfl) ?_
        refine ax_z G h (X.2.2.1 6 (by decide)) k rfl (by omega) (by decide) d_M_holds_16 ?_
        refine lv_if_eq (tgt := 36) hx hb d_M_holds_17 (by decide) (fun c_7 => ?_) (fun c_7 => ?_)
        · refine lv_iinc (v := (nI k) + (-1)) (lv' := [(2, .int ((nI k) + (-1))), (0, .ref (q 0)), (1, .int x)]) hx hb d_M_holds_36 hl (k := 0) rfl rfl (by decide) rfl (fun ls hl => ?_)
          refine lv_goto (tgt := 7) hx hb d_M_holds_39 (by decide) ?_
          rw [nI_m1] at hl
          exact ih (by omega) (by rw [he, hldN, if_neg (fun z => z.1 c_7)]) H locs ls h (lv_sub hl [0, 1, 2] rfl)
        · refine lv_aload_n hx hb d_M_holds_20 rfl (lv_at hl 1 rfl) ?_
          refine lv_iload_n hx hb d_M_holds_21 rfl (lv_at hl 0 rfl) ?_
          refine lv_iload_n hx hb d_M_holds_22 rfl (lv_at hl 2 rfl) ?_
          refine mx_ci (cV (As := [.int (nI k), .int x]) (rest := []) G h (m_M_covers X (u := k) (by omega) rfl (x := x)) k_418 k_420 ks_19 k_7 k_421 hd_M_covers rfl rfl ⟨Nat.le_of_ble_eq_true rfl, Nat.le_of_ble_eq_true rfl⟩ X.1 rfl rfl hl.1 rfl (Nat.le_of_ble_eq_true rfl) d_M_holds_23 ⟨Nat.le_of_ble_eq_true rfl, Nat.le_of_ble_eq_true rfl⟩) h (fun r_9 w_8 H locs h hcp => ?_)
          obtain ⟨er_10, ew_11⟩ := hcp
          subst er_10
          rw [ew_11] at h
          refine lv_if_eq (tgt := 36) hx hb d_M_holds_26 (by decide) (fun c_12 => ?_) (fun c_12 => ?_)
          · refine lv_iinc (v := (nI k) + (-1)) (lv' := [(2, .int ((nI k) + (-1))), (0, .ref (q 0)), (1, .int x)]) hx hb d_M_holds_36 hl (k := 0) rfl rfl (by decide) rfl (fun ls hl => ?_)
            refine lv_goto (tgt := 7) hx hb d_M_holds_39 (by decide) ?_
            rw [nI_m1] at hl
            exact ih (by omega) (by rw [he, hldN, if_neg (fun z => bI_0 c_12 z.2)]) H locs ls h (lv_sub hl [0, 1, 2] rfl)
          · refine lv_aload_n hx hb d_M_holds_29 rfl (lv_at hl 1 rfl) ?_
            refine lv_iload_n hx hb d_M_holds_30 rfl (lv_at hl 0 rfl) ?_
            refine lv_iload_n hx hb d_M_holds_31 rfl (lv_at hl 2 rfl) ?_
            refine mx_cl (cV (As := [.int (nI k), .int x]) (rest := []) G h (m_M_wordOf X (u := k) (by omega) rfl (x := x)) k_422 k_424 ks_20 k_7 k_425 hd_M_wordOf rfl rfl ⟨Nat.le_of_ble_eq_true rfl, Nat.le_of_ble_eq_true rfl⟩ X.1 rfl rfl hl.1 rfl (Nat.le_of_ble_eq_true rfl) d_M_holds_32 ⟨Nat.le_of_ble_eq_true rfl, Nat.le_of_ble_eq_true rfl⟩) h (fun r_14 w_13 H locs h hcp => ?_)
            obtain ⟨er_15, ew_16⟩ := hcp
            subst er_15
            rw [ew_16] at h
            exact mx_retl G h hrt hlocks d_M_holds_35 (⟨by rw [he, hldN, if_pos ⟨c_7, bI_n c_12⟩], rfl⟩)
  exact loop un (Nat.le_refl _) rfl _ _ ls h (lv_sub hl [0, 1, 2] rfl)
