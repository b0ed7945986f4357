/-! the state anew, row by row -/
theorem mk_up {n : Nat} {f : Nat → Int32} {x : Int32} : mk (n + 1) (up1 f n x) = up1 (mk n f) n x := by
  funext i
  unfold mk up1
  by_cases e : i = n
  · subst e; simp
  · by_cases h : i < n
    · simp [e, h, show i < n + 1 by omega]
    · simp [e, h, show ¬ i < n + 1 by omega]
theorem mk_up2 {n j : Nat} {f : Nat → Int32} {x : Int32} (h : j < n) : mk n (up1 f j x) = up1 (mk n f) j x := by
  funext i
  unfold mk up1
  by_cases e : i = j
  · subst e; simp [h]
  · simp [e]
theorem mk_mk {n m : Nat} {f : Nat → Int32} (h : m ≤ n) : mk m (mk n f) = mk m f := by
  funext i
  unfold mk
  by_cases e : i < m
  · simp [e, show i < n by omega]
  · simp [e]
theorem cE_big {I : IM} {a : Nat} (h : 32 ≤ a) : cE I a = fun _ => 0 := by
  unfold cE
  split <;> first | (exfalso; omega) | rfl
theorem cE_ext {I : IM} {E : IM} (h : ∀ a, a < 32 → cE I a = E a) (hb : ∀ a, 32 ≤ a → E a = fun _ => 0) : cE I = E := by
  funext a
  by_cases ha : a < 32
  · exact h a ha
  · rw [cE_big (by omega), hb a (by omega)]
theorem cE_0 (I : IM) (f : Nat → Int32) : cE (upr I 2 f) = upr (cE I) 0 f := by
  have e : ∀ k, k ≠ 2 → upr I 2 f k = I k := fun k hk => upr_n I f hk
  have es : cSc (upr I 2 f) = cSc I := by
    funext j
    unfold cSc
    simp only [upr_n, ne_eq, Nat.reduceEqDiff, not_false_eq_true]
  funext a
  by_cases h : a = 0
  · subst h
    rw [upr_s]
    exact upr_s I _ f
  · rw [upr_n _ _ h]
    unfold cE
    rw [es]
    split <;> first | rfl | (exfalso; omega) | (simp only [upr_n, ne_eq, Nat.reduceEqDiff, not_false_eq_true])
theorem cE_1 (I : IM) (f : Nat → Int32) : cE (upr I 3 f) = upr (cE I) 1 f := by
  have e : ∀ k, k ≠ 3 → upr I 3 f k = I k := fun k hk => upr_n I f hk
  have es : cSc (upr I 3 f) = cSc I := by
    funext j
    unfold cSc
    simp only [upr_n, ne_eq, Nat.reduceEqDiff, not_false_eq_true]
  funext a
  by_cases h : a = 1
  · subst h
    rw [upr_s]
    exact upr_s I _ f
  · rw [upr_n _ _ h]
    unfold cE
    rw [es]
    split <;> first | rfl | (exfalso; omega) | (simp only [upr_n, ne_eq, Nat.reduceEqDiff, not_false_eq_true])
theorem cE_2 (I : IM) (f : Nat → Int32) : cE (upr I 5 f) = upr (cE I) 2 f := by
  have e : ∀ k, k ≠ 5 → upr I 5 f k = I k := fun k hk => upr_n I f hk
  have es : cSc (upr I 5 f) = cSc I := by
    funext j
    unfold cSc
    simp only [upr_n, ne_eq, Nat.reduceEqDiff, not_false_eq_true]
  funext a
  by_cases h : a = 2
  · subst h
    rw [upr_s]
    exact upr_s I _ f
  · rw [upr_n _ _ h]
    unfold cE
    rw [es]
    split <;> first | rfl | (exfalso; omega) | (simp only [upr_n, ne_eq, Nat.reduceEqDiff, not_false_eq_true])
theorem cE_3 (I : IM) (f : Nat → Int32) : cE (upr I 6 f) = upr (cE I) 3 f := by
  have e : ∀ k, k ≠ 6 → upr I 6 f k = I k := fun k hk => upr_n I f hk
  have es : cSc (upr I 6 f) = cSc I := by
    funext j
    unfold cSc
    simp only [upr_n, ne_eq, Nat.reduceEqDiff, not_false_eq_true]
  funext a
  by_cases h : a = 3
  · subst h
    rw [upr_s]
    exact upr_s I _ f
  · rw [upr_n _ _ h]
    unfold cE
    rw [es]
    split <;> first | rfl | (exfalso; omega) | (simp only [upr_n, ne_eq, Nat.reduceEqDiff, not_false_eq_true])
theorem cE_4 (I : IM) (f : Nat → Int32) : cE (upr I 7 f) = upr (cE I) 4 f := by
  have e : ∀ k, k ≠ 7 → upr I 7 f k = I k := fun k hk => upr_n I f hk
  have es : cSc (upr I 7 f) = cSc I := by
    funext j
    unfold cSc
    simp only [upr_n, ne_eq, Nat.reduceEqDiff, not_false_eq_true]
  funext a
  by_cases h : a = 4
  · subst h
    rw [upr_s]
    exact upr_s I _ f
  · rw [upr_n _ _ h]
    unfold cE
    rw [es]
    split <;> first | rfl | (exfalso; omega) | (simp only [upr_n, ne_eq, Nat.reduceEqDiff, not_false_eq_true])
theorem cE_5 (I : IM) (f : Nat → Int32) : cE (upr I 8 f) = upr (cE I) 5 f := by
  have e : ∀ k, k ≠ 8 → upr I 8 f k = I k := fun k hk => upr_n I f hk
  have es : cSc (upr I 8 f) = cSc I := by
    funext j
    unfold cSc
    simp only [upr_n, ne_eq, Nat.reduceEqDiff, not_false_eq_true]
  funext a
  by_cases h : a = 5
  · subst h
    rw [upr_s]
    exact upr_s I _ f
  · rw [upr_n _ _ h]
    unfold cE
    rw [es]
    split <;> first | rfl | (exfalso; omega) | (simp only [upr_n, ne_eq, Nat.reduceEqDiff, not_false_eq_true])
theorem cE_6 (I : IM) (f : Nat → Int32) : cE (upr I 9 f) = upr (cE I) 6 f := by
  have e : ∀ k, k ≠ 9 → upr I 9 f k = I k := fun k hk => upr_n I f hk
  have es : cSc (upr I 9 f) = cSc I := by
    funext j
    unfold cSc
    simp only [upr_n, ne_eq, Nat.reduceEqDiff, not_false_eq_true]
  funext a
  by_cases h : a = 6
  · subst h
    rw [upr_s]
    exact upr_s I _ f
  · rw [upr_n _ _ h]
    unfold cE
    rw [es]
    split <;> first | rfl | (exfalso; omega) | (simp only [upr_n, ne_eq, Nat.reduceEqDiff, not_false_eq_true])
theorem cE_7 (I : IM) (f : Nat → Int32) : cE (upr I 10 f) = upr (cE I) 7 f := by
  have e : ∀ k, k ≠ 10 → upr I 10 f k = I k := fun k hk => upr_n I f hk
  have es : cSc (upr I 10 f) = cSc I := by
    funext j
    unfold cSc
    simp only [upr_n, ne_eq, Nat.reduceEqDiff, not_false_eq_true]
  funext a
  by_cases h : a = 7
  · subst h
    rw [upr_s]
    exact upr_s I _ f
  · rw [upr_n _ _ h]
    unfold cE
    rw [es]
    split <;> first | rfl | (exfalso; omega) | (simp only [upr_n, ne_eq, Nat.reduceEqDiff, not_false_eq_true])
theorem cE_8 (I : IM) (f : Nat → Int32) : cE (upr I 11 f) = upr (cE I) 8 f := by
  have e : ∀ k, k ≠ 11 → upr I 11 f k = I k := fun k hk => upr_n I f hk
  have es : cSc (upr I 11 f) = cSc I := by
    funext j
    unfold cSc
    simp only [upr_n, ne_eq, Nat.reduceEqDiff, not_false_eq_true]
  funext a
  by_cases h : a = 8
  · subst h
    rw [upr_s]
    exact upr_s I _ f
  · rw [upr_n _ _ h]
    unfold cE
    rw [es]
    split <;> first | rfl | (exfalso; omega) | (simp only [upr_n, ne_eq, Nat.reduceEqDiff, not_false_eq_true])
theorem cE_10 (I : IM) (f : Nat → Int32) : cE (upr I 14 f) = upr (cE I) 10 f := by
  have e : ∀ k, k ≠ 14 → upr I 14 f k = I k := fun k hk => upr_n I f hk
  have es : cSc (upr I 14 f) = cSc I := by
    funext j
    unfold cSc
    simp only [upr_n, ne_eq, Nat.reduceEqDiff, not_false_eq_true]
  funext a
  by_cases h : a = 10
  · subst h
    rw [upr_s]
    exact upr_s I _ f
  · rw [upr_n _ _ h]
    unfold cE
    rw [es]
    split <;> first | rfl | (exfalso; omega) | (simp only [upr_n, ne_eq, Nat.reduceEqDiff, not_false_eq_true])
theorem cE_11 (I : IM) (f : Nat → Int32) : cE (upr I 15 f) = upr (cE I) 11 f := by
  have e : ∀ k, k ≠ 15 → upr I 15 f k = I k := fun k hk => upr_n I f hk
  have es : cSc (upr I 15 f) = cSc I := by
    funext j
    unfold cSc
    simp only [upr_n, ne_eq, Nat.reduceEqDiff, not_false_eq_true]
  funext a
  by_cases h : a = 11
  · subst h
    rw [upr_s]
    exact upr_s I _ f
  · rw [upr_n _ _ h]
    unfold cE
    rw [es]
    split <;> first | rfl | (exfalso; omega) | (simp only [upr_n, ne_eq, Nat.reduceEqDiff, not_false_eq_true])
theorem cE_12 (I : IM) (f : Nat → Int32) : cE (upr I 16 f) = upr (cE I) 12 f := by
  have e : ∀ k, k ≠ 16 → upr I 16 f k = I k := fun k hk => upr_n I f hk
  have es : cSc (upr I 16 f) = cSc I := by
    funext j
    unfold cSc
    simp only [upr_n, ne_eq, Nat.reduceEqDiff, not_false_eq_true]
  funext a
  by_cases h : a = 12
  · subst h
    rw [upr_s]
    exact upr_s I _ f
  · rw [upr_n _ _ h]
    unfold cE
    rw [es]
    split <;> first | rfl | (exfalso; omega) | (simp only [upr_n, ne_eq, Nat.reduceEqDiff, not_false_eq_true])
theorem cE_13 (I : IM) (f : Nat → Int32) : cE (upr I 17 f) = upr (cE I) 13 f := by
  have e : ∀ k, k ≠ 17 → upr I 17 f k = I k := fun k hk => upr_n I f hk
  have es : cSc (upr I 17 f) = cSc I := by
    funext j
    unfold cSc
    simp only [upr_n, ne_eq, Nat.reduceEqDiff, not_false_eq_true]
  funext a
  by_cases h : a = 13
  · subst h
    rw [upr_s]
    exact upr_s I _ f
  · rw [upr_n _ _ h]
    unfold cE
    rw [es]
    split <;> first | rfl | (exfalso; omega) | (simp only [upr_n, ne_eq, Nat.reduceEqDiff, not_false_eq_true])
theorem cE_19 (I : IM) (f : Nat → Int32) : cE (upr I 47 f) = upr (cE I) 19 f := by
  have e : ∀ k, k ≠ 47 → upr I 47 f k = I k := fun k hk => upr_n I f hk
  have es : cSc (upr I 47 f) = cSc I := by
    funext j
    unfold cSc
    simp only [upr_n, ne_eq, Nat.reduceEqDiff, not_false_eq_true]
  funext a
  by_cases h : a = 19
  · subst h
    rw [upr_s]
    exact upr_s I _ f
  · rw [upr_n _ _ h]
    unfold cE
    rw [es]
    split <;> first | rfl | (exfalso; omega) | (simp only [upr_n, ne_eq, Nat.reduceEqDiff, not_false_eq_true])
theorem cE_20 (I : IM) (f : Nat → Int32) : cE (upr I 48 f) = upr (cE I) 20 f := by
  have e : ∀ k, k ≠ 48 → upr I 48 f k = I k := fun k hk => upr_n I f hk
  have es : cSc (upr I 48 f) = cSc I := by
    funext j
    unfold cSc
    simp only [upr_n, ne_eq, Nat.reduceEqDiff, not_false_eq_true]
  funext a
  by_cases h : a = 20
  · subst h
    rw [upr_s]
    exact upr_s I _ f
  · rw [upr_n _ _ h]
    unfold cE
    rw [es]
    split <;> first | rfl | (exfalso; omega) | (simp only [upr_n, ne_eq, Nat.reduceEqDiff, not_false_eq_true])
theorem cE_26 (I : IM) (f : Nat → Int32) : cE (upr I 56 f) = upr (cE I) 26 f := by
  have e : ∀ k, k ≠ 56 → upr I 56 f k = I k := fun k hk => upr_n I f hk
  have es : cSc (upr I 56 f) = cSc I := by
    funext j
    unfold cSc
    simp only [upr_n, ne_eq, Nat.reduceEqDiff, not_false_eq_true]
  funext a
  by_cases h : a = 26
  · subst h
    rw [upr_s]
    exact upr_s I _ f
  · rw [upr_n _ _ h]
    unfold cE
    rw [es]
    split <;> first | rfl | (exfalso; omega) | (simp only [upr_n, ne_eq, Nat.reduceEqDiff, not_false_eq_true])
theorem cE_27 (I : IM) (f : Nat → Int32) : cE (upr I 57 f) = upr (cE I) 27 f := by
  have e : ∀ k, k ≠ 57 → upr I 57 f k = I k := fun k hk => upr_n I f hk
  have es : cSc (upr I 57 f) = cSc I := by
    funext j
    unfold cSc
    simp only [upr_n, ne_eq, Nat.reduceEqDiff, not_false_eq_true]
  funext a
  by_cases h : a = 27
  · subst h
    rw [upr_s]
    exact upr_s I _ f
  · rw [upr_n _ _ h]
    unfold cE
    rw [es]
    split <;> first | rfl | (exfalso; omega) | (simp only [upr_n, ne_eq, Nat.reduceEqDiff, not_false_eq_true])
theorem cE_28 (I : IM) (f : Nat → Int32) : cE (upr I 58 f) = upr (cE I) 28 f := by
  have e : ∀ k, k ≠ 58 → upr I 58 f k = I k := fun k hk => upr_n I f hk
  have es : cSc (upr I 58 f) = cSc I := by
    funext j
    unfold cSc
    simp only [upr_n, ne_eq, Nat.reduceEqDiff, not_false_eq_true]
  funext a
  by_cases h : a = 28
  · subst h
    rw [upr_s]
    exact upr_s I _ f
  · rw [upr_n _ _ h]
    unfold cE
    rw [es]
    split <;> first | rfl | (exfalso; omega) | (simp only [upr_n, ne_eq, Nat.reduceEqDiff, not_false_eq_true])
theorem cE_9 (I : IM) (f : Nat → Int32) : cE (upr I 12 f) = upr (cE I) 9 (mk (cl (I 4 8)) f) := by
  have es : cSc (upr I 12 f) = cSc I := by
    funext j
    unfold cSc
    simp only [upr_n, ne_eq, Nat.reduceEqDiff, not_false_eq_true]
  funext a
  by_cases h : a = 9
  · subst h
    rw [upr_s]
    unfold cE
    simp only [upr_n, upr_s, ne_eq, Nat.reduceEqDiff, not_false_eq_true]
  · rw [upr_n _ _ h]
    unfold cE
    rw [es]
    split <;> first | rfl | (exfalso; omega) | (simp only [upr_n, ne_eq, Nat.reduceEqDiff, not_false_eq_true])
theorem cE_14 (I : IM) (f : Nat → Int32) : cE (upr I 19 f) = upr (cE I) 14 (mk (cl (I 18 4)) f) := by
  have es : cSc (upr I 19 f) = cSc I := by
    funext j
    unfold cSc
    simp only [upr_n, ne_eq, Nat.reduceEqDiff, not_false_eq_true]
  funext a
  by_cases h : a = 14
  · subst h
    rw [upr_s]
    unfold cE
    simp only [upr_n, upr_s, ne_eq, Nat.reduceEqDiff, not_false_eq_true]
  · rw [upr_n _ _ h]
    unfold cE
    rw [es]
    split <;> first | rfl | (exfalso; omega) | (simp only [upr_n, ne_eq, Nat.reduceEqDiff, not_false_eq_true])
theorem cE_15 (I : IM) (f : Nat → Int32) : cE (upr I 20 f) = upr (cE I) 15 (mk (cl (I 18 4)) f) := by
  have es : cSc (upr I 20 f) = cSc I := by
    funext j
    unfold cSc
    simp only [upr_n, ne_eq, Nat.reduceEqDiff, not_false_eq_true]
  funext a
  by_cases h : a = 15
  · subst h
    rw [upr_s]
    unfold cE
    simp only [upr_n, upr_s, ne_eq, Nat.reduceEqDiff, not_false_eq_true]
  · rw [upr_n _ _ h]
    unfold cE
    rw [es]
    split <;> first | rfl | (exfalso; omega) | (simp only [upr_n, ne_eq, Nat.reduceEqDiff, not_false_eq_true])
theorem cE_16 (I : IM) (f : Nat → Int32) : cE (upr I 21 f) = upr (cE I) 16 (mk (cl (I 18 4)) f) := by
  have es : cSc (upr I 21 f) = cSc I := by
    funext j
    unfold cSc
    simp only [upr_n, ne_eq, Nat.reduceEqDiff, not_false_eq_true]
  funext a
  by_cases h : a = 16
  · subst h
    rw [upr_s]
    unfold cE
    simp only [upr_n, upr_s, ne_eq, Nat.reduceEqDiff, not_false_eq_true]
  · rw [upr_n _ _ h]
    unfold cE
    rw [es]
    split <;> first | rfl | (exfalso; omega) | (simp only [upr_n, ne_eq, Nat.reduceEqDiff, not_false_eq_true])
theorem cE_17 (I : IM) (f : Nat → Int32) : cE (upr I 22 f) = upr (cE I) 17 (mk (cl (I 18 4)) f) := by
  have es : cSc (upr I 22 f) = cSc I := by
    funext j
    unfold cSc
    simp only [upr_n, ne_eq, Nat.reduceEqDiff, not_false_eq_true]
  funext a
  by_cases h : a = 17
  · subst h
    rw [upr_s]
    unfold cE
    simp only [upr_n, upr_s, ne_eq, Nat.reduceEqDiff, not_false_eq_true]
  · rw [upr_n _ _ h]
    unfold cE
    rw [es]
    split <;> first | rfl | (exfalso; omega) | (simp only [upr_n, ne_eq, Nat.reduceEqDiff, not_false_eq_true])
theorem cE_18 (I : IM) (f : Nat → Int32) : cE (upr I 24 f) = upr (cE I) 18 (mk (cl (I 23 1)) f) := by
  have es : cSc (upr I 24 f) = cSc I := by
    funext j
    unfold cSc
    simp only [upr_n, ne_eq, Nat.reduceEqDiff, not_false_eq_true]
  funext a
  by_cases h : a = 18
  · subst h
    rw [upr_s]
    unfold cE
    simp only [upr_n, upr_s, ne_eq, Nat.reduceEqDiff, not_false_eq_true]
  · rw [upr_n _ _ h]
    unfold cE
    rw [es]
    split <;> first | rfl | (exfalso; omega) | (simp only [upr_n, ne_eq, Nat.reduceEqDiff, not_false_eq_true])
theorem cE_21 (I : IM) (f : Nat → Int32) : cE (upr I 54 f) = upr (cE I) 21 (mk (cl (I 45 3)) f) := by
  have es : cSc (upr I 54 f) = cSc I := by
    funext j
    unfold cSc
    simp only [upr_n, ne_eq, Nat.reduceEqDiff, not_false_eq_true]
  funext a
  by_cases h : a = 21
  · subst h
    rw [upr_s]
    unfold cE
    simp only [upr_n, upr_s, ne_eq, Nat.reduceEqDiff, not_false_eq_true]
  · rw [upr_n _ _ h]
    unfold cE
    rw [es]
    split <;> first | rfl | (exfalso; omega) | (simp only [upr_n, ne_eq, Nat.reduceEqDiff, not_false_eq_true])
theorem cE_22 (I : IM) (f : Nat → Int32) : cE (upr I 50 f) = upr (cE I) 22 (mk (cl (I 49 4)) f) := by
  have es : cSc (upr I 50 f) = cSc I := by
    funext j
    unfold cSc
    simp only [upr_n, ne_eq, Nat.reduceEqDiff, not_false_eq_true]
  funext a
  by_cases h : a = 22
  · subst h
    rw [upr_s]
    unfold cE
    simp only [upr_n, upr_s, ne_eq, Nat.reduceEqDiff, not_false_eq_true]
  · rw [upr_n _ _ h]
    unfold cE
    rw [es]
    split <;> first | rfl | (exfalso; omega) | (simp only [upr_n, ne_eq, Nat.reduceEqDiff, not_false_eq_true])
theorem cE_23 (I : IM) (f : Nat → Int32) : cE (upr I 51 f) = upr (cE I) 23 (mk (cl (I 49 4)) f) := by
  have es : cSc (upr I 51 f) = cSc I := by
    funext j
    unfold cSc
    simp only [upr_n, ne_eq, Nat.reduceEqDiff, not_false_eq_true]
  funext a
  by_cases h : a = 23
  · subst h
    rw [upr_s]
    unfold cE
    simp only [upr_n, upr_s, ne_eq, Nat.reduceEqDiff, not_false_eq_true]
  · rw [upr_n _ _ h]
    unfold cE
    rw [es]
    split <;> first | rfl | (exfalso; omega) | (simp only [upr_n, ne_eq, Nat.reduceEqDiff, not_false_eq_true])
theorem cE_24 (I : IM) (f : Nat → Int32) : cE (upr I 52 f) = upr (cE I) 24 (mk (cl (I 49 4)) f) := by
  have es : cSc (upr I 52 f) = cSc I := by
    funext j
    unfold cSc
    simp only [upr_n, ne_eq, Nat.reduceEqDiff, not_false_eq_true]
  funext a
  by_cases h : a = 24
  · subst h
    rw [upr_s]
    unfold cE
    simp only [upr_n, upr_s, ne_eq, Nat.reduceEqDiff, not_false_eq_true]
  · rw [upr_n _ _ h]
    unfold cE
    rw [es]
    split <;> first | rfl | (exfalso; omega) | (simp only [upr_n, ne_eq, Nat.reduceEqDiff, not_false_eq_true])
theorem cE_25 (I : IM) (f : Nat → Int32) : cE (upr I 53 f) = upr (cE I) 25 (mk (cl (I 49 4)) f) := by
  have es : cSc (upr I 53 f) = cSc I := by
    funext j
    unfold cSc
    simp only [upr_n, ne_eq, Nat.reduceEqDiff, not_false_eq_true]
  funext a
  by_cases h : a = 25
  · subst h
    rw [upr_s]
    unfold cE
    simp only [upr_n, upr_s, ne_eq, Nat.reduceEqDiff, not_false_eq_true]
  · rw [upr_n _ _ h]
    unfold cE
    rw [es]
    split <;> first | rfl | (exfalso; omega) | (simp only [upr_n, ne_eq, Nat.reduceEqDiff, not_false_eq_true])
theorem cE_s0 (I : IM) (x : Int32) : cE (up2 I 1 2 x) = up2 (cE I) 29 0 x := by
  have q : ∀ (f : Nat → Int32) (j x) (i), i ≠ j → up1 f j x i = f i := fun f j x i h => by simp [up1, h]
  funext a
  by_cases h : a = 29
  · subst h
    rw [up2_s]
    have e29 : ∀ I' : IM, cE I' 29 = cSc I' := fun _ => rfl
    rw [e29, e29]
    funext j
    by_cases hj : j = 0
    · subst hj
      simp [cSc, up2_s, up1]
    · rw [q _ _ _ _ hj]
      unfold cSc
      split <;> first | rfl | (exfalso; omega) | (simp [up2_n, up2_s, up1])
  · rw [up2_n _ _ _ h]
    unfold cE
    split <;> first | rfl | (exfalso; omega) | (simp [up2_n, up2_s, up1])
theorem cE_s2 (I : IM) (x : Int32) : cE (up2 I 13 4 x) = up2 (cE I) 29 2 x := by
  have q : ∀ (f : Nat → Int32) (j x) (i), i ≠ j → up1 f j x i = f i := fun f j x i h => by simp [up1, h]
  funext a
  by_cases h : a = 29
  · subst h
    rw [up2_s]
    have e29 : ∀ I' : IM, cE I' 29 = cSc I' := fun _ => rfl
    rw [e29, e29]
    funext j
    by_cases hj : j = 2
    · subst hj
      simp [cSc, up2_s, up1]
    · rw [q _ _ _ _ hj]
      unfold cSc
      split <;> first | rfl | (exfalso; omega) | (simp [up2_n, up2_s, up1])
  · rw [up2_n _ _ _ h]
    unfold cE
    split <;> first | rfl | (exfalso; omega) | (simp [up2_n, up2_s, up1])
theorem cE_s5 (I : IM) (x : Int32) : cE (up2 I 30 3 x) = up2 (cE I) 29 5 x := by
  have q : ∀ (f : Nat → Int32) (j x) (i), i ≠ j → up1 f j x i = f i := fun f j x i h => by simp [up1, h]
  funext a
  by_cases h : a = 29
  · subst h
    rw [up2_s]
    have e29 : ∀ I' : IM, cE I' 29 = cSc I' := fun _ => rfl
    rw [e29, e29]
    funext j
    by_cases hj : j = 5
    · subst hj
      simp [cSc, up2_s, up1]
    · rw [q _ _ _ _ hj]
      unfold cSc
      split <;> first | rfl | (exfalso; omega) | (simp [up2_n, up2_s, up1])
  · rw [up2_n _ _ _ h]
    unfold cE
    split <;> first | rfl | (exfalso; omega) | (simp [up2_n, up2_s, up1])
theorem cE_s7 (I : IM) (x : Int32) : cE (up2 I 45 5 x) = up2 (cE I) 29 7 x := by
  have q : ∀ (f : Nat → Int32) (j x) (i), i ≠ j → up1 f j x i = f i := fun f j x i h => by simp [up1, h]
  funext a
  by_cases h : a = 29
  · subst h
    rw [up2_s]
    have e29 : ∀ I' : IM, cE I' 29 = cSc I' := fun _ => rfl
    rw [e29, e29]
    funext j
    by_cases hj : j = 7
    · subst hj
      simp [cSc, up2_s, up1]
    · rw [q _ _ _ _ hj]
      unfold cSc
      split <;> first | rfl | (exfalso; omega) | (simp [up2_n, up2_s, up1])
  · rw [up2_n _ _ _ h]
    unfold cE
    split <;> first | rfl | (exfalso; omega) | (simp [up2_n, up2_s, up1])
theorem cE_s8 (I : IM) (x : Int32) : cE (up2 I 46 2 x) = up2 (cE I) 29 8 x := by
  have q : ∀ (f : Nat → Int32) (j x) (i), i ≠ j → up1 f j x i = f i := fun f j x i h => by simp [up1, h]
  funext a
  by_cases h : a = 29
  · subst h
    rw [up2_s]
    have e29 : ∀ I' : IM, cE I' 29 = cSc I' := fun _ => rfl
    rw [e29, e29]
    funext j
    by_cases hj : j = 8
    · subst hj
      simp [cSc, up2_s, up1]
    · rw [q _ _ _ _ hj]
      unfold cSc
      split <;> first | rfl | (exfalso; omega) | (simp [up2_n, up2_s, up1])
  · rw [up2_n _ _ _ h]
    unfold cE
    split <;> first | rfl | (exfalso; omega) | (simp [up2_n, up2_s, up1])
theorem cE_s11 (I : IM) (x : Int32) : cE (up2 I 45 4 x) = up2 (cE I) 29 11 x := by
  have q : ∀ (f : Nat → Int32) (j x) (i), i ≠ j → up1 f j x i = f i := fun f j x i h => by simp [up1, h]
  funext a
  by_cases h : a = 29
  · subst h
    rw [up2_s]
    have e29 : ∀ I' : IM, cE I' 29 = cSc I' := fun _ => rfl
    rw [e29, e29]
    funext j
    by_cases hj : j = 11
    · subst hj
      simp [cSc, up2_s, up1]
    · rw [q _ _ _ _ hj]
      unfold cSc
      split <;> first | rfl | (exfalso; omega) | (simp [up2_n, up2_s, up1])
  · rw [up2_n _ _ _ h]
    unfold cE
    split <;> first | rfl | (exfalso; omega) | (simp [up2_n, up2_s, up1])
theorem rE_big {I : IM} {a : Nat} (h : 32 ≤ a) : rE I a = fun _ => 0 := by
  unfold rE
  split <;> first | (exfalso; omega) | rfl
theorem rE_ext {I : IM} {E : IM} (h : ∀ a, a < 32 → rE I a = E a) (hb : ∀ a, 32 ≤ a → E a = fun _ => 0) : rE I = E := by
  funext a
  by_cases ha : a < 32
  · exact h a ha
  · rw [rE_big (by omega), hb a (by omega)]
theorem rE_0 (I : IM) (f : Nat → Int32) : rE (upr I 60 f) = upr (rE I) 0 f := by
  have e : ∀ k, k ≠ 60 → upr I 60 f k = I k := fun k hk => upr_n I f hk
  have es : rSc (upr I 60 f) = rSc I := by
    funext j
    unfold rSc
    simp only [upr_n, ne_eq, Nat.reduceEqDiff, not_false_eq_true]
  funext a
  by_cases h : a = 0
  · subst h
    rw [upr_s]
    exact upr_s I _ f
  · rw [upr_n _ _ h]
    unfold rE
    rw [es]
    split <;> first | rfl | (exfalso; omega) | (simp only [upr_n, ne_eq, Nat.reduceEqDiff, not_false_eq_true])
theorem rE_1 (I : IM) (f : Nat → Int32) : rE (upr I 61 f) = upr (rE I) 1 f := by
  have e : ∀ k, k ≠ 61 → upr I 61 f k = I k := fun k hk => upr_n I f hk
  have es : rSc (upr I 61 f) = rSc I := by
    funext j
    unfold rSc
    simp only [upr_n, ne_eq, Nat.reduceEqDiff, not_false_eq_true]
  funext a
  by_cases h : a = 1
  · subst h
    rw [upr_s]
    exact upr_s I _ f
  · rw [upr_n _ _ h]
    unfold rE
    rw [es]
    split <;> first | rfl | (exfalso; omega) | (simp only [upr_n, ne_eq, Nat.reduceEqDiff, not_false_eq_true])
theorem rE_2 (I : IM) (f : Nat → Int32) : rE (upr I 62 f) = upr (rE I) 2 f := by
  have e : ∀ k, k ≠ 62 → upr I 62 f k = I k := fun k hk => upr_n I f hk
  have es : rSc (upr I 62 f) = rSc I := by
    funext j
    unfold rSc
    simp only [upr_n, ne_eq, Nat.reduceEqDiff, not_false_eq_true]
  funext a
  by_cases h : a = 2
  · subst h
    rw [upr_s]
    exact upr_s I _ f
  · rw [upr_n _ _ h]
    unfold rE
    rw [es]
    split <;> first | rfl | (exfalso; omega) | (simp only [upr_n, ne_eq, Nat.reduceEqDiff, not_false_eq_true])
theorem rE_3 (I : IM) (f : Nat → Int32) : rE (upr I 63 f) = upr (rE I) 3 f := by
  have e : ∀ k, k ≠ 63 → upr I 63 f k = I k := fun k hk => upr_n I f hk
  have es : rSc (upr I 63 f) = rSc I := by
    funext j
    unfold rSc
    simp only [upr_n, ne_eq, Nat.reduceEqDiff, not_false_eq_true]
  funext a
  by_cases h : a = 3
  · subst h
    rw [upr_s]
    exact upr_s I _ f
  · rw [upr_n _ _ h]
    unfold rE
    rw [es]
    split <;> first | rfl | (exfalso; omega) | (simp only [upr_n, ne_eq, Nat.reduceEqDiff, not_false_eq_true])
theorem rE_4 (I : IM) (f : Nat → Int32) : rE (upr I 64 f) = upr (rE I) 4 f := by
  have e : ∀ k, k ≠ 64 → upr I 64 f k = I k := fun k hk => upr_n I f hk
  have es : rSc (upr I 64 f) = rSc I := by
    funext j
    unfold rSc
    simp only [upr_n, ne_eq, Nat.reduceEqDiff, not_false_eq_true]
  funext a
  by_cases h : a = 4
  · subst h
    rw [upr_s]
    exact upr_s I _ f
  · rw [upr_n _ _ h]
    unfold rE
    rw [es]
    split <;> first | rfl | (exfalso; omega) | (simp only [upr_n, ne_eq, Nat.reduceEqDiff, not_false_eq_true])
theorem rE_5 (I : IM) (f : Nat → Int32) : rE (upr I 65 f) = upr (rE I) 5 f := by
  have e : ∀ k, k ≠ 65 → upr I 65 f k = I k := fun k hk => upr_n I f hk
  have es : rSc (upr I 65 f) = rSc I := by
    funext j
    unfold rSc
    simp only [upr_n, ne_eq, Nat.reduceEqDiff, not_false_eq_true]
  funext a
  by_cases h : a = 5
  · subst h
    rw [upr_s]
    exact upr_s I _ f
  · rw [upr_n _ _ h]
    unfold rE
    rw [es]
    split <;> first | rfl | (exfalso; omega) | (simp only [upr_n, ne_eq, Nat.reduceEqDiff, not_false_eq_true])
theorem rE_6 (I : IM) (f : Nat → Int32) : rE (upr I 66 f) = upr (rE I) 6 f := by
  have e : ∀ k, k ≠ 66 → upr I 66 f k = I k := fun k hk => upr_n I f hk
  have es : rSc (upr I 66 f) = rSc I := by
    funext j
    unfold rSc
    simp only [upr_n, ne_eq, Nat.reduceEqDiff, not_false_eq_true]
  funext a
  by_cases h : a = 6
  · subst h
    rw [upr_s]
    exact upr_s I _ f
  · rw [upr_n _ _ h]
    unfold rE
    rw [es]
    split <;> first | rfl | (exfalso; omega) | (simp only [upr_n, ne_eq, Nat.reduceEqDiff, not_false_eq_true])
theorem rE_7 (I : IM) (f : Nat → Int32) : rE (upr I 67 f) = upr (rE I) 7 f := by
  have e : ∀ k, k ≠ 67 → upr I 67 f k = I k := fun k hk => upr_n I f hk
  have es : rSc (upr I 67 f) = rSc I := by
    funext j
    unfold rSc
    simp only [upr_n, ne_eq, Nat.reduceEqDiff, not_false_eq_true]
  funext a
  by_cases h : a = 7
  · subst h
    rw [upr_s]
    exact upr_s I _ f
  · rw [upr_n _ _ h]
    unfold rE
    rw [es]
    split <;> first | rfl | (exfalso; omega) | (simp only [upr_n, ne_eq, Nat.reduceEqDiff, not_false_eq_true])
theorem rE_8 (I : IM) (f : Nat → Int32) : rE (upr I 68 f) = upr (rE I) 8 f := by
  have e : ∀ k, k ≠ 68 → upr I 68 f k = I k := fun k hk => upr_n I f hk
  have es : rSc (upr I 68 f) = rSc I := by
    funext j
    unfold rSc
    simp only [upr_n, ne_eq, Nat.reduceEqDiff, not_false_eq_true]
  funext a
  by_cases h : a = 8
  · subst h
    rw [upr_s]
    exact upr_s I _ f
  · rw [upr_n _ _ h]
    unfold rE
    rw [es]
    split <;> first | rfl | (exfalso; omega) | (simp only [upr_n, ne_eq, Nat.reduceEqDiff, not_false_eq_true])
theorem rE_10 (I : IM) (f : Nat → Int32) : rE (upr I 70 f) = upr (rE I) 10 f := by
  have e : ∀ k, k ≠ 70 → upr I 70 f k = I k := fun k hk => upr_n I f hk
  have es : rSc (upr I 70 f) = rSc I := by
    funext j
    unfold rSc
    simp only [upr_n, ne_eq, Nat.reduceEqDiff, not_false_eq_true]
  funext a
  by_cases h : a = 10
  · subst h
    rw [upr_s]
    exact upr_s I _ f
  · rw [upr_n _ _ h]
    unfold rE
    rw [es]
    split <;> first | rfl | (exfalso; omega) | (simp only [upr_n, ne_eq, Nat.reduceEqDiff, not_false_eq_true])
theorem rE_11 (I : IM) (f : Nat → Int32) : rE (upr I 71 f) = upr (rE I) 11 f := by
  have e : ∀ k, k ≠ 71 → upr I 71 f k = I k := fun k hk => upr_n I f hk
  have es : rSc (upr I 71 f) = rSc I := by
    funext j
    unfold rSc
    simp only [upr_n, ne_eq, Nat.reduceEqDiff, not_false_eq_true]
  funext a
  by_cases h : a = 11
  · subst h
    rw [upr_s]
    exact upr_s I _ f
  · rw [upr_n _ _ h]
    unfold rE
    rw [es]
    split <;> first | rfl | (exfalso; omega) | (simp only [upr_n, ne_eq, Nat.reduceEqDiff, not_false_eq_true])
theorem rE_12 (I : IM) (f : Nat → Int32) : rE (upr I 72 f) = upr (rE I) 12 f := by
  have e : ∀ k, k ≠ 72 → upr I 72 f k = I k := fun k hk => upr_n I f hk
  have es : rSc (upr I 72 f) = rSc I := by
    funext j
    unfold rSc
    simp only [upr_n, ne_eq, Nat.reduceEqDiff, not_false_eq_true]
  funext a
  by_cases h : a = 12
  · subst h
    rw [upr_s]
    exact upr_s I _ f
  · rw [upr_n _ _ h]
    unfold rE
    rw [es]
    split <;> first | rfl | (exfalso; omega) | (simp only [upr_n, ne_eq, Nat.reduceEqDiff, not_false_eq_true])
theorem rE_13 (I : IM) (f : Nat → Int32) : rE (upr I 73 f) = upr (rE I) 13 f := by
  have e : ∀ k, k ≠ 73 → upr I 73 f k = I k := fun k hk => upr_n I f hk
  have es : rSc (upr I 73 f) = rSc I := by
    funext j
    unfold rSc
    simp only [upr_n, ne_eq, Nat.reduceEqDiff, not_false_eq_true]
  funext a
  by_cases h : a = 13
  · subst h
    rw [upr_s]
    exact upr_s I _ f
  · rw [upr_n _ _ h]
    unfold rE
    rw [es]
    split <;> first | rfl | (exfalso; omega) | (simp only [upr_n, ne_eq, Nat.reduceEqDiff, not_false_eq_true])
theorem rE_20 (I : IM) (f : Nat → Int32) : rE (upr I 82 f) = upr (rE I) 20 f := by
  have e : ∀ k, k ≠ 82 → upr I 82 f k = I k := fun k hk => upr_n I f hk
  have es : rSc (upr I 82 f) = rSc I := by
    funext j
    unfold rSc
    simp only [upr_n, ne_eq, Nat.reduceEqDiff, not_false_eq_true]
  funext a
  by_cases h : a = 20
  · subst h
    rw [upr_s]
    exact upr_s I _ f
  · rw [upr_n _ _ h]
    unfold rE
    rw [es]
    split <;> first | rfl | (exfalso; omega) | (simp only [upr_n, ne_eq, Nat.reduceEqDiff, not_false_eq_true])
theorem rE_26 (I : IM) (f : Nat → Int32) : rE (upr I 88 f) = upr (rE I) 26 f := by
  have e : ∀ k, k ≠ 88 → upr I 88 f k = I k := fun k hk => upr_n I f hk
  have es : rSc (upr I 88 f) = rSc I := by
    funext j
    unfold rSc
    simp only [upr_n, ne_eq, Nat.reduceEqDiff, not_false_eq_true]
  funext a
  by_cases h : a = 26
  · subst h
    rw [upr_s]
    exact upr_s I _ f
  · rw [upr_n _ _ h]
    unfold rE
    rw [es]
    split <;> first | rfl | (exfalso; omega) | (simp only [upr_n, ne_eq, Nat.reduceEqDiff, not_false_eq_true])
theorem rE_27 (I : IM) (f : Nat → Int32) : rE (upr I 89 f) = upr (rE I) 27 f := by
  have e : ∀ k, k ≠ 89 → upr I 89 f k = I k := fun k hk => upr_n I f hk
  have es : rSc (upr I 89 f) = rSc I := by
    funext j
    unfold rSc
    simp only [upr_n, ne_eq, Nat.reduceEqDiff, not_false_eq_true]
  funext a
  by_cases h : a = 27
  · subst h
    rw [upr_s]
    exact upr_s I _ f
  · rw [upr_n _ _ h]
    unfold rE
    rw [es]
    split <;> first | rfl | (exfalso; omega) | (simp only [upr_n, ne_eq, Nat.reduceEqDiff, not_false_eq_true])
theorem rE_28 (I : IM) (f : Nat → Int32) : rE (upr I 90 f) = upr (rE I) 28 f := by
  have e : ∀ k, k ≠ 90 → upr I 90 f k = I k := fun k hk => upr_n I f hk
  have es : rSc (upr I 90 f) = rSc I := by
    funext j
    unfold rSc
    simp only [upr_n, ne_eq, Nat.reduceEqDiff, not_false_eq_true]
  funext a
  by_cases h : a = 28
  · subst h
    rw [upr_s]
    exact upr_s I _ f
  · rw [upr_n _ _ h]
    unfold rE
    rw [es]
    split <;> first | rfl | (exfalso; omega) | (simp only [upr_n, ne_eq, Nat.reduceEqDiff, not_false_eq_true])
theorem rE_9 (I : IM) (f : Nat → Int32) : rE (upr I 69 f) = upr (rE I) 9 (mk (cl (I 59 3)) f) := by
  have es : rSc (upr I 69 f) = rSc I := by
    funext j
    unfold rSc
    simp only [upr_n, ne_eq, Nat.reduceEqDiff, not_false_eq_true]
  funext a
  by_cases h : a = 9
  · subst h
    rw [upr_s]
    unfold rE
    simp only [upr_n, upr_s, ne_eq, Nat.reduceEqDiff, not_false_eq_true]
  · rw [upr_n _ _ h]
    unfold rE
    rw [es]
    split <;> first | rfl | (exfalso; omega) | (simp only [upr_n, ne_eq, Nat.reduceEqDiff, not_false_eq_true])
theorem rE_14 (I : IM) (f : Nat → Int32) : rE (upr I 74 f) = upr (rE I) 14 (mk (cl (I 59 17)) f) := by
  have es : rSc (upr I 74 f) = rSc I := by
    funext j
    unfold rSc
    simp only [upr_n, ne_eq, Nat.reduceEqDiff, not_false_eq_true]
  funext a
  by_cases h : a = 14
  · subst h
    rw [upr_s]
    unfold rE
    simp only [upr_n, upr_s, ne_eq, Nat.reduceEqDiff, not_false_eq_true]
  · rw [upr_n _ _ h]
    unfold rE
    rw [es]
    split <;> first | rfl | (exfalso; omega) | (simp only [upr_n, ne_eq, Nat.reduceEqDiff, not_false_eq_true])
theorem rE_15 (I : IM) (f : Nat → Int32) : rE (upr I 75 f) = upr (rE I) 15 (mk (cl (I 59 17)) f) := by
  have es : rSc (upr I 75 f) = rSc I := by
    funext j
    unfold rSc
    simp only [upr_n, ne_eq, Nat.reduceEqDiff, not_false_eq_true]
  funext a
  by_cases h : a = 15
  · subst h
    rw [upr_s]
    unfold rE
    simp only [upr_n, upr_s, ne_eq, Nat.reduceEqDiff, not_false_eq_true]
  · rw [upr_n _ _ h]
    unfold rE
    rw [es]
    split <;> first | rfl | (exfalso; omega) | (simp only [upr_n, ne_eq, Nat.reduceEqDiff, not_false_eq_true])
theorem rE_16 (I : IM) (f : Nat → Int32) : rE (upr I 76 f) = upr (rE I) 16 (mk (cl (I 59 17)) f) := by
  have es : rSc (upr I 76 f) = rSc I := by
    funext j
    unfold rSc
    simp only [upr_n, ne_eq, Nat.reduceEqDiff, not_false_eq_true]
  funext a
  by_cases h : a = 16
  · subst h
    rw [upr_s]
    unfold rE
    simp only [upr_n, upr_s, ne_eq, Nat.reduceEqDiff, not_false_eq_true]
  · rw [upr_n _ _ h]
    unfold rE
    rw [es]
    split <;> first | rfl | (exfalso; omega) | (simp only [upr_n, ne_eq, Nat.reduceEqDiff, not_false_eq_true])
theorem rE_17 (I : IM) (f : Nat → Int32) : rE (upr I 77 f) = upr (rE I) 17 (mk (cl (I 59 17)) f) := by
  have es : rSc (upr I 77 f) = rSc I := by
    funext j
    unfold rSc
    simp only [upr_n, ne_eq, Nat.reduceEqDiff, not_false_eq_true]
  funext a
  by_cases h : a = 17
  · subst h
    rw [upr_s]
    unfold rE
    simp only [upr_n, upr_s, ne_eq, Nat.reduceEqDiff, not_false_eq_true]
  · rw [upr_n _ _ h]
    unfold rE
    rw [es]
    split <;> first | rfl | (exfalso; omega) | (simp only [upr_n, ne_eq, Nat.reduceEqDiff, not_false_eq_true])
theorem rE_18 (I : IM) (f : Nat → Int32) : rE (upr I 78 f) = upr (rE I) 18 (mk (cl (I 59 23)) f) := by
  have es : rSc (upr I 78 f) = rSc I := by
    funext j
    unfold rSc
    simp only [upr_n, ne_eq, Nat.reduceEqDiff, not_false_eq_true]
  funext a
  by_cases h : a = 18
  · subst h
    rw [upr_s]
    unfold rE
    simp only [upr_n, upr_s, ne_eq, Nat.reduceEqDiff, not_false_eq_true]
  · rw [upr_n _ _ h]
    unfold rE
    rw [es]
    split <;> first | rfl | (exfalso; omega) | (simp only [upr_n, ne_eq, Nat.reduceEqDiff, not_false_eq_true])
theorem rE_21 (I : IM) (f : Nat → Int32) : rE (upr I 83 f) = upr (rE I) 21 (mk (cl (I 59 30)) f) := by
  have es : rSc (upr I 83 f) = rSc I := by
    funext j
    unfold rSc
    simp only [upr_n, ne_eq, Nat.reduceEqDiff, not_false_eq_true]
  funext a
  by_cases h : a = 21
  · subst h
    rw [upr_s]
    unfold rE
    simp only [upr_n, upr_s, ne_eq, Nat.reduceEqDiff, not_false_eq_true]
  · rw [upr_n _ _ h]
    unfold rE
    rw [es]
    split <;> first | rfl | (exfalso; omega) | (simp only [upr_n, ne_eq, Nat.reduceEqDiff, not_false_eq_true])
theorem rE_22 (I : IM) (f : Nat → Int32) : rE (upr I 84 f) = upr (rE I) 22 (mk (cl (I 59 31)) f) := by
  have es : rSc (upr I 84 f) = rSc I := by
    funext j
    unfold rSc
    simp only [upr_n, ne_eq, Nat.reduceEqDiff, not_false_eq_true]
  funext a
  by_cases h : a = 22
  · subst h
    rw [upr_s]
    unfold rE
    simp only [upr_n, upr_s, ne_eq, Nat.reduceEqDiff, not_false_eq_true]
  · rw [upr_n _ _ h]
    unfold rE
    rw [es]
    split <;> first | rfl | (exfalso; omega) | (simp only [upr_n, ne_eq, Nat.reduceEqDiff, not_false_eq_true])
theorem rE_23 (I : IM) (f : Nat → Int32) : rE (upr I 85 f) = upr (rE I) 23 (mk (cl (I 59 31)) f) := by
  have es : rSc (upr I 85 f) = rSc I := by
    funext j
    unfold rSc
    simp only [upr_n, ne_eq, Nat.reduceEqDiff, not_false_eq_true]
  funext a
  by_cases h : a = 23
  · subst h
    rw [upr_s]
    unfold rE
    simp only [upr_n, upr_s, ne_eq, Nat.reduceEqDiff, not_false_eq_true]
  · rw [upr_n _ _ h]
    unfold rE
    rw [es]
    split <;> first | rfl | (exfalso; omega) | (simp only [upr_n, ne_eq, Nat.reduceEqDiff, not_false_eq_true])
theorem rE_24 (I : IM) (f : Nat → Int32) : rE (upr I 86 f) = upr (rE I) 24 (mk (cl (I 59 31)) f) := by
  have es : rSc (upr I 86 f) = rSc I := by
    funext j
    unfold rSc
    simp only [upr_n, ne_eq, Nat.reduceEqDiff, not_false_eq_true]
  funext a
  by_cases h : a = 24
  · subst h
    rw [upr_s]
    unfold rE
    simp only [upr_n, upr_s, ne_eq, Nat.reduceEqDiff, not_false_eq_true]
  · rw [upr_n _ _ h]
    unfold rE
    rw [es]
    split <;> first | rfl | (exfalso; omega) | (simp only [upr_n, ne_eq, Nat.reduceEqDiff, not_false_eq_true])
theorem rE_25 (I : IM) (f : Nat → Int32) : rE (upr I 87 f) = upr (rE I) 25 (mk (cl (I 59 31)) f) := by
  have es : rSc (upr I 87 f) = rSc I := by
    funext j
    unfold rSc
    simp only [upr_n, ne_eq, Nat.reduceEqDiff, not_false_eq_true]
  funext a
  by_cases h : a = 25
  · subst h
    rw [upr_s]
    unfold rE
    simp only [upr_n, upr_s, ne_eq, Nat.reduceEqDiff, not_false_eq_true]
  · rw [upr_n _ _ h]
    unfold rE
    rw [es]
    split <;> first | rfl | (exfalso; omega) | (simp only [upr_n, ne_eq, Nat.reduceEqDiff, not_false_eq_true])
theorem rE_s0 (I : IM) (x : Int32) : rE (up2 I 59 2 x) = up2 (rE I) 29 0 x := by
  have q : ∀ (f : Nat → Int32) (j x) (i), i ≠ j → up1 f j x i = f i := fun f j x i h => by simp [up1, h]
  funext a
  by_cases h : a = 29
  · subst h
    rw [up2_s]
    have e29 : ∀ I' : IM, rE I' 29 = rSc I' := fun _ => rfl
    rw [e29, e29]
    funext j
    by_cases hj : j = 0
    · subst hj
      simp [rSc, up2_s, up1]
    · rw [q _ _ _ _ hj]
      unfold rSc
      split <;> first | rfl | (exfalso; omega) | (simp [up2_n, up2_s, up1])
  · rw [up2_n _ _ _ h]
    unfold rE
    split <;> first | rfl | (exfalso; omega) | (simp [up2_n, up2_s, up1])
theorem rE_s2 (I : IM) (x : Int32) : rE (up2 I 59 12 x) = up2 (rE I) 29 2 x := by
  have q : ∀ (f : Nat → Int32) (j x) (i), i ≠ j → up1 f j x i = f i := fun f j x i h => by simp [up1, h]
  funext a
  by_cases h : a = 29
  · subst h
    rw [up2_s]
    have e29 : ∀ I' : IM, rE I' 29 = rSc I' := fun _ => rfl
    rw [e29, e29]
    funext j
    by_cases hj : j = 2
    · subst hj
      simp [rSc, up2_s, up1]
    · rw [q _ _ _ _ hj]
      unfold rSc
      split <;> first | rfl | (exfalso; omega) | (simp [up2_n, up2_s, up1])
  · rw [up2_n _ _ _ h]
    unfold rE
    split <;> first | rfl | (exfalso; omega) | (simp [up2_n, up2_s, up1])
theorem rE_s5 (I : IM) (x : Int32) : rE (up2 I 59 27 x) = up2 (rE I) 29 5 x := by
  have q : ∀ (f : Nat → Int32) (j x) (i), i ≠ j → up1 f j x i = f i := fun f j x i h => by simp [up1, h]
  funext a
  by_cases h : a = 29
  · subst h
    rw [up2_s]
    have e29 : ∀ I' : IM, rE I' 29 = rSc I' := fun _ => rfl
    rw [e29, e29]
    funext j
    by_cases hj : j = 5
    · subst hj
      simp [rSc, up2_s, up1]
    · rw [q _ _ _ _ hj]
      unfold rSc
      split <;> first | rfl | (exfalso; omega) | (simp [up2_n, up2_s, up1])
  · rw [up2_n _ _ _ h]
    unfold rE
    split <;> first | rfl | (exfalso; omega) | (simp [up2_n, up2_s, up1])
theorem rE_s11 (I : IM) (x : Int32) : rE (up2 I 59 32 x) = up2 (rE I) 29 11 x := by
  have q : ∀ (f : Nat → Int32) (j x) (i), i ≠ j → up1 f j x i = f i := fun f j x i h => by simp [up1, h]
  funext a
  by_cases h : a = 29
  · subst h
    rw [up2_s]
    have e29 : ∀ I' : IM, rE I' 29 = rSc I' := fun _ => rfl
    rw [e29, e29]
    funext j
    by_cases hj : j = 11
    · subst hj
      simp [rSc, up2_s, up1]
    · rw [q _ _ _ _ hj]
      unfold rSc
      split <;> first | rfl | (exfalso; omega) | (simp [up2_n, up2_s, up1])
  · rw [up2_n _ _ _ h]
    unfold rE
    split <;> first | rfl | (exfalso; omega) | (simp [up2_n, up2_s, up1])
