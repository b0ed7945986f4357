section
-- 30.upd
/-! the state anew, row by row -/
theorem mk_up {n : Nat} {f : Nat → Int32} {x : Int32} : mk (n + 1) (up1 f n x) = up1 (mk n f) n x := by
  funext i
  unfold mk up1
  by_cases e : i = n
  · subst e; simp
  · by_cases h : i < n
    · simp [e, h, show i < n + 1 by omega]
    · simp [e, h, show ¬ i < n + 1 by omega]
theorem mk_up2 {n j : Nat} {f : Nat → Int32} {x : Int32} (h : j < n) : mk n (up1 f j x) = up1 (mk n f) j x := by
  funext i
  unfold mk up1
  by_cases e : i = j
  · subst e; simp [h]
  · simp [e]
theorem mk_mk {n m : Nat} {f : Nat → Int32} (h : m ≤ n) : mk m (mk n f) = mk m f := by
  funext i
  unfold mk
  by_cases e : i < m
  · simp [e, show i < n by omega]
  · simp [e]
theorem cE_big {I : IM} {a : Nat} (h : 32 ≤ a) : cE I a = fun _ => 0 := by
  unfold cE
  split <;> first | (exfalso; omega) | rfl
theorem cE_ext {I : IM} {E : IM} (h : ∀ a, a < 32 → cE I a = E a) (hb : ∀ a, 32 ≤ a → E a = fun _ => 0) : cE I = E := by
  funext a
  by_cases ha : a < 32
  · exact h a ha
  · rw [cE_big (by omega), hb a (by omega)]
theorem cE_0 (I : IM) (f : Nat → Int32) : cE (upr I 2 f) = upr (cE I) 0 f := by
  have e : ∀ k, k ≠ 2 → upr I 2 f k = I k := fun k hk => upr_n I f hk
  have es : cSc (upr I 2 f) = cSc I := by
    funext j
    unfold cSc
    simp only [upr_n, ne_eq, Nat.reduceEqDiff, not_false_eq_true]
  funext a
  by_cases h : a = 0
  · subst h
    rw [upr_s]
    exact upr_s I _ f
  · rw [upr_n _ _ h]
    unfold cE
    rw [es]
    split <;> first | rfl | (exfalso; omega) | (simp only [upr_n, ne_eq, Nat.reduceEqDiff, not_false_eq_true])
theorem cE_1 (I : IM) (f : Nat → Int32) : cE (upr I 3 f) = upr (cE I) 1 f := by
  have e : ∀ k, k ≠ 3 → upr I 3 f k = I k := fun k hk => upr_n I f hk
  have es : cSc (upr I 3 f) = cSc I := by
    funext j
    unfold cSc
    simp only [upr_n, ne_eq, Nat.reduceEqDiff, not_false_eq_true]
  funext a
  by_cases h : a = 1
  · subst h
    rw [upr_s]
    exact upr_s I _ f
  · rw [upr_n _ _ h]
    unfold cE
    rw [es]
    split <;> first | rfl | (exfalso; omega) | (simp only [upr_n, ne_eq, Nat.reduceEqDiff, not_false_eq_true])
theorem cE_2 (I : IM) (f : Nat → Int32) : cE (upr I 5 f) = upr (cE I) 2 f := by
  have e : ∀ k, k ≠ 5 → upr I 5 f k = I k := fun k hk => upr_n I f hk
  have es : cSc (upr I 5 f) = cSc I := by
    funext j
    unfold cSc
    simp only [upr_n, ne_eq, Nat.reduceEqDiff, not_false_eq_true]
  funext a
  by_cases h : a = 2
  · subst h
    rw [upr_s]
    exact upr_s I _ f
  · rw [upr_n _ _ h]
    unfold cE
    rw [es]
    split <;> first | rfl | (exfalso; omega) | (simp only [upr_n, ne_eq, Nat.reduceEqDiff, not_false_eq_true])
theorem cE_3 (I : IM) (f : Nat → Int32) : cE (upr I 6 f) = upr (cE I) 3 f := by
  have e : ∀ k, k ≠ 6 → upr I 6 f k = I k := fun k hk => upr_n I f hk
  have es : cSc (upr I 6 f) = cSc I := by
    funext j
    unfold cSc
    simp only [upr_n, ne_eq, Nat.reduceEqDiff, not_false_eq_true]
  funext a
  by_cases h : a = 3
  · subst h
    rw [upr_s]
    exact upr_s I _ f
  · rw [upr_n _ _ h]
    unfold cE
    rw [es]
    split <;> first | rfl | (exfalso; omega) | (simp only [upr_n, ne_eq, Nat.reduceEqDiff, not_false_eq_true])
theorem cE_4 (I : IM) (f : Nat → Int32) : cE (upr I 7 f) = upr (cE I) 4 f := by
  have e : ∀ k, k ≠ 7 → upr I 7 f k = I k := fun k hk => upr_n I f hk
  have es : cSc (upr I 7 f) = cSc I := by
    funext j
    unfold cSc
    simp only [upr_n, ne_eq, Nat.reduceEqDiff, not_false_eq_true]
  funext a
  by_cases h : a = 4
  · subst h
    rw [upr_s]
    exact upr_s I _ f
  · rw [upr_n _ _ h]
    unfold cE
    rw [es]
    split <;> first | rfl | (exfalso; omega) | (simp only [upr_n, ne_eq, Nat.reduceEqDiff, not_false_eq_true])
theorem cE_5 (I : IM) (f : Nat → Int32) : cE (upr I 8 f) = upr (cE I) 5 f := by
  have e : ∀ k, k ≠ 8 → upr I 8 f k = I k := fun k hk => upr_n I f hk
  have es : cSc (upr I 8 f) = cSc I := by
    funext j
    unfold cSc
    simp only [upr_n, ne_eq, Nat.reduceEqDiff, not_false_eq_true]
  funext a
  by_cases h : a = 5
  · subst h
    rw [upr_s]
    exact upr_s I _ f
  · rw [upr_n _ _ h]
    unfold cE
    rw [es]
    split <;> first | rfl | (exfalso; omega) | (simp only [upr_n, ne_eq, Nat.reduceEqDiff, not_false_eq_true])
theorem cE_6 (I : IM) (f : Nat → Int32) : cE (upr I 9 f) = upr (cE I) 6 f := by
  have e : ∀ k, k ≠ 9 → upr I 9 f k = I k := fun k hk => upr_n I f hk
  have es : cSc (upr I 9 f) = cSc I := by
    funext j
    unfold cSc
    simp only [upr_n, ne_eq, Nat.reduceEqDiff, not_false_eq_true]
  funext a
  by_cases h : a = 6
  · subst h
    rw [upr_s]
    exact upr_s I _ f
  · rw [upr_n _ _ h]
    unfold cE
    rw [es]
    split <;> first | rfl | (exfalso; omega) | (simp only [upr_n, ne_eq, Nat.reduceEqDiff, not_false_eq_true])
theorem cE_7 (I : IM) (f : Nat → Int32) : cE (upr I 10 f) = upr (cE I) 7 f := by
  have e : ∀ k, k ≠ 10 → upr I 10 f k = I k := fun k hk => upr_n I f hk
  have es : cSc (upr I 10 f) = cSc I := by
    funext j
    unfold cSc
    simp only [upr_n, ne_eq, Nat.reduceEqDiff, not_false_eq_true]
  funext a
  by_cases h : a = 7
  · subst h
    rw [upr_s]
    exact upr_s I _ f
  · rw [upr_n _ _ h]
    unfold cE
    rw [es]
    split <;> first | rfl | (exfalso; omega) | (simp only [upr_n, ne_eq, Nat.reduceEqDiff, not_false_eq_true])
theorem cE_8 (I : IM) (f : Nat → Int32) : cE (upr I 11 f) = upr (cE I) 8 f := by
  have e : ∀ k, k ≠ 11 → upr I 11 f k = I k := fun k hk => upr_n I f hk
  have es : cSc (upr I 11 f) = cSc I := by
    funext j
    unfold cSc
    simp only [upr_n, ne_eq, Nat.reduceEqDiff, not_false_eq_true]
  funext a
  by_cases h : a = 8
  · subst h
    rw [upr_s]
    exact upr_s I _ f
  · rw [upr_n _ _ h]
    unfold cE
    rw [es]
    split <;> first | rfl | (exfalso; omega) | (simp only [upr_n, ne_eq, Nat.reduceEqDiff, not_false_eq_true])
theorem cE_10 (I : IM) (f : Nat → Int32) : cE (upr I 14 f) = upr (cE I) 10 f := by
  have e : ∀ k, k ≠ 14 → upr I 14 f k = I k := fun k hk => upr_n I f hk
  have es : cSc (upr I 14 f) = cSc I := by
    funext j
    unfold cSc
    simp only [upr_n, ne_eq, Nat.reduceEqDiff, not_false_eq_true]
  funext a
  by_cases h : a = 10
  · subst h
    rw [upr_s]
    exact upr_s I _ f
  · rw [upr_n _ _ h]
    unfold cE
    rw [es]
    split <;> first | rfl | (exfalso; omega) | (simp only [upr_n, ne_eq, Nat.reduceEqDiff, not_false_eq_true])
theorem cE_11 (I : IM) (f : Nat → Int32) : cE (upr I 15 f) = upr (cE I) 11 f := by
  have e : ∀ k, k ≠ 15 → upr I 15 f k = I k := fun k hk => upr_n I f hk
  have es : cSc (upr I 15 f) = cSc I := by
    funext j
    unfold cSc
    simp only [upr_n, ne_eq, Nat.reduceEqDiff, not_false_eq_true]
  funext a
  by_cases h : a = 11
  · subst h
    rw [upr_s]
    exact upr_s I _ f
  · rw [upr_n _ _ h]
    unfold cE
    rw [es]
    split <;> first | rfl | (exfalso; omega) | (simp only [upr_n, ne_eq, Nat.reduceEqDiff, not_false_eq_true])
theorem cE_12 (I : IM) (f : Nat → Int32) : cE (upr I 16 f) = upr (cE I) 12 f := by
  have e : ∀ k, k ≠ 16 → upr I 16 f k = I k := fun k hk => upr_n I f hk
  have es : cSc (upr I 16 f) = cSc I := by
    funext j
    unfold cSc
    simp only [upr_n, ne_eq, Nat.reduceEqDiff, not_false_eq_true]
  funext a
  by_cases h : a = 12
  · subst h
    rw [upr_s]
    exact upr_s I _ f
  · rw [upr_n _ _ h]
    unfold cE
    rw [es]
    split <;> first | rfl | (exfalso; omega) | (simp only [upr_n, ne_eq, Nat.reduceEqDiff, not_false_eq_true])
theorem cE_13 (I : IM) (f : Nat → Int32) : cE (upr I 17 f) = upr (cE I) 13 f := by
  have e : ∀ k, k ≠ 17 → upr I 17 f k = I k := fun k hk => upr_n I f hk
  have es : cSc (upr I 17 f) = cSc I := by
    funext j
    unfold cSc
    simp only [upr_n, ne_eq, Nat.reduceEqDiff, not_false_eq_true]
  funext a
  by_cases h : a = 13
  · subst h
    rw [upr_s]
    exact upr_s I _ f
  · rw [upr_n _ _ h]
    unfold cE
    rw [es]
    split <;> first | rfl | (exfalso; omega) | (simp only [upr_n, ne_eq, Nat.reduceEqDiff, not_false_eq_true])
theorem cE_19 (I : IM) (f : Nat → Int32) : cE (upr I 47 f) = upr (cE I) 19 f := by
  have e : ∀ k, k ≠ 47 → upr I 47 f k = I k := fun k hk => upr_n I f hk
  have es : cSc (upr I 47 f) = cSc I := by
    funext j
    unfold cSc
    simp only [upr_n, ne_eq, Nat.reduceEqDiff, not_false_eq_true]
  funext a
  by_cases h : a = 19
  · subst h
    rw [upr_s]
    exact upr_s I _ f
  · rw [upr_n _ _ h]
    unfold cE
    rw [es]
    split <;> first | rfl | (exfalso; omega) | (simp only [upr_n, ne_eq, Nat.reduceEqDiff, not_false_eq_true])
theorem cE_20 (I : IM) (f : Nat → Int32) : cE (upr I 48 f) = upr (cE I) 20 f := by
  have e : ∀ k, k ≠ 48 → upr I 48 f k = I k := fun k hk => upr_n I f hk
  have es : cSc (upr I 48 f) = cSc I := by
    funext j
    unfold cSc
    simp only [upr_n, ne_eq, Nat.reduceEqDiff, not_false_eq_true]
  funext a
  by_cases h : a = 20
  · subst h
    rw [upr_s]
    exact upr_s I _ f
  · rw [upr_n _ _ h]
    unfold cE
    rw [es]
    split <;> first | rfl | (exfalso; omega) | (simp only [upr_n, ne_eq, Nat.reduceEqDiff, not_false_eq_true])
theorem cE_26 (I : IM) (f : Nat → Int32) : cE (upr I 56 f) = upr (cE I) 26 f := by
  have e : ∀ k, k ≠ 56 → upr I 56 f k = I k := fun k hk => upr_n I f hk
  have es : cSc (upr I 56 f) = cSc I := by
    funext j
    unfold cSc
    simp only [upr_n, ne_eq, Nat.reduceEqDiff, not_false_eq_true]
  funext a
  by_cases h : a = 26
  · subst h
    rw [upr_s]
    exact upr_s I _ f
  · rw [upr_n _ _ h]
    unfold cE
    rw [es]
    split <;> first | rfl | (exfalso; omega) | (simp only [upr_n, ne_eq, Nat.reduceEqDiff, not_false_eq_true])
theorem cE_27 (I : IM) (f : Nat → Int32) : cE (upr I 57 f) = upr (cE I) 27 f := by
  have e : ∀ k, k ≠ 57 → upr I 57 f k = I k := fun k hk => upr_n I f hk
  have es : cSc (upr I 57 f) = cSc I := by
    funext j
    unfold cSc
    simp only [upr_n, ne_eq, Nat.reduceEqDiff, not_false_eq_true]
  funext a
  by_cases h : a = 27
  · subst h
    rw [upr_s]
    exact upr_s I _ f
  · rw [upr_n _ _ h]
    unfold cE
    rw [es]
    split <;> first | rfl | (exfalso; omega) | (simp only [upr_n, ne_eq, Nat.reduceEqDiff, not_false_eq_true])
theorem cE_28 (I : IM) (f : Nat → Int32) : cE (upr I 58 f) = upr (cE I) 28 f := by
  have e : ∀ k, k ≠ 58 → upr I 58 f k = I k := fun k hk => upr_n I f hk
  have es : cSc (upr I 58 f) = cSc I := by
    funext j
    unfold cSc
    simp only [upr_n, ne_eq, Nat.reduceEqDiff, not_false_eq_true]
  funext a
  by_cases h : a = 28
  · subst h
    rw [upr_s]
    exact upr_s I _ f
  · rw [upr_n _ _ h]
    unfold cE
    rw [es]
    split <;> first | rfl | (exfalso; omega) | (simp only [upr_n, ne_eq, Nat.reduceEqDiff, not_false_eq_true])
theorem cE_9 (I : IM) (f : Nat → Int32) : cE (upr I 12 f) = upr (cE I) 9 (mk (cl (I 4 8)) f) := by
  have es : cSc (upr I 12 f) = cSc I := by
    funext j
    unfold cSc
    simp only [upr_n, ne_eq, Nat.reduceEqDiff, not_false_eq_true]
  funext a
  by_cases h : a = 9
  · subst h
    rw [upr_s]
    unfold cE
    simp only [upr_n, upr_s, ne_eq, Nat.reduceEqDiff, not_false_eq_true]
  · rw [upr_n _ _ h]
    unfold cE
    rw [es]
    split <;> first | rfl | (exfalso; omega) | (simp only [upr_n, ne_eq, Nat.reduceEqDiff, not_false_eq_true])
theorem cE_14 (I : IM) (f : Nat → Int32) : cE (upr I 19 f) = upr (cE I) 14 (mk (cl (I 18 4)) f) := by
  have es : cSc (upr I 19 f) = cSc I := by
    funext j
    unfold cSc
    simp only [upr_n, ne_eq, Nat.reduceEqDiff, not_false_eq_true]
  funext a
  by_cases h : a = 14
  · subst h
    rw [upr_s]
    unfold cE
    simp only [upr_n, upr_s, ne_eq, Nat.reduceEqDiff, not_false_eq_true]
  · rw [upr_n _ _ h]
    unfold cE
    rw [es]
    split <;> first | rfl | (exfalso; omega) | (simp only [upr_n, ne_eq, Nat.reduceEqDiff, not_false_eq_true])
theorem cE_15 (I : IM) (f : Nat → Int32) : cE (upr I 20 f) = upr (cE I) 15 (mk (cl (I 18 4)) f) := by
  have es : cSc (upr I 20 f) = cSc I := by
    funext j
    unfold cSc
    simp only [upr_n, ne_eq, Nat.reduceEqDiff, not_false_eq_true]
  funext a
  by_cases h : a = 15
  · subst h
    rw [upr_s]
    unfold cE
    simp only [upr_n, upr_s, ne_eq, Nat.reduceEqDiff, not_false_eq_true]
  · rw [upr_n _ _ h]
    unfold cE
    rw [es]
    split <;> first | rfl | (exfalso; omega) | (simp only [upr_n, ne_eq, Nat.reduceEqDiff, not_false_eq_true])
theorem cE_16 (I : IM) (f : Nat → Int32) : cE (upr I 21 f) = upr (cE I) 16 (mk (cl (I 18 4)) f) := by
  have es : cSc (upr I 21 f) = cSc I := by
    funext j
    unfold cSc
    simp only [upr_n, ne_eq, Nat.reduceEqDiff, not_false_eq_true]
  funext a
  by_cases h : a = 16
  · subst h
    rw [upr_s]
    unfold cE
    simp only [upr_n, upr_s, ne_eq, Nat.reduceEqDiff, not_false_eq_true]
  · rw [upr_n _ _ h]
    unfold cE
    rw [es]
    split <;> first | rfl | (exfalso; omega) | (simp only [upr_n, ne_eq, Nat.reduceEqDiff, not_false_eq_true])
theorem cE_17 (I : IM) (f : Nat → Int32) : cE (upr I 22 f) = upr (cE I) 17 (mk (cl (I 18 4)) f) := by
  have es : cSc (upr I 22 f) = cSc I := by
    funext j
    unfold cSc
    simp only [upr_n, ne_eq, Nat.reduceEqDiff, not_false_eq_true]
  funext a
  by_cases h : a = 17
  · subst h
    rw [upr_s]
    unfold cE
    simp only [upr_n, upr_s, ne_eq, Nat.reduceEqDiff, not_false_eq_true]
  · rw [upr_n _ _ h]
    unfold cE
    rw [es]
    split <;> first | rfl | (exfalso; omega) | (simp only [upr_n, ne_eq, Nat.reduceEqDiff, not_false_eq_true])
theorem cE_18 (I : IM) (f : Nat → Int32) : cE (upr I 24 f) = upr (cE I) 18 (mk (cl (I 23 1)) f) := by
  have es : cSc (upr I 24 f) = cSc I := by
    funext j
    unfold cSc
    simp only [upr_n, ne_eq, Nat.reduceEqDiff, not_false_eq_true]
  funext a
  by_cases h : a = 18
  · subst h
    rw [upr_s]
    unfold cE
    simp only [upr_n, upr_s, ne_eq, Nat.reduceEqDiff, not_false_eq_true]
  · rw [upr_n _ _ h]
    unfold cE
    rw [es]
    split <;> first | rfl | (exfalso; omega) | (simp only [upr_n, ne_eq, Nat.reduceEqDiff, not_false_eq_true])
theorem cE_21 (I : IM) (f : Nat → Int32) : cE (upr I 54 f) = upr (cE I) 21 (mk (cl (I 45 3)) f) := by
  have es : cSc (upr I 54 f) = cSc I := by
    funext j
    unfold cSc
    simp only [upr_n, ne_eq, Nat.reduceEqDiff, not_false_eq_true]
  funext a
  by_cases h : a = 21
  · subst h
    rw [upr_s]
    unfold cE
    simp only [upr_n, upr_s, ne_eq, Nat.reduceEqDiff, not_false_eq_true]
  · rw [upr_n _ _ h]
    unfold cE
    rw [es]
    split <;> first | rfl | (exfalso; omega) | (simp only [upr_n, ne_eq, Nat.reduceEqDiff, not_false_eq_true])
theorem cE_22 (I : IM) (f : Nat → Int32) : cE (upr I 50 f) = upr (cE I) 22 (mk (cl (I 49 4)) f) := by
  have es : cSc (upr I 50 f) = cSc I := by
    funext j
    unfold cSc
    simp only [upr_n, ne_eq, Nat.reduceEqDiff, not_false_eq_true]
  funext a
  by_cases h : a = 22
  · subst h
    rw [upr_s]
    unfold cE
    simp only [upr_n, upr_s, ne_eq, Nat.reduceEqDiff, not_false_eq_true]
  · rw [upr_n _ _ h]
    unfold cE
    rw [es]
    split <;> first | rfl | (exfalso; omega) | (simp only [upr_n, ne_eq, Nat.reduceEqDiff, not_false_eq_true])
theorem cE_23 (I : IM) (f : Nat → Int32) : cE (upr I 51 f) = upr (cE I) 23 (mk (cl (I 49 4)) f) := by
  have es : cSc (upr I 51 f) = cSc I := by
    funext j
    unfold cSc
    simp only [upr_n, ne_eq, Nat.reduceEqDiff, not_false_eq_true]
  funext a
  by_cases h : a = 23
  · subst h
    rw [upr_s]
    unfold cE
    simp only [upr_n, upr_s, ne_eq, Nat.reduceEqDiff, not_false_eq_true]
  · rw [upr_n _ _ h]
    unfold cE
    rw [es]
    split <;> first | rfl | (exfalso; omega) | (simp only [upr_n, ne_eq, Nat.reduceEqDiff, not_false_eq_true])
theorem cE_24 (I : IM) (f : Nat → Int32) : cE (upr I 52 f) = upr (cE I) 24 (mk (cl (I 49 4)) f) := by
  have es : cSc (upr I 52 f) = cSc I := by
    funext j
    unfold cSc
    simp only [upr_n, ne_eq, Nat.reduceEqDiff, not_false_eq_true]
  funext a
  by_cases h : a = 24
  · subst h
    rw [upr_s]
    unfold cE
    simp only [upr_n, upr_s, ne_eq, Nat.reduceEqDiff, not_false_eq_true]
  · rw [upr_n _ _ h]
    unfold cE
    rw [es]
    split <;> first | rfl | (exfalso; omega) | (simp only [upr_n, ne_eq, Nat.reduceEqDiff, not_false_eq_true])
theorem cE_25 (I : IM) (f : Nat → Int32) : cE (upr I 53 f) = upr (cE I) 25 (mk (cl (I 49 4)) f) := by
  have es : cSc (upr I 53 f) = cSc I := by
    funext j
    unfold cSc
    simp only [upr_n, ne_eq, Nat.reduceEqDiff, not_false_eq_true]
  funext a
  by_cases h : a = 25
  · subst h
    rw [upr_s]
    unfold cE
    simp only [upr_n, upr_s, ne_eq, Nat.reduceEqDiff, not_false_eq_true]
  · rw [upr_n _ _ h]
    unfold cE
    rw [es]
    split <;> first | rfl | (exfalso; omega) | (simp only [upr_n, ne_eq, Nat.reduceEqDiff, not_false_eq_true])
theorem cE_s0 (I : IM) (x : Int32) : cE (up2 I 1 2 x) = up2 (cE I) 29 0 x := by
  have q : ∀ (f : Nat → Int32) (j x) (i), i ≠ j → up1 f j x i = f i := fun f j x i h => by simp [up1, h]
  funext a
  by_cases h : a = 29
  · subst h
    rw [up2_s]
    have e29 : ∀ I' : IM, cE I' 29 = cSc I' := fun _ => rfl
    rw [e29, e29]
    funext j
    by_cases hj : j = 0
    · subst hj
      simp [cSc, up2_s, up1]
    · rw [q _ _ _ _ hj]
      unfold cSc
      split <;> first | rfl | (exfalso; omega) | (simp [up2_n, up2_s, up1])
  · rw [up2_n _ _ _ h]
    unfold cE
    split <;> first | rfl | (exfalso; omega) | (simp [up2_n, up2_s, up1])
theorem cE_s2 (I : IM) (x : Int32) : cE (up2 I 13 4 x) = up2 (cE I) 29 2 x := by
  have q : ∀ (f : Nat → Int32) (j x) (i), i ≠ j → up1 f j x i = f i := fun f j x i h => by simp [up1, h]
  funext a
  by_cases h : a = 29
  · subst h
    rw [up2_s]
    have e29 : ∀ I' : IM, cE I' 29 = cSc I' := fun _ => rfl
    rw [e29, e29]
    funext j
    by_cases hj : j = 2
    · subst hj
      simp [cSc, up2_s, up1]
    · rw [q _ _ _ _ hj]
      unfold cSc
      split <;> first | rfl | (exfalso; omega) | (simp [up2_n, up2_s, up1])
  · rw [up2_n _ _ _ h]
    unfold cE
    split <;> first | rfl | (exfalso; omega) | (simp [up2_n, up2_s, up1])
theorem cE_s5 (I : IM) (x : Int32) : cE (up2 I 30 3 x) = up2 (cE I) 29 5 x := by
  have q : ∀ (f : Nat → Int32) (j x) (i), i ≠ j → up1 f j x i = f i := fun f j x i h => by simp [up1, h]
  funext a
  by_cases h : a = 29
  · subst h
    rw [up2_s]
    have e29 : ∀ I' : IM, cE I' 29 = cSc I' := fun _ => rfl
    rw [e29, e29]
    funext j
    by_cases hj : j = 5
    · subst hj
      simp [cSc, up2_s, up1]
    · rw [q _ _ _ _ hj]
      unfold cSc
      split <;> first | rfl | (exfalso; omega) | (simp [up2_n, up2_s, up1])
  · rw [up2_n _ _ _ h]
    unfold cE
    split <;> first | rfl | (exfalso; omega) | (simp [up2_n, up2_s, up1])
theorem cE_s7 (I : IM) (x : Int32) : cE (up2 I 45 5 x) = up2 (cE I) 29 7 x := by
  have q : ∀ (f : Nat → Int32) (j x) (i), i ≠ j → up1 f j x i = f i := fun f j x i h => by simp [up1, h]
  funext a
  by_cases h : a = 29
  · subst h
    rw [up2_s]
    have e29 : ∀ I' : IM, cE I' 29 = cSc I' := fun _ => rfl
    rw [e29, e29]
    funext j
    by_cases hj : j = 7
    · subst hj
      simp [cSc, up2_s, up1]
    · rw [q _ _ _ _ hj]
      unfold cSc
      split <;> first | rfl | (exfalso; omega) | (simp [up2_n, up2_s, up1])
  · rw [up2_n _ _ _ h]
    unfold cE
    split <;> first | rfl | (exfalso; omega) | (simp [up2_n, up2_s, up1])
theorem cE_s8 (I : IM) (x : Int32) : cE (up2 I 46 2 x) = up2 (cE I) 29 8 x := by
  have q : ∀ (f : Nat → Int32) (j x) (i), i ≠ j → up1 f j x i = f i := fun f j x i h => by simp [up1, h]
  funext a
  by_cases h : a = 29
  · subst h
    rw [up2_s]
    have e29 : ∀ I' : IM, cE I' 29 = cSc I' := fun _ => rfl
    rw [e29, e29]
    funext j
    by_cases hj : j = 8
    · subst hj
      simp [cSc, up2_s, up1]
    · rw [q _ _ _ _ hj]
      unfold cSc
      split <;> first | rfl | (exfalso; omega) | (simp [up2_n, up2_s, up1])
  · rw [up2_n _ _ _ h]
    unfold cE
    split <;> first | rfl | (exfalso; omega) | (simp [up2_n, up2_s, up1])
theorem cE_s11 (I : IM) (x : Int32) : cE (up2 I 45 4 x) = up2 (cE I) 29 11 x := by
  have q : ∀ (f : Nat → Int32) (j x) (i), i ≠ j → up1 f j x i = f i := fun f j x i h => by simp [up1, h]
  funext a
  by_cases h : a = 29
  · subst h
    rw [up2_s]
    have e29 : ∀ I' : IM, cE I' 29 = cSc I' := fun _ => rfl
    rw [e29, e29]
    funext j
    by_cases hj : j = 11
    · subst hj
      simp [cSc, up2_s, up1]
    · rw [q _ _ _ _ hj]
      unfold cSc
      split <;> first | rfl | (exfalso; omega) | (simp [up2_n, up2_s, up1])
  · rw [up2_n _ _ _ h]
    unfold cE
    split <;> first | rfl | (exfalso; omega) | (simp [up2_n, up2_s, up1])
theorem rE_big {I : IM} {a : Nat} (h : 32 ≤ a) : rE I a = fun _ => 0 := by
  unfold rE
  split <;> first | (exfalso; omega) | rfl
theorem rE_ext {I : IM} {E : IM} (h : ∀ a, a < 32 → rE I a = E a) (hb : ∀ a, 32 ≤ a → E a = fun _ => 0) : rE I = E := by
  funext a
  by_cases ha : a < 32
  · exact h a ha
  · rw [rE_big (by omega), hb a (by omega)]
theorem rE_0 (I : IM) (f : Nat → Int32) : rE (upr I 60 f) = upr (rE I) 0 f := by
  have e : ∀ k, k ≠ 60 → upr I 60 f k = I k := fun k hk => upr_n I f hk
  have es : rSc (upr I 60 f) = rSc I := by
    funext j
    unfold rSc
    simp only [upr_n, ne_eq, Nat.reduceEqDiff, not_false_eq_true]
  funext a
  by_cases h : a = 0
  · subst h
    rw [upr_s]
    exact upr_s I _ f
  · rw [upr_n _ _ h]
    unfold rE
    rw [es]
    split <;> first | rfl | (exfalso; omega) | (simp only [upr_n, ne_eq, Nat.reduceEqDiff, not_false_eq_true])
theorem rE_1 (I : IM) (f : Nat → Int32) : rE (upr I 61 f) = upr (rE I) 1 f := by
  have e : ∀ k, k ≠ 61 → upr I 61 f k = I k := fun k hk => upr_n I f hk
  have es : rSc (upr I 61 f) = rSc I := by
    funext j
    unfold rSc
    simp only [upr_n, ne_eq, Nat.reduceEqDiff, not_false_eq_true]
  funext a
  by_cases h : a = 1
  · subst h
    rw [upr_s]
    exact upr_s I _ f
  · rw [upr_n _ _ h]
    unfold rE
    rw [es]
    split <;> first | rfl | (exfalso; omega) | (simp only [upr_n, ne_eq, Nat.reduceEqDiff, not_false_eq_true])
theorem rE_2 (I : IM) (f : Nat → Int32) : rE (upr I 62 f) = upr (rE I) 2 f := by
  have e : ∀ k, k ≠ 62 → upr I 62 f k = I k := fun k hk => upr_n I f hk
  have es : rSc (upr I 62 f) = rSc I := by
    funext j
    unfold rSc
    simp only [upr_n, ne_eq, Nat.reduceEqDiff, not_false_eq_true]
  funext a
  by_cases h : a = 2
  · subst h
    rw [upr_s]
    exact upr_s I _ f
  · rw [upr_n _ _ h]
    unfold rE
    rw [es]
    split <;> first | rfl | (exfalso; omega) | (simp only [upr_n, ne_eq, Nat.reduceEqDiff, not_false_eq_true])
theorem rE_3 (I : IM) (f : Nat → Int32) : rE (upr I 63 f) = upr (rE I) 3 f := by
  have e : ∀ k, k ≠ 63 → upr I 63 f k = I k := fun k hk => upr_n I f hk
  have es : rSc (upr I 63 f) = rSc I := by
    funext j
    unfold rSc
    simp only [upr_n, ne_eq, Nat.reduceEqDiff, not_false_eq_true]
  funext a
  by_cases h : a = 3
  · subst h
    rw [upr_s]
    exact upr_s I _ f
  · rw [upr_n _ _ h]
    unfold rE
    rw [es]
    split <;> first | rfl | (exfalso; omega) | (simp only [upr_n, ne_eq, Nat.reduceEqDiff, not_false_eq_true])
theorem rE_4 (I : IM) (f : Nat → Int32) : rE (upr I 64 f) = upr (rE I) 4 f := by
  have e : ∀ k, k ≠ 64 → upr I 64 f k = I k := fun k hk => upr_n I f hk
  have es : rSc (upr I 64 f) = rSc I := by
    funext j
    unfold rSc
    simp only [upr_n, ne_eq, Nat.reduceEqDiff, not_false_eq_true]
  funext a
  by_cases h : a = 4
  · subst h
    rw [upr_s]
    exact upr_s I _ f
  · rw [upr_n _ _ h]
    unfold rE
    rw [es]
    split <;> first | rfl | (exfalso; omega) | (simp only [upr_n, ne_eq, Nat.reduceEqDiff, not_false_eq_true])
theorem rE_5 (I : IM) (f : Nat → Int32) : rE (upr I 65 f) = upr (rE I) 5 f := by
  have e : ∀ k, k ≠ 65 → upr I 65 f k = I k := fun k hk => upr_n I f hk
  have es : rSc (upr I 65 f) = rSc I := by
    funext j
    unfold rSc
    simp only [upr_n, ne_eq, Nat.reduceEqDiff, not_false_eq_true]
  funext a
  by_cases h : a = 5
  · subst h
    rw [upr_s]
    exact upr_s I _ f
  · rw [upr_n _ _ h]
    unfold rE
    rw [es]
    split <;> first | rfl | (exfalso; omega) | (simp only [upr_n, ne_eq, Nat.reduceEqDiff, not_false_eq_true])
theorem rE_6 (I : IM) (f : Nat → Int32) : rE (upr I 66 f) = upr (rE I) 6 f := by
  have e : ∀ k, k ≠ 66 → upr I 66 f k = I k := fun k hk => upr_n I f hk
  have es : rSc (upr I 66 f) = rSc I := by
    funext j
    unfold rSc
    simp only [upr_n, ne_eq, Nat.reduceEqDiff, not_false_eq_true]
  funext a
  by_cases h : a = 6
  · subst h
    rw [upr_s]
    exact upr_s I _ f
  · rw [upr_n _ _ h]
    unfold rE
    rw [es]
    split <;> first | rfl | (exfalso; omega) | (simp only [upr_n, ne_eq, Nat.reduceEqDiff, not_false_eq_true])
theorem rE_7 (I : IM) (f : Nat → Int32) : rE (upr I 67 f) = upr (rE I) 7 f := by
  have e : ∀ k, k ≠ 67 → upr I 67 f k = I k := fun k hk => upr_n I f hk
  have es : rSc (upr I 67 f) = rSc I := by
    funext j
    unfold rSc
    simp only [upr_n, ne_eq, Nat.reduceEqDiff, not_false_eq_true]
  funext a
  by_cases h : a = 7
  · subst h
    rw [upr_s]
    exact upr_s I _ f
  · rw [upr_n _ _ h]
    unfold rE
    rw [es]
    split <;> first | rfl | (exfalso; omega) | (simp only [upr_n, ne_eq, Nat.reduceEqDiff, not_false_eq_true])
theorem rE_8 (I : IM) (f : Nat → Int32) : rE (upr I 68 f) = upr (rE I) 8 f := by
  have e : ∀ k, k ≠ 68 → upr I 68 f k = I k := fun k hk => upr_n I f hk
  have es : rSc (upr I 68 f) = rSc I := by
    funext j
    unfold rSc
    simp only [upr_n, ne_eq, Nat.reduceEqDiff, not_false_eq_true]
  funext a
  by_cases h : a = 8
  · subst h
    rw [upr_s]
    exact upr_s I _ f
  · rw [upr_n _ _ h]
    unfold rE
    rw [es]
    split <;> first | rfl | (exfalso; omega) | (simp only [upr_n, ne_eq, Nat.reduceEqDiff, not_false_eq_true])
theorem rE_10 (I : IM) (f : Nat → Int32) : rE (upr I 70 f) = upr (rE I) 10 f := by
  have e : ∀ k, k ≠ 70 → upr I 70 f k = I k := fun k hk => upr_n I f hk
  have es : rSc (upr I 70 f) = rSc I := by
    funext j
    unfold rSc
    simp only [upr_n, ne_eq, Nat.reduceEqDiff, not_false_eq_true]
  funext a
  by_cases h : a = 10
  · subst h
    rw [upr_s]
    exact upr_s I _ f
  · rw [upr_n _ _ h]
    unfold rE
    rw [es]
    split <;> first | rfl | (exfalso; omega) | (simp only [upr_n, ne_eq, Nat.reduceEqDiff, not_false_eq_true])
theorem rE_11 (I : IM) (f : Nat → Int32) : rE (upr I 71 f) = upr (rE I) 11 f := by
  have e : ∀ k, k ≠ 71 → upr I 71 f k = I k := fun k hk => upr_n I f hk
  have es : rSc (upr I 71 f) = rSc I := by
    funext j
    unfold rSc
    simp only [upr_n, ne_eq, Nat.reduceEqDiff, not_false_eq_true]
  funext a
  by_cases h : a = 11
  · subst h
    rw [upr_s]
    exact upr_s I _ f
  · rw [upr_n _ _ h]
    unfold rE
    rw [es]
    split <;> first | rfl | (exfalso; omega) | (simp only [upr_n, ne_eq, Nat.reduceEqDiff, not_false_eq_true])
theorem rE_12 (I : IM) (f : Nat → Int32) : rE (upr I 72 f) = upr (rE I) 12 f := by
  have e : ∀ k, k ≠ 72 → upr I 72 f k = I k := fun k hk => upr_n I f hk
  have es : rSc (upr I 72 f) = rSc I := by
    funext j
    unfold rSc
    simp only [upr_n, ne_eq, Nat.reduceEqDiff, not_false_eq_true]
  funext a
  by_cases h : a = 12
  · subst h
    rw [upr_s]
    exact upr_s I _ f
  · rw [upr_n _ _ h]
    unfold rE
    rw [es]
    split <;> first | rfl | (exfalso; omega) | (simp only [upr_n, ne_eq, Nat.reduceEqDiff, not_false_eq_true])
theorem rE_13 (I : IM) (f : Nat → Int32) : rE (upr I 73 f) = upr (rE I) 13 f := by
  have e : ∀ k, k ≠ 73 → upr I 73 f k = I k := fun k hk => upr_n I f hk
  have es : rSc (upr I 73 f) = rSc I := by
    funext j
    unfold rSc
    simp only [upr_n, ne_eq, Nat.reduceEqDiff, not_false_eq_true]
  funext a
  by_cases h : a = 13
  · subst h
    rw [upr_s]
    exact upr_s I _ f
  · rw [upr_n _ _ h]
    unfold rE
    rw [es]
    split <;> first | rfl | (exfalso; omega) | (simp only [upr_n, ne_eq, Nat.reduceEqDiff, not_false_eq_true])
theorem rE_20 (I : IM) (f : Nat → Int32) : rE (upr I 82 f) = upr (rE I) 20 f := by
  have e : ∀ k, k ≠ 82 → upr I 82 f k = I k := fun k hk => upr_n I f hk
  have es : rSc (upr I 82 f) = rSc I := by
    funext j
    unfold rSc
    simp only [upr_n, ne_eq, Nat.reduceEqDiff, not_false_eq_true]
  funext a
  by_cases h : a = 20
  · subst h
    rw [upr_s]
    exact upr_s I _ f
  · rw [upr_n _ _ h]
    unfold rE
    rw [es]
    split <;> first | rfl | (exfalso; omega) | (simp only [upr_n, ne_eq, Nat.reduceEqDiff, not_false_eq_true])
theorem rE_26 (I : IM) (f : Nat → Int32) : rE (upr I 88 f) = upr (rE I) 26 f := by
  have e : ∀ k, k ≠ 88 → upr I 88 f k = I k := fun k hk => upr_n I f hk
  have es : rSc (upr I 88 f) = rSc I := by
    funext j
    unfold rSc
    simp only [upr_n, ne_eq, Nat.reduceEqDiff, not_false_eq_true]
  funext a
  by_cases h : a = 26
  · subst h
    rw [upr_s]
    exact upr_s I _ f
  · rw [upr_n _ _ h]
    unfold rE
    rw [es]
    split <;> first | rfl | (exfalso; omega) | (simp only [upr_n, ne_eq, Nat.reduceEqDiff, not_false_eq_true])
theorem rE_27 (I : IM) (f : Nat → Int32) : rE (upr I 89 f) = upr (rE I) 27 f := by
  have e : ∀ k, k ≠ 89 → upr I 89 f k = I k := fun k hk => upr_n I f hk
  have es : rSc (upr I 89 f) = rSc I := by
    funext j
    unfold rSc
    simp only [upr_n, ne_eq, Nat.reduceEqDiff, not_false_eq_true]
  funext a
  by_cases h : a = 27
  · subst h
    rw [upr_s]
    exact upr_s I _ f
  · rw [upr_n _ _ h]
    unfold rE
    rw [es]
    split <;> first | rfl | (exfalso; omega) | (simp only [upr_n, ne_eq, Nat.reduceEqDiff, not_false_eq_true])
theorem rE_28 (I : IM) (f : Nat → Int32) : rE (upr I 90 f) = upr (rE I) 28 f := by
  have e : ∀ k, k ≠ 90 → upr I 90 f k = I k := fun k hk => upr_n I f hk
  have es : rSc (upr I 90 f) = rSc I := by
    funext j
    unfold rSc
    simp only [upr_n, ne_eq, Nat.reduceEqDiff, not_false_eq_true]
  funext a
  by_cases h : a = 28
  · subst h
    rw [upr_s]
    exact upr_s I _ f
  · rw [upr_n _ _ h]
    unfold rE
    rw [es]
    split <;> first | rfl | (exfalso; omega) | (simp only [upr_n, ne_eq, Nat.reduceEqDiff, not_false_eq_true])
theorem rE_9 (I : IM) (f : Nat → Int32) : rE (upr I 69 f) = upr (rE I) 9 (mk (cl (I 59 3)) f) := by
  have es : rSc (upr I 69 f) = rSc I := by
    funext j
    unfold rSc
    simp only [upr_n, ne_eq, Nat.reduceEqDiff, not_false_eq_true]
  funext a
  by_cases h : a = 9
  · subst h
    rw [upr_s]
    unfold rE
    simp only [upr_n, upr_s, ne_eq, Nat.reduceEqDiff, not_false_eq_true]
  · rw [upr_n _ _ h]
    unfold rE
    rw [es]
    split <;> first | rfl | (exfalso; omega) | (simp only [upr_n, ne_eq, Nat.reduceEqDiff, not_false_eq_true])
theorem rE_14 (I : IM) (f : Nat → Int32) : rE (upr I 74 f) = upr (rE I) 14 (mk (cl (I 59 17)) f) := by
  have es : rSc (upr I 74 f) = rSc I := by
    funext j
    unfold rSc
    simp only [upr_n, ne_eq, Nat.reduceEqDiff, not_false_eq_true]
  funext a
  by_cases h : a = 14
  · subst h
    rw [upr_s]
    unfold rE
    simp only [upr_n, upr_s, ne_eq, Nat.reduceEqDiff, not_false_eq_true]
  · rw [upr_n _ _ h]
    unfold rE
    rw [es]
    split <;> first | rfl | (exfalso; omega) | (simp only [upr_n, ne_eq, Nat.reduceEqDiff, not_false_eq_true])
theorem rE_15 (I : IM) (f : Nat → Int32) : rE (upr I 75 f) = upr (rE I) 15 (mk (cl (I 59 17)) f) := by
  have es : rSc (upr I 75 f) = rSc I := by
    funext j
    unfold rSc
    simp only [upr_n, ne_eq, Nat.reduceEqDiff, not_false_eq_true]
  funext a
  by_cases h : a = 15
  · subst h
    rw [upr_s]
    unfold rE
    simp only [upr_n, upr_s, ne_eq, Nat.reduceEqDiff, not_false_eq_true]
  · rw [upr_n _ _ h]
    unfold rE
    rw [es]
    split <;> first | rfl | (exfalso; omega) | (simp only [upr_n, ne_eq, Nat.reduceEqDiff, not_false_eq_true])
theorem rE_16 (I : IM) (f : Nat → Int32) : rE (upr I 76 f) = upr (rE I) 16 (mk (cl (I 59 17)) f) := by
  have es : rSc (upr I 76 f) = rSc I := by
    funext j
    unfold rSc
    simp only [upr_n, ne_eq, Nat.reduceEqDiff, not_false_eq_true]
  funext a
  by_cases h : a = 16
  · subst h
    rw [upr_s]
    unfold rE
    simp only [upr_n, upr_s, ne_eq, Nat.reduceEqDiff, not_false_eq_true]
  · rw [upr_n _ _ h]
    unfold rE
    rw [es]
    split <;> first | rfl | (exfalso; omega) | (simp only [upr_n, ne_eq, Nat.reduceEqDiff, not_false_eq_true])
theorem rE_17 (I : IM) (f : Nat → Int32) : rE (upr I 77 f) = upr (rE I) 17 (mk (cl (I 59 17)) f) := by
  have es : rSc (upr I 77 f) = rSc I := by
    funext j
    unfold rSc
    simp only [upr_n, ne_eq, Nat.reduceEqDiff, not_false_eq_true]
  funext a
  by_cases h : a = 17
  · subst h
    rw [upr_s]
    unfold rE
    simp only [upr_n, upr_s, ne_eq, Nat.reduceEqDiff, not_false_eq_true]
  · rw [upr_n _ _ h]
    unfold rE
    rw [es]
    split <;> first | rfl | (exfalso; omega) | (simp only [upr_n, ne_eq, Nat.reduceEqDiff, not_false_eq_true])
theorem rE_18 (I : IM) (f : Nat → Int32) : rE (upr I 78 f) = upr (rE I) 18 (mk (cl (I 59 23)) f) := by
  have es : rSc (upr I 78 f) = rSc I := by
    funext j
    unfold rSc
    simp only [upr_n, ne_eq, Nat.reduceEqDiff, not_false_eq_true]
  funext a
  by_cases h : a = 18
  · subst h
    rw [upr_s]
    unfold rE
    simp only [upr_n, upr_s, ne_eq, Nat.reduceEqDiff, not_false_eq_true]
  · rw [upr_n _ _ h]
    unfold rE
    rw [es]
    split <;> first | rfl | (exfalso; omega) | (simp only [upr_n, ne_eq, Nat.reduceEqDiff, not_false_eq_true])
theorem rE_21 (I : IM) (f : Nat → Int32) : rE (upr I 83 f) = upr (rE I) 21 (mk (cl (I 59 30)) f) := by
  have es : rSc (upr I 83 f) = rSc I := by
    funext j
    unfold rSc
    simp only [upr_n, ne_eq, Nat.reduceEqDiff, not_false_eq_true]
  funext a
  by_cases h : a = 21
  · subst h
    rw [upr_s]
    unfold rE
    simp only [upr_n, upr_s, ne_eq, Nat.reduceEqDiff, not_false_eq_true]
  · rw [upr_n _ _ h]
    unfold rE
    rw [es]
    split <;> first | rfl | (exfalso; omega) | (simp only [upr_n, ne_eq, Nat.reduceEqDiff, not_false_eq_true])
theorem rE_22 (I : IM) (f : Nat → Int32) : rE (upr I 84 f) = upr (rE I) 22 (mk (cl (I 59 31)) f) := by
  have es : rSc (upr I 84 f) = rSc I := by
    funext j
    unfold rSc
    simp only [upr_n, ne_eq, Nat.reduceEqDiff, not_false_eq_true]
  funext a
  by_cases h : a = 22
  · subst h
    rw [upr_s]
    unfold rE
    simp only [upr_n, upr_s, ne_eq, Nat.reduceEqDiff, not_false_eq_true]
  · rw [upr_n _ _ h]
    unfold rE
    rw [es]
    split <;> first | rfl | (exfalso; omega) | (simp only [upr_n, ne_eq, Nat.reduceEqDiff, not_false_eq_true])
theorem rE_23 (I : IM) (f : Nat → Int32) : rE (upr I 85 f) = upr (rE I) 23 (mk (cl (I 59 31)) f) := by
  have es : rSc (upr I 85 f) = rSc I := by
    funext j
    unfold rSc
    simp only [upr_n, ne_eq, Nat.reduceEqDiff, not_false_eq_true]
  funext a
  by_cases h : a = 23
  · subst h
    rw [upr_s]
    unfold rE
    simp only [upr_n, upr_s, ne_eq, Nat.reduceEqDiff, not_false_eq_true]
  · rw [upr_n _ _ h]
    unfold rE
    rw [es]
    split <;> first | rfl | (exfalso; omega) | (simp only [upr_n, ne_eq, Nat.reduceEqDiff, not_false_eq_true])
theorem rE_24 (I : IM) (f : Nat → Int32) : rE (upr I 86 f) = upr (rE I) 24 (mk (cl (I 59 31)) f) := by
  have es : rSc (upr I 86 f) = rSc I := by
    funext j
    unfold rSc
    simp only [upr_n, ne_eq, Nat.reduceEqDiff, not_false_eq_true]
  funext a
  by_cases h : a = 24
  · subst h
    rw [upr_s]
    unfold rE
    simp only [upr_n, upr_s, ne_eq, Nat.reduceEqDiff, not_false_eq_true]
  · rw [upr_n _ _ h]
    unfold rE
    rw [es]
    split <;> first | rfl | (exfalso; omega) | (simp only [upr_n, ne_eq, Nat.reduceEqDiff, not_false_eq_true])
theorem rE_25 (I : IM) (f : Nat → Int32) : rE (upr I 87 f) = upr (rE I) 25 (mk (cl (I 59 31)) f) := by
  have es : rSc (upr I 87 f) = rSc I := by
    funext j
    unfold rSc
    simp only [upr_n, ne_eq, Nat.reduceEqDiff, not_false_eq_true]
  funext a
  by_cases h : a = 25
  · subst h
    rw [upr_s]
    unfold rE
    simp only [upr_n, upr_s, ne_eq, Nat.reduceEqDiff, not_false_eq_true]
  · rw [upr_n _ _ h]
    unfold rE
    rw [es]
    split <;> first | rfl | (exfalso; omega) | (simp only [upr_n, ne_eq, Nat.reduceEqDiff, not_false_eq_true])
theorem rE_s0 (I : IM) (x : Int32) : rE (up2 I 59 2 x) = up2 (rE I) 29 0 x := by
  have q : ∀ (f : Nat → Int32) (j x) (i), i ≠ j → up1 f j x i = f i := fun f j x i h => by simp [up1, h]
  funext a
  by_cases h : a = 29
  · subst h
    rw [up2_s]
    have e29 : ∀ I' : IM, rE I' 29 = rSc I' := fun _ => rfl
    rw [e29, e29]
    funext j
    by_cases hj : j = 0
    · subst hj
      simp [rSc, up2_s, up1]
    · rw [q _ _ _ _ hj]
      unfold rSc
      split <;> first | rfl | (exfalso; omega) | (simp [up2_n, up2_s, up1])
  · rw [up2_n _ _ _ h]
    unfold rE
    split <;> first | rfl | (exfalso; omega) | (simp [up2_n, up2_s, up1])
theorem rE_s2 (I : IM) (x : Int32) : rE (up2 I 59 12 x) = up2 (rE I) 29 2 x := by
  have q : ∀ (f : Nat → Int32) (j x) (i), i ≠ j → up1 f j x i = f i := fun f j x i h => by simp [up1, h]
  funext a
  by_cases h : a = 29
  · subst h
    rw [up2_s]
    have e29 : ∀ I' : IM, rE I' 29 = rSc I' := fun _ => rfl
    rw [e29, e29]
    funext j
    by_cases hj : j = 2
    · subst hj
      simp [rSc, up2_s, up1]
    · rw [q _ _ _ _ hj]
      unfold rSc
      split <;> first | rfl | (exfalso; omega) | (simp [up2_n, up2_s, up1])
  · rw [up2_n _ _ _ h]
    unfold rE
    split <;> first | rfl | (exfalso; omega) | (simp [up2_n, up2_s, up1])
theorem rE_s5 (I : IM) (x : Int32) : rE (up2 I 59 27 x) = up2 (rE I) 29 5 x := by
  have q : ∀ (f : Nat → Int32) (j x) (i), i ≠ j → up1 f j x i = f i := fun f j x i h => by simp [up1, h]
  funext a
  by_cases h : a = 29
  · subst h
    rw [up2_s]
    have e29 : ∀ I' : IM, rE I' 29 = rSc I' := fun _ => rfl
    rw [e29, e29]
    funext j
    by_cases hj : j = 5
    · subst hj
      simp [rSc, up2_s, up1]
    · rw [q _ _ _ _ hj]
      unfold rSc
      split <;> first | rfl | (exfalso; omega) | (simp [up2_n, up2_s, up1])
  · rw [up2_n _ _ _ h]
    unfold rE
    split <;> first | rfl | (exfalso; omega) | (simp [up2_n, up2_s, up1])
theorem rE_s11 (I : IM) (x : Int32) : rE (up2 I 59 32 x) = up2 (rE I) 29 11 x := by
  have q : ∀ (f : Nat → Int32) (j x) (i), i ≠ j → up1 f j x i = f i := fun f j x i h => by simp [up1, h]
  funext a
  by_cases h : a = 29
  · subst h
    rw [up2_s]
    have e29 : ∀ I' : IM, rE I' 29 = rSc I' := fun _ => rfl
    rw [e29, e29]
    funext j
    by_cases hj : j = 11
    · subst hj
      simp [rSc, up2_s, up1]
    · rw [q _ _ _ _ hj]
      unfold rSc
      split <;> first | rfl | (exfalso; omega) | (simp [up2_n, up2_s, up1])
  · rw [up2_n _ _ _ h]
    unfold rE
    split <;> first | rfl | (exfalso; omega) | (simp [up2_n, up2_s, up1])
end
section
-- 31.cnt
/-! counts, which show or hide rows -/
theorem cE_n1 (I : IM) (x : Int32) : cE (up2 I 4 8 x) = upr (up2 (cE I) 29 1 x) 9 (mk (cl x) (I 12)) := by
  have q : ∀ (f : Nat → Int32) (j x) (i), i ≠ j → up1 f j x i = f i := fun f j x i h => by simp [up1, h]
  funext a
  by_cases h9 : a = 9
  · subst h9
    simp only [upr_n, upr_s, ne_eq, Nat.reduceEqDiff, not_false_eq_true]
    unfold cE
    simp [up2_n, up2_s, up1]
  rw [upr_n _ _ h9]
  by_cases h : a = 29
  · subst h
    rw [up2_s]
    have e29 : ∀ I' : IM, cE I' 29 = cSc I' := fun _ => rfl
    rw [e29, e29]
    funext j
    by_cases hj : j = 1
    · subst hj
      simp [cSc, up2_s, up1]
    · rw [q _ _ _ _ hj]
      unfold cSc
      split <;> first | rfl | (exfalso; omega) | (simp [up2_n, up2_s, up1])
  · rw [up2_n _ _ _ h]
    unfold cE
    split <;> first | rfl | (exfalso; omega) | (simp [up2_n, up2_s, up1])
theorem cE_n3 (I : IM) (x : Int32) : cE (up2 I 18 4 x) = upr (upr (upr (upr (up2 (cE I) 29 3 x) 14 (mk (cl x) (I 19))) 15 (mk (cl x) (I 20))) 16 (mk (cl x) (I 21))) 17 (mk (cl x) (I 22)) := by
  have q : ∀ (f : Nat → Int32) (j x) (i), i ≠ j → up1 f j x i = f i := fun f j x i h => by simp [up1, h]
  funext a
  by_cases h14 : a = 14
  · subst h14
    simp only [upr_n, upr_s, ne_eq, Nat.reduceEqDiff, not_false_eq_true]
    unfold cE
    simp [up2_n, up2_s, up1]
  by_cases h15 : a = 15
  · subst h15
    simp only [upr_n, upr_s, ne_eq, Nat.reduceEqDiff, not_false_eq_true]
    unfold cE
    simp [up2_n, up2_s, up1]
  by_cases h16 : a = 16
  · subst h16
    simp only [upr_n, upr_s, ne_eq, Nat.reduceEqDiff, not_false_eq_true]
    unfold cE
    simp [up2_n, up2_s, up1]
  by_cases h17 : a = 17
  · subst h17
    simp only [upr_n, upr_s, ne_eq, Nat.reduceEqDiff, not_false_eq_true]
    unfold cE
    simp [up2_n, up2_s, up1]
  rw [upr_n _ _ h17]
  rw [upr_n _ _ h16]
  rw [upr_n _ _ h15]
  rw [upr_n _ _ h14]
  by_cases h : a = 29
  · subst h
    rw [up2_s]
    have e29 : ∀ I' : IM, cE I' 29 = cSc I' := fun _ => rfl
    rw [e29, e29]
    funext j
    by_cases hj : j = 3
    · subst hj
      simp [cSc, up2_s, up1]
    · rw [q _ _ _ _ hj]
      unfold cSc
      split <;> first | rfl | (exfalso; omega) | (simp [up2_n, up2_s, up1])
  · rw [up2_n _ _ _ h]
    unfold cE
    split <;> first | rfl | (exfalso; omega) | (simp [up2_n, up2_s, up1])
theorem cE_n6 (I : IM) (x : Int32) : cE (up2 I 23 1 x) = upr (up2 (cE I) 29 6 x) 18 (mk (cl x) (I 24)) := by
  have q : ∀ (f : Nat → Int32) (j x) (i), i ≠ j → up1 f j x i = f i := fun f j x i h => by simp [up1, h]
  funext a
  by_cases h18 : a = 18
  · subst h18
    simp only [upr_n, upr_s, ne_eq, Nat.reduceEqDiff, not_false_eq_true]
    unfold cE
    simp [up2_n, up2_s, up1]
  rw [upr_n _ _ h18]
  by_cases h : a = 29
  · subst h
    rw [up2_s]
    have e29 : ∀ I' : IM, cE I' 29 = cSc I' := fun _ => rfl
    rw [e29, e29]
    funext j
    by_cases hj : j = 6
    · subst hj
      simp [cSc, up2_s, up1]
    · rw [q _ _ _ _ hj]
      unfold cSc
      split <;> first | rfl | (exfalso; omega) | (simp [up2_n, up2_s, up1])
  · rw [up2_n _ _ _ h]
    unfold cE
    split <;> first | rfl | (exfalso; omega) | (simp [up2_n, up2_s, up1])
theorem cE_n9 (I : IM) (x : Int32) : cE (up2 I 45 3 x) = upr (up2 (cE I) 29 9 x) 21 (mk (cl x) (I 54)) := by
  have q : ∀ (f : Nat → Int32) (j x) (i), i ≠ j → up1 f j x i = f i := fun f j x i h => by simp [up1, h]
  funext a
  by_cases h21 : a = 21
  · subst h21
    simp only [upr_n, upr_s, ne_eq, Nat.reduceEqDiff, not_false_eq_true]
    unfold cE
    simp [up2_n, up2_s, up1]
  rw [upr_n _ _ h21]
  by_cases h : a = 29
  · subst h
    rw [up2_s]
    have e29 : ∀ I' : IM, cE I' 29 = cSc I' := fun _ => rfl
    rw [e29, e29]
    funext j
    by_cases hj : j = 9
    · subst hj
      simp [cSc, up2_s, up1]
    · rw [q _ _ _ _ hj]
      unfold cSc
      split <;> first | rfl | (exfalso; omega) | (simp [up2_n, up2_s, up1])
  · rw [up2_n _ _ _ h]
    unfold cE
    split <;> first | rfl | (exfalso; omega) | (simp [up2_n, up2_s, up1])
theorem cE_n10 (I : IM) (x : Int32) : cE (up2 I 49 4 x) = upr (upr (upr (upr (up2 (cE I) 29 10 x) 22 (mk (cl x) (I 50))) 23 (mk (cl x) (I 51))) 24 (mk (cl x) (I 52))) 25 (mk (cl x) (I 53)) := by
  have q : ∀ (f : Nat → Int32) (j x) (i), i ≠ j → up1 f j x i = f i := fun f j x i h => by simp [up1, h]
  funext a
  by_cases h22 : a = 22
  · subst h22
    simp only [upr_n, upr_s, ne_eq, Nat.reduceEqDiff, not_false_eq_true]
    unfold cE
    simp [up2_n, up2_s, up1]
  by_cases h23 : a = 23
  · subst h23
    simp only [upr_n, upr_s, ne_eq, Nat.reduceEqDiff, not_false_eq_true]
    unfold cE
    simp [up2_n, up2_s, up1]
  by_cases h24 : a = 24
  · subst h24
    simp only [upr_n, upr_s, ne_eq, Nat.reduceEqDiff, not_false_eq_true]
    unfold cE
    simp [up2_n, up2_s, up1]
  by_cases h25 : a = 25
  · subst h25
    simp only [upr_n, upr_s, ne_eq, Nat.reduceEqDiff, not_false_eq_true]
    unfold cE
    simp [up2_n, up2_s, up1]
  rw [upr_n _ _ h25]
  rw [upr_n _ _ h24]
  rw [upr_n _ _ h23]
  rw [upr_n _ _ h22]
  by_cases h : a = 29
  · subst h
    rw [up2_s]
    have e29 : ∀ I' : IM, cE I' 29 = cSc I' := fun _ => rfl
    rw [e29, e29]
    funext j
    by_cases hj : j = 10
    · subst hj
      simp [cSc, up2_s, up1]
    · rw [q _ _ _ _ hj]
      unfold cSc
      split <;> first | rfl | (exfalso; omega) | (simp [up2_n, up2_s, up1])
  · rw [up2_n _ _ _ h]
    unfold cE
    split <;> first | rfl | (exfalso; omega) | (simp [up2_n, up2_s, up1])
theorem rE_n1 (I : IM) (x : Int32) : rE (up2 I 59 3 x) = upr (up2 (rE I) 29 1 x) 9 (mk (cl x) (I 69)) := by
  have q : ∀ (f : Nat → Int32) (j x) (i), i ≠ j → up1 f j x i = f i := fun f j x i h => by simp [up1, h]
  funext a
  by_cases h9 : a = 9
  · subst h9
    simp only [upr_n, upr_s, ne_eq, Nat.reduceEqDiff, not_false_eq_true]
    unfold rE
    simp [up2_n, up2_s, up1]
  rw [upr_n _ _ h9]
  by_cases h : a = 29
  · subst h
    rw [up2_s]
    have e29 : ∀ I' : IM, rE I' 29 = rSc I' := fun _ => rfl
    rw [e29, e29]
    funext j
    by_cases hj : j = 1
    · subst hj
      simp [rSc, up2_s, up1]
    · rw [q _ _ _ _ hj]
      unfold rSc
      split <;> first | rfl | (exfalso; omega) | (simp [up2_n, up2_s, up1])
  · rw [up2_n _ _ _ h]
    unfold rE
    split <;> first | rfl | (exfalso; omega) | (simp [up2_n, up2_s, up1])
theorem rE_n3 (I : IM) (x : Int32) : rE (up2 I 59 17 x) = upr (upr (upr (upr (up2 (rE I) 29 3 x) 14 (mk (cl x) (I 74))) 15 (mk (cl x) (I 75))) 16 (mk (cl x) (I 76))) 17 (mk (cl x) (I 77)) := by
  have q : ∀ (f : Nat → Int32) (j x) (i), i ≠ j → up1 f j x i = f i := fun f j x i h => by simp [up1, h]
  funext a
  by_cases h14 : a = 14
  · subst h14
    simp only [upr_n, upr_s, ne_eq, Nat.reduceEqDiff, not_false_eq_true]
    unfold rE
    simp [up2_n, up2_s, up1]
  by_cases h15 : a = 15
  · subst h15
    simp only [upr_n, upr_s, ne_eq, Nat.reduceEqDiff, not_false_eq_true]
    unfold rE
    simp [up2_n, up2_s, up1]
  by_cases h16 : a = 16
  · subst h16
    simp only [upr_n, upr_s, ne_eq, Nat.reduceEqDiff, not_false_eq_true]
    unfold rE
    simp [up2_n, up2_s, up1]
  by_cases h17 : a = 17
  · subst h17
    simp only [upr_n, upr_s, ne_eq, Nat.reduceEqDiff, not_false_eq_true]
    unfold rE
    simp [up2_n, up2_s, up1]
  rw [upr_n _ _ h17]
  rw [upr_n _ _ h16]
  rw [upr_n _ _ h15]
  rw [upr_n _ _ h14]
  by_cases h : a = 29
  · subst h
    rw [up2_s]
    have e29 : ∀ I' : IM, rE I' 29 = rSc I' := fun _ => rfl
    rw [e29, e29]
    funext j
    by_cases hj : j = 3
    · subst hj
      simp [rSc, up2_s, up1]
    · rw [q _ _ _ _ hj]
      unfold rSc
      split <;> first | rfl | (exfalso; omega) | (simp [up2_n, up2_s, up1])
  · rw [up2_n _ _ _ h]
    unfold rE
    split <;> first | rfl | (exfalso; omega) | (simp [up2_n, up2_s, up1])
theorem rE_n6 (I : IM) (x : Int32) : rE (up2 I 59 23 x) = upr (up2 (rE I) 29 6 x) 18 (mk (cl x) (I 78)) := by
  have q : ∀ (f : Nat → Int32) (j x) (i), i ≠ j → up1 f j x i = f i := fun f j x i h => by simp [up1, h]
  funext a
  by_cases h18 : a = 18
  · subst h18
    simp only [upr_n, upr_s, ne_eq, Nat.reduceEqDiff, not_false_eq_true]
    unfold rE
    simp [up2_n, up2_s, up1]
  rw [upr_n _ _ h18]
  by_cases h : a = 29
  · subst h
    rw [up2_s]
    have e29 : ∀ I' : IM, rE I' 29 = rSc I' := fun _ => rfl
    rw [e29, e29]
    funext j
    by_cases hj : j = 6
    · subst hj
      simp [rSc, up2_s, up1]
    · rw [q _ _ _ _ hj]
      unfold rSc
      split <;> first | rfl | (exfalso; omega) | (simp [up2_n, up2_s, up1])
  · rw [up2_n _ _ _ h]
    unfold rE
    split <;> first | rfl | (exfalso; omega) | (simp [up2_n, up2_s, up1])
theorem rE_n9 (I : IM) (x : Int32) : rE (up2 I 59 30 x) = upr (up2 (rE I) 29 9 x) 21 (mk (cl x) (I 83)) := by
  have q : ∀ (f : Nat → Int32) (j x) (i), i ≠ j → up1 f j x i = f i := fun f j x i h => by simp [up1, h]
  funext a
  by_cases h21 : a = 21
  · subst h21
    simp only [upr_n, upr_s, ne_eq, Nat.reduceEqDiff, not_false_eq_true]
    unfold rE
    simp [up2_n, up2_s, up1]
  rw [upr_n _ _ h21]
  by_cases h : a = 29
  · subst h
    rw [up2_s]
    have e29 : ∀ I' : IM, rE I' 29 = rSc I' := fun _ => rfl
    rw [e29, e29]
    funext j
    by_cases hj : j = 9
    · subst hj
      simp [rSc, up2_s, up1]
    · rw [q _ _ _ _ hj]
      unfold rSc
      split <;> first | rfl | (exfalso; omega) | (simp [up2_n, up2_s, up1])
  · rw [up2_n _ _ _ h]
    unfold rE
    split <;> first | rfl | (exfalso; omega) | (simp [up2_n, up2_s, up1])
theorem rE_n10 (I : IM) (x : Int32) : rE (up2 I 59 31 x) = upr (upr (upr (upr (up2 (rE I) 29 10 x) 22 (mk (cl x) (I 84))) 23 (mk (cl x) (I 85))) 24 (mk (cl x) (I 86))) 25 (mk (cl x) (I 87)) := by
  have q : ∀ (f : Nat → Int32) (j x) (i), i ≠ j → up1 f j x i = f i := fun f j x i h => by simp [up1, h]
  funext a
  by_cases h22 : a = 22
  · subst h22
    simp only [upr_n, upr_s, ne_eq, Nat.reduceEqDiff, not_false_eq_true]
    unfold rE
    simp [up2_n, up2_s, up1]
  by_cases h23 : a = 23
  · subst h23
    simp only [upr_n, upr_s, ne_eq, Nat.reduceEqDiff, not_false_eq_true]
    unfold rE
    simp [up2_n, up2_s, up1]
  by_cases h24 : a = 24
  · subst h24
    simp only [upr_n, upr_s, ne_eq, Nat.reduceEqDiff, not_false_eq_true]
    unfold rE
    simp [up2_n, up2_s, up1]
  by_cases h25 : a = 25
  · subst h25
    simp only [upr_n, upr_s, ne_eq, Nat.reduceEqDiff, not_false_eq_true]
    unfold rE
    simp [up2_n, up2_s, up1]
  rw [upr_n _ _ h25]
  rw [upr_n _ _ h24]
  rw [upr_n _ _ h23]
  rw [upr_n _ _ h22]
  by_cases h : a = 29
  · subst h
    rw [up2_s]
    have e29 : ∀ I' : IM, rE I' 29 = rSc I' := fun _ => rfl
    rw [e29, e29]
    funext j
    by_cases hj : j = 10
    · subst hj
      simp [rSc, up2_s, up1]
    · rw [q _ _ _ _ hj]
      unfold rSc
      split <;> first | rfl | (exfalso; omega) | (simp [up2_n, up2_s, up1])
  · rw [up2_n _ _ _ h]
    unfold rE
    split <;> first | rfl | (exfalso; omega) | (simp [up2_n, up2_s, up1])
theorem cE_u0 (I : IM) (j : Nat) (x : Int32) : cE (up2 I 2 j x) = up2 (cE I) 0 j x := cE_0 I _
theorem cE_u1 (I : IM) (j : Nat) (x : Int32) : cE (up2 I 3 j x) = up2 (cE I) 1 j x := cE_1 I _
theorem cE_u2 (I : IM) (j : Nat) (x : Int32) : cE (up2 I 5 j x) = up2 (cE I) 2 j x := cE_2 I _
theorem cE_u3 (I : IM) (j : Nat) (x : Int32) : cE (up2 I 6 j x) = up2 (cE I) 3 j x := cE_3 I _
theorem cE_u4 (I : IM) (j : Nat) (x : Int32) : cE (up2 I 7 j x) = up2 (cE I) 4 j x := cE_4 I _
theorem cE_u5 (I : IM) (j : Nat) (x : Int32) : cE (up2 I 8 j x) = up2 (cE I) 5 j x := cE_5 I _
theorem cE_u6 (I : IM) (j : Nat) (x : Int32) : cE (up2 I 9 j x) = up2 (cE I) 6 j x := cE_6 I _
theorem cE_u7 (I : IM) (j : Nat) (x : Int32) : cE (up2 I 10 j x) = up2 (cE I) 7 j x := cE_7 I _
theorem cE_u8 (I : IM) (j : Nat) (x : Int32) : cE (up2 I 11 j x) = up2 (cE I) 8 j x := cE_8 I _
theorem cE_u10 (I : IM) (j : Nat) (x : Int32) : cE (up2 I 14 j x) = up2 (cE I) 10 j x := cE_10 I _
theorem cE_u11 (I : IM) (j : Nat) (x : Int32) : cE (up2 I 15 j x) = up2 (cE I) 11 j x := cE_11 I _
theorem cE_u12 (I : IM) (j : Nat) (x : Int32) : cE (up2 I 16 j x) = up2 (cE I) 12 j x := cE_12 I _
theorem cE_u13 (I : IM) (j : Nat) (x : Int32) : cE (up2 I 17 j x) = up2 (cE I) 13 j x := cE_13 I _
theorem cE_u19 (I : IM) (j : Nat) (x : Int32) : cE (up2 I 47 j x) = up2 (cE I) 19 j x := cE_19 I _
theorem cE_u20 (I : IM) (j : Nat) (x : Int32) : cE (up2 I 48 j x) = up2 (cE I) 20 j x := cE_20 I _
theorem cE_u26 (I : IM) (j : Nat) (x : Int32) : cE (up2 I 56 j x) = up2 (cE I) 26 j x := cE_26 I _
theorem cE_u27 (I : IM) (j : Nat) (x : Int32) : cE (up2 I 57 j x) = up2 (cE I) 27 j x := cE_27 I _
theorem cE_u28 (I : IM) (j : Nat) (x : Int32) : cE (up2 I 58 j x) = up2 (cE I) 28 j x := cE_28 I _
theorem cE_u9 (I : IM) {j : Nat} (x : Int32) (h : j < cl (I 4 8)) : cE (up2 I 12 j x) = up2 (cE I) 9 j x := (cE_9 I _).trans (by rw [mk_up2 h]; rfl)
theorem cE_u14 (I : IM) {j : Nat} (x : Int32) (h : j < cl (I 18 4)) : cE (up2 I 19 j x) = up2 (cE I) 14 j x := (cE_14 I _).trans (by rw [mk_up2 h]; rfl)
theorem cE_u15 (I : IM) {j : Nat} (x : Int32) (h : j < cl (I 18 4)) : cE (up2 I 20 j x) = up2 (cE I) 15 j x := (cE_15 I _).trans (by rw [mk_up2 h]; rfl)
theorem cE_u16 (I : IM) {j : Nat} (x : Int32) (h : j < cl (I 18 4)) : cE (up2 I 21 j x) = up2 (cE I) 16 j x := (cE_16 I _).trans (by rw [mk_up2 h]; rfl)
theorem cE_u17 (I : IM) {j : Nat} (x : Int32) (h : j < cl (I 18 4)) : cE (up2 I 22 j x) = up2 (cE I) 17 j x := (cE_17 I _).trans (by rw [mk_up2 h]; rfl)
theorem cE_u18 (I : IM) {j : Nat} (x : Int32) (h : j < cl (I 23 1)) : cE (up2 I 24 j x) = up2 (cE I) 18 j x := (cE_18 I _).trans (by rw [mk_up2 h]; rfl)
theorem cE_u21 (I : IM) {j : Nat} (x : Int32) (h : j < cl (I 45 3)) : cE (up2 I 54 j x) = up2 (cE I) 21 j x := (cE_21 I _).trans (by rw [mk_up2 h]; rfl)
theorem cE_u22 (I : IM) {j : Nat} (x : Int32) (h : j < cl (I 49 4)) : cE (up2 I 50 j x) = up2 (cE I) 22 j x := (cE_22 I _).trans (by rw [mk_up2 h]; rfl)
theorem cE_u23 (I : IM) {j : Nat} (x : Int32) (h : j < cl (I 49 4)) : cE (up2 I 51 j x) = up2 (cE I) 23 j x := (cE_23 I _).trans (by rw [mk_up2 h]; rfl)
theorem cE_u24 (I : IM) {j : Nat} (x : Int32) (h : j < cl (I 49 4)) : cE (up2 I 52 j x) = up2 (cE I) 24 j x := (cE_24 I _).trans (by rw [mk_up2 h]; rfl)
theorem cE_u25 (I : IM) {j : Nat} (x : Int32) (h : j < cl (I 49 4)) : cE (up2 I 53 j x) = up2 (cE I) 25 j x := (cE_25 I _).trans (by rw [mk_up2 h]; rfl)
theorem rE_u0 (I : IM) (j : Nat) (x : Int32) : rE (up2 I 60 j x) = up2 (rE I) 0 j x := rE_0 I _
theorem rE_u1 (I : IM) (j : Nat) (x : Int32) : rE (up2 I 61 j x) = up2 (rE I) 1 j x := rE_1 I _
theorem rE_u2 (I : IM) (j : Nat) (x : Int32) : rE (up2 I 62 j x) = up2 (rE I) 2 j x := rE_2 I _
theorem rE_u3 (I : IM) (j : Nat) (x : Int32) : rE (up2 I 63 j x) = up2 (rE I) 3 j x := rE_3 I _
theorem rE_u4 (I : IM) (j : Nat) (x : Int32) : rE (up2 I 64 j x) = up2 (rE I) 4 j x := rE_4 I _
theorem rE_u5 (I : IM) (j : Nat) (x : Int32) : rE (up2 I 65 j x) = up2 (rE I) 5 j x := rE_5 I _
theorem rE_u6 (I : IM) (j : Nat) (x : Int32) : rE (up2 I 66 j x) = up2 (rE I) 6 j x := rE_6 I _
theorem rE_u7 (I : IM) (j : Nat) (x : Int32) : rE (up2 I 67 j x) = up2 (rE I) 7 j x := rE_7 I _
theorem rE_u8 (I : IM) (j : Nat) (x : Int32) : rE (up2 I 68 j x) = up2 (rE I) 8 j x := rE_8 I _
theorem rE_u10 (I : IM) (j : Nat) (x : Int32) : rE (up2 I 70 j x) = up2 (rE I) 10 j x := rE_10 I _
theorem rE_u11 (I : IM) (j : Nat) (x : Int32) : rE (up2 I 71 j x) = up2 (rE I) 11 j x := rE_11 I _
theorem rE_u12 (I : IM) (j : Nat) (x : Int32) : rE (up2 I 72 j x) = up2 (rE I) 12 j x := rE_12 I _
theorem rE_u13 (I : IM) (j : Nat) (x : Int32) : rE (up2 I 73 j x) = up2 (rE I) 13 j x := rE_13 I _
theorem rE_u20 (I : IM) (j : Nat) (x : Int32) : rE (up2 I 82 j x) = up2 (rE I) 20 j x := rE_20 I _
theorem rE_u26 (I : IM) (j : Nat) (x : Int32) : rE (up2 I 88 j x) = up2 (rE I) 26 j x := rE_26 I _
theorem rE_u27 (I : IM) (j : Nat) (x : Int32) : rE (up2 I 89 j x) = up2 (rE I) 27 j x := rE_27 I _
theorem rE_u28 (I : IM) (j : Nat) (x : Int32) : rE (up2 I 90 j x) = up2 (rE I) 28 j x := rE_28 I _
theorem rE_u9 (I : IM) {j : Nat} (x : Int32) (h : j < cl (I 59 3)) : rE (up2 I 69 j x) = up2 (rE I) 9 j x := (rE_9 I _).trans (by rw [mk_up2 h]; rfl)
theorem rE_u14 (I : IM) {j : Nat} (x : Int32) (h : j < cl (I 59 17)) : rE (up2 I 74 j x) = up2 (rE I) 14 j x := (rE_14 I _).trans (by rw [mk_up2 h]; rfl)
theorem rE_u15 (I : IM) {j : Nat} (x : Int32) (h : j < cl (I 59 17)) : rE (up2 I 75 j x) = up2 (rE I) 15 j x := (rE_15 I _).trans (by rw [mk_up2 h]; rfl)
theorem rE_u16 (I : IM) {j : Nat} (x : Int32) (h : j < cl (I 59 17)) : rE (up2 I 76 j x) = up2 (rE I) 16 j x := (rE_16 I _).trans (by rw [mk_up2 h]; rfl)
theorem rE_u17 (I : IM) {j : Nat} (x : Int32) (h : j < cl (I 59 17)) : rE (up2 I 77 j x) = up2 (rE I) 17 j x := (rE_17 I _).trans (by rw [mk_up2 h]; rfl)
theorem rE_u18 (I : IM) {j : Nat} (x : Int32) (h : j < cl (I 59 23)) : rE (up2 I 78 j x) = up2 (rE I) 18 j x := (rE_18 I _).trans (by rw [mk_up2 h]; rfl)
theorem rE_u21 (I : IM) {j : Nat} (x : Int32) (h : j < cl (I 59 30)) : rE (up2 I 83 j x) = up2 (rE I) 21 j x := (rE_21 I _).trans (by rw [mk_up2 h]; rfl)
theorem rE_u22 (I : IM) {j : Nat} (x : Int32) (h : j < cl (I 59 31)) : rE (up2 I 84 j x) = up2 (rE I) 22 j x := (rE_22 I _).trans (by rw [mk_up2 h]; rfl)
theorem rE_u23 (I : IM) {j : Nat} (x : Int32) (h : j < cl (I 59 31)) : rE (up2 I 85 j x) = up2 (rE I) 23 j x := (rE_23 I _).trans (by rw [mk_up2 h]; rfl)
theorem rE_u24 (I : IM) {j : Nat} (x : Int32) (h : j < cl (I 59 31)) : rE (up2 I 86 j x) = up2 (rE I) 24 j x := (rE_24 I _).trans (by rw [mk_up2 h]; rfl)
theorem rE_u25 (I : IM) {j : Nat} (x : Int32) (h : j < cl (I 59 31)) : rE (up2 I 87 j x) = up2 (rE I) 25 j x := (rE_25 I _).trans (by rw [mk_up2 h]; rfl)
end
section
-- 32.w1
/-! the class's calls: the town -/
abbrev inR (x lo hi : Int32) : Prop := lo ≤ x ∧ x ≤ hi
theorem inR_of {x M : Int32} {n : Nat} (hM : M.toInt = n) (h : inR x 0 M) : ∃ k, k ≤ n ∧ x = nI k := nI_of2 hM (Int32.not_lt.mpr h.1) h.2
/-- a call that answers 'ans', and the state is 'upd' then -/
def cSp (args : List Value) (ans : IM → Value) (upd : IM → IM) : SpT := fun as S I L Post => as = .ref 0 :: args ∧ S = S1 ∧ cOk I ∧ ∀ I' : IM, (∀ k, 59 ≤ k → I' k = I k) → cE I' = upd (cE I) → Post (some (ans (cE I))) S1 I' L
abbrev farN (u v d : Int32) : Prop := ¬ inR u 0 5 ∨ ¬ inR v 0 5 ∨ u = v
def farS (E : IM) (u v d : Int32) : Int32 := if farN u v d then -1 else if ¬ inR d 0 9 then -2 else E 0 (cl u * 6 + cl v)
def farU (E : IM) (u v d : Int32) : IM := if farN u v d then E else if ¬ inR d 0 9 then E else up2 (up2 E 0 (cl u * 6 + cl v) d) 0 (cl v * 6 + cl u) d
def sp_W_far : SpT := fun as S I L Post => ∃ u v d : Int32, cSp [.int u, .int v, .int d] (fun E => .int (farS E u v d)) (fun E => farU E u v d) as S I L Post
set_option maxHeartbeats 4000000 in
set_option maxRecDepth 100000 in
theorem c_W_far : Con mW_far 3 0 0 sp_W_far := by
  refine con_of_X rfl fun G as S I L Post hs => ?_
  obtain ⟨u, v, d, rfl, rfl, hok, h1⟩ := hs
  dsimp only at h1
  refine ⟨1, Nat.le_of_ble_eq_true rfl, ?_⟩
  show X mW_far G _ S1 I L 0 [.ref 0, .int u, .int v, .int d, .null] [] Post
  have none1 : farN u v d → X mW_far G (3, 0, 0) S1 I L 23 [.ref 0, .int u, .int v, .int d, .null] [] Post := by
    intro hc
    refine x_iconst (v := -1) dW_far_23 rfl ?_
    -- at 24: .ireturn
    refine x_ireturn dW_far_24 rfl rfl ?_
    have := h1 I (fun _ _ => rfl) (by rw [farU, if_pos hc])
    rw [farS, if_pos hc] at this
    exact this
  refine x_iload_n dW_far_0 rfl ?_
  refine x_iconst (v := 0) dW_far_1 rfl ?_
  refine x_iconst (v := 5) dW_far_2 rfl ?_
  -- at 3: .invokestatic 101
  refine x_callS_3 c_W_within ok_W_within ml_W_101 dW_far_3 rfl rfl ?_
  refine ⟨_, _, _, rfl, fun hu => ?_, fun hu => ?_⟩
  · refine x_if_eq (tgt := 23) dW_far_6 (by decide) (fun h => absurd h (by decide)) (fun _ => ?_)
    refine x_iload_n dW_far_9 rfl ?_
    refine x_iconst (v := 0) dW_far_10 rfl ?_
    refine x_iconst (v := 5) dW_far_11 rfl ?_
    -- at 12: .invokestatic 101
    refine x_callS_3 c_W_within ok_W_within ml_W_101 dW_far_12 rfl rfl ?_
    refine ⟨_, _, _, rfl, fun hv => ?_, fun hv => ?_⟩
    · refine x_if_eq (tgt := 23) dW_far_15 (by decide) (fun h => absurd h (by decide)) (fun _ => ?_)
      refine x_iload_n dW_far_18 rfl ?_
      refine x_iload_n dW_far_19 rfl ?_
      -- at 20: .if_icmp .ne 5
      refine x_icmp_ne (tgt := 25) dW_far_20 (by decide) (fun c1 => ?_) (fun c1 => ?_)
      · have hn : ¬ farN u v d := fun z => z.elim (fun y => y hu) (fun y => y.elim (fun x => x hv) c1)
        rw [farS, if_neg hn, farU, if_neg hn] at h1
        refine x_iload_n dW_far_25 rfl ?_
        refine x_iconst (v := 0) dW_far_26 rfl ?_
        refine x_bipush (v := 9) dW_far_27 rfl ?_
        -- at 29: .invokestatic 101
        refine x_callS_3 c_W_within ok_W_within ml_W_101 dW_far_29 rfl rfl ?_
        refine ⟨_, _, _, rfl, fun hd => ?_, fun hd => ?_⟩
        · refine x_if_ne (tgt := 38) dW_far_32 (by decide) (fun _ => ?_) (fun h => absurd h (by decide))
          obtain ⟨a, ha, rfl⟩ := inR_of (n := 5) (by decide) hu
          obtain ⟨b, hb, rfl⟩ := inR_of (n := 5) (by decide) hv
          rw [if_neg (not_not_intro hd), if_neg (not_not_intro hd), cl_nI (by omega), cl_nI (by omega)] at h1
          refine x_aload_n dW_far_38 rfl ?_
          refine x_getR fl_W_12 rfl dW_far_39 rfl rfl rfl ?_
          refine x_iload_n dW_far_42 rfl ?_
          refine x_iload_n dW_far_43 rfl ?_
          -- at 44: .invokevirtual 105
          refine x_callV_2 c_Town_between ok_Town_between ml_W_105 dW_far_44 rfl rfl rfl rfl rfl ?_
          refine ⟨a, b, rfl, rfl, by omega, by omega, ?_⟩
          refine x_istore_4 dW_far_47 rfl rfl ?_
          refine x_aload_n dW_far_49 rfl ?_
          refine x_getR fl_W_12 rfl dW_far_50 rfl rfl rfl ?_
          refine x_iload_n dW_far_53 rfl ?_
          refine x_iload_n dW_far_54 rfl ?_
          refine x_iload_n dW_far_55 rfl ?_
          -- at 56: .invokevirtual 109
          refine x_callV_3 c_Town_setBetween ok_Town_setBetween ml_W_109 dW_far_56 rfl rfl rfl rfl rfl ?_
          refine ⟨a, b, d, rfl, rfl, by omega, by omega, ?_⟩
          refine x_iload dW_far_59 rfl ?_
          -- at 61: .ireturn
          refine x_ireturn dW_far_61 rfl rfl ?_
          refine h1 _ (fun k hk => ?_) ?_
          · rw [up2_n _ _ _ (by omega), up2_n _ _ _ (by omega)]
          · rw [cE_u0, cE_u0]
        · refine x_if_ne (tgt := 38) dW_far_32 (by decide) (fun h => absurd (by decide) h) (fun _ => ?_)
          refine x_bipush (v := -2) dW_far_35 rfl ?_
          -- at 37: .ireturn
          refine x_ireturn dW_far_37 rfl rfl ?_
          have := h1 I (fun _ _ => rfl) (by rw [if_pos hd])
          rw [if_pos hd] at this
          exact this
      · exact none1 (Or.inr (Or.inr c1))
    · refine x_if_eq (tgt := 23) dW_far_15 (by decide) (fun _ => ?_) (fun h => absurd (by decide) h)
      exact none1 (Or.inr (Or.inl hv))
  · refine x_if_eq (tgt := 23) dW_far_6 (by decide) (fun _ => ?_) (fun h => absurd (by decide) h)
    exact none1 (Or.inl hu)
def hushS (E : IM) (t v : Int32) : Int32 := if ¬ inR t 0 5 then -1 else if ¬ inR v 0 9 then -2 else E 1 (cl t)
def hushU (E : IM) (t v : Int32) : IM := if ¬ inR t 0 5 then E else if ¬ inR v 0 9 then E else up2 E 1 (cl t) v
def sp_W_hush : SpT := fun as S I L Post => ∃ t v : Int32, cSp [.int t, .int v] (fun E => .int (hushS E t v)) (fun E => hushU E t v) as S I L Post
set_option maxHeartbeats 4000000 in
set_option maxRecDepth 100000 in
theorem c_W_hush : Con mW_hush 3 0 0 sp_W_hush := by
  refine con_of_X rfl fun G as S I L Post hs => ?_
  obtain ⟨t, v, rfl, rfl, hok, h1⟩ := hs
  dsimp only at h1
  refine ⟨1, Nat.le_of_ble_eq_true rfl, ?_⟩
  show X mW_hush G _ S1 I L 0 [.ref 0, .int t, .int v, .null] [] Post
  refine x_iload_n dW_hush_0 rfl ?_
  refine x_iconst (v := 0) dW_hush_1 rfl ?_
  refine x_iconst (v := 5) dW_hush_2 rfl ?_
  -- at 3: .invokestatic 101
  refine x_callS_3 c_W_within ok_W_within ml_W_101 dW_hush_3 rfl rfl ?_
  refine ⟨_, _, _, rfl, fun hu => ?_, fun hu => ?_⟩
  · refine x_if_ne (tgt := 11) dW_hush_6 (by decide) (fun _ => ?_) (fun h => absurd h (by decide))
    rw [hushS, hushU, if_neg (not_not_intro hu), if_neg (not_not_intro hu)] at h1
    refine x_iload_n dW_hush_11 rfl ?_
    refine x_iconst (v := 0) dW_hush_12 rfl ?_
    refine x_bipush (v := 9) dW_hush_13 rfl ?_
    -- at 15: .invokestatic 101
    refine x_callS_3 c_W_within ok_W_within ml_W_101 dW_hush_15 rfl rfl ?_
    refine ⟨_, _, _, rfl, fun hv => ?_, fun hv => ?_⟩
    · refine x_if_ne (tgt := 24) dW_hush_18 (by decide) (fun _ => ?_) (fun h => absurd h (by decide))
      obtain ⟨a, ha, rfl⟩ := inR_of (n := 5) (by decide) hu
      rw [if_neg (not_not_intro hv), if_neg (not_not_intro hv), cl_nI (by omega)] at h1
      refine x_aload_n dW_hush_24 rfl ?_
      refine x_getR fl_W_12 rfl dW_hush_25 rfl rfl rfl ?_
      refine x_getR fl_W_113 rfl dW_hush_28 rfl rfl rfl ?_
      refine x_iload_n dW_hush_31 rfl ?_
      refine x_ialdJ dW_hush_32 rfl rfl rfl (by omega) ?_
      refine x_istoren_3 dW_hush_33 rfl rfl ?_
      refine x_aload_n dW_hush_34 rfl ?_
      refine x_getR fl_W_12 rfl dW_hush_35 rfl rfl rfl ?_
      refine x_getR fl_W_113 rfl dW_hush_38 rfl rfl rfl ?_
      refine x_iload_n dW_hush_41 rfl ?_
      refine x_iload_n dW_hush_42 rfl ?_
      refine x_iastJ dW_hush_43 rfl rfl rfl (by omega) ?_
      refine x_iload_n dW_hush_44 rfl ?_
      -- at 45: .ireturn
      refine x_ireturn dW_hush_45 rfl rfl ?_
      exact h1 _ (fun k hk => by rw [up2_n _ _ _ (by omega)]) (cE_u1 _ _ _)
    · refine x_if_ne (tgt := 24) dW_hush_18 (by decide) (fun h => absurd (by decide) h) (fun _ => ?_)
      rw [if_pos hv, if_pos hv] at h1
      refine x_bipush (v := -2) dW_hush_21 rfl ?_
      -- at 23: .ireturn
      refine x_ireturn dW_hush_23 rfl rfl ?_
      exact h1 I (fun _ _ => rfl) rfl
  · refine x_if_ne (tgt := 11) dW_hush_6 (by decide) (fun h => absurd (by decide) h) (fun _ => ?_)
    rw [hushS, hushU, if_pos hu, if_pos hu] at h1
    refine x_iconst (v := -1) dW_hush_9 rfl ?_
    -- at 10: .ireturn
    refine x_ireturn dW_hush_10 rfl rfl ?_
    exact h1 I (fun _ _ => rfl) rfl
def strideS (E : IM) (v : Int32) : Int32 := if ¬ inR v 0 9 then -2 else E 29 0
def strideU (E : IM) (v : Int32) : IM := if ¬ inR v 0 9 then E else up2 E 29 0 v
def sp_W_stride : SpT := fun as S I L Post => ∃ v : Int32, cSp [.int v] (fun E => .int (strideS E v)) (fun E => strideU E v) as S I L Post
set_option maxHeartbeats 4000000 in
set_option maxRecDepth 100000 in
theorem c_W_stride : Con mW_stride 3 0 0 sp_W_stride := by
  refine con_of_X rfl fun G as S I L Post hs => ?_
  obtain ⟨v, rfl, rfl, hok, h1⟩ := hs
  dsimp only at h1
  refine ⟨1, Nat.le_of_ble_eq_true rfl, ?_⟩
  show X mW_stride G _ S1 I L 0 [.ref 0, .int v, .null] [] Post
  refine x_iload_n dW_stride_0 rfl ?_
  refine x_iconst (v := 0) dW_stride_1 rfl ?_
  refine x_bipush (v := 9) dW_stride_2 rfl ?_
  -- at 4: .invokestatic 101
  refine x_callS_3 c_W_within ok_W_within ml_W_101 dW_stride_4 rfl rfl ?_
  refine ⟨_, _, _, rfl, fun hu => ?_, fun hu => ?_⟩
  · refine x_if_ne (tgt := 13) dW_stride_7 (by decide) (fun _ => ?_) (fun h => absurd h (by decide))
    rw [strideS, strideU, if_neg (not_not_intro hu), if_neg (not_not_intro hu)] at h1
    refine x_aload_n dW_stride_13 rfl ?_
    refine x_getR fl_W_12 rfl dW_stride_14 rfl rfl rfl ?_
    refine x_getI fl_W_117 rfl dW_stride_17 rfl rfl ?_
    refine x_istoren_2 dW_stride_20 rfl rfl ?_
    refine x_aload_n dW_stride_21 rfl ?_
    refine x_getR fl_W_12 rfl dW_stride_22 rfl rfl rfl ?_
    refine x_iload_n dW_stride_25 rfl ?_
    refine x_putI fl_W_117 rfl dW_stride_26 (by decide) rfl rfl rfl rfl ?_
    refine x_iload_n dW_stride_29 rfl ?_
    -- at 30: .ireturn
    refine x_ireturn dW_stride_30 rfl rfl ?_
    exact h1 _ (fun k hk => by rw [up2_n _ _ _ (by omega)]) (cE_s0 _ _)
  · refine x_if_ne (tgt := 13) dW_stride_7 (by decide) (fun h => absurd (by decide) h) (fun _ => ?_)
    rw [strideS, strideU, if_pos hu, if_pos hu] at h1
    refine x_bipush (v := -2) dW_stride_10 rfl ?_
    -- at 12: .ireturn
    refine x_ireturn dW_stride_12 rfl rfl ?_
    exact h1 I (fun _ _ => rfl) rfl
def countS (E : IM) (w : Int32) : Int32 := if w = 0 then E 29 0 else if w = 1 then E 29 1 else if w = 2 then E 29 2 else if w = 3 then E 29 3 else if w = 4 then E 29 4 else if w = 5 then E 29 5 else if w = 6 then E 29 6 else -2
def sp_W_count : SpT := fun as S I L Post => ∃ w : Int32, cSp [.int w] (fun E => .int (countS E w)) (fun E => E) as S I L Post
theorem toInt_out {w : Int32} {n : Nat} (hn : n < 2 ^ 31) (h : ∀ k, k ≤ n → ¬ w = nI k) : w.toInt < 0 ∨ (n : Int) < w.toInt := by
  by_cases h0 : 0 ≤ w.toInt
  · refine Or.inr ?_
    by_cases h1 : (n : Int) < w.toInt
    · exact h1
    · exfalso
      have hw : w = nI w.toInt.toNat := by
        apply Int32.toInt_inj.mp
        rw [nI_toInt (by omega)]
        omega
      exact h w.toInt.toNat (by omega) hw
  · exact Or.inl (by omega)
set_option maxHeartbeats 4000000 in
set_option maxRecDepth 100000 in
theorem c_W_count : Con mW_count 2 0 0 sp_W_count := by
  refine con_of_X rfl fun G as S I L Post hs => ?_
  obtain ⟨w, rfl, rfl, hok, h1⟩ := hs
  dsimp only at h1
  have h1 := h1 I (fun _ _ => rfl) rfl
  refine ⟨0, Nat.le_of_ble_eq_true rfl, ?_⟩
  show X mW_count G _ S1 I L 0 [.ref 0, .int w] [] Post
  refine x_iload_n dW_count_0 rfl ?_
  -- at 1: .tableswitch 99 0 6 #[43, 51, 59, 67, 75, 83, 91]
  by_cases w0 : w = 0
  · subst w0
    refine x_tableIn (tgt := 44) dW_count_1 (by decide) (by decide) rfl (by decide) ?_
    refine x_aload_n dW_count_44 rfl ?_
    refine x_getR fl_W_12 rfl dW_count_45 rfl rfl rfl ?_
    refine x_getI fl_W_117 rfl dW_count_48 rfl rfl ?_
    -- at 51: .ireturn
    refine x_ireturn dW_count_51 rfl rfl ?_
    exact h1
  by_cases w1 : w = 1
  · subst w1
    refine x_tableIn (tgt := 52) dW_count_1 (by decide) (by decide) rfl (by decide) ?_
    refine x_aload_n dW_count_52 rfl ?_
    refine x_getR fl_W_19 rfl dW_count_53 rfl rfl rfl ?_
    refine x_getI fl_W_121 rfl dW_count_56 rfl rfl ?_
    -- at 59: .ireturn
    refine x_ireturn dW_count_59 rfl rfl ?_
    exact h1
  by_cases w2 : w = 2
  · subst w2
    refine x_tableIn (tgt := 60) dW_count_1 (by decide) (by decide) rfl (by decide) ?_
    refine x_aload_n dW_count_60 rfl ?_
    refine x_getR fl_W_26 rfl dW_count_61 rfl rfl rfl ?_
    refine x_getI fl_W_124 rfl dW_count_64 rfl rfl ?_
    -- at 67: .ireturn
    refine x_ireturn dW_count_67 rfl rfl ?_
    exact h1
  by_cases w3 : w = 3
  · subst w3
    refine x_tableIn (tgt := 68) dW_count_1 (by decide) (by decide) rfl (by decide) ?_
    refine x_aload_n dW_count_68 rfl ?_
    refine x_getR fl_W_33 rfl dW_count_69 rfl rfl rfl ?_
    refine x_getI fl_W_125 rfl dW_count_72 rfl rfl ?_
    -- at 75: .ireturn
    refine x_ireturn dW_count_75 rfl rfl ?_
    exact h1
  by_cases w4 : w = 4
  · subst w4
    refine x_tableIn (tgt := 76) dW_count_1 (by decide) (by decide) rfl (by decide) ?_
    refine x_aload_n dW_count_76 rfl ?_
    refine x_getR fl_W_47 rfl dW_count_77 rfl rfl rfl ?_
    refine x_getI fl_W_126 rfl dW_count_80 rfl rfl ?_
    -- at 83: .ireturn
    refine x_ireturn dW_count_83 rfl rfl ?_
    exact h1
  by_cases w5 : w = 5
  · subst w5
    refine x_tableIn (tgt := 84) dW_count_1 (by decide) (by decide) rfl (by decide) ?_
    refine x_aload_n dW_count_84 rfl ?_
    refine x_getR fl_W_47 rfl dW_count_85 rfl rfl rfl ?_
    refine x_getI fl_W_127 rfl dW_count_88 rfl rfl ?_
    -- at 91: .ireturn
    refine x_ireturn dW_count_91 rfl rfl ?_
    exact h1
  by_cases w6 : w = 6
  · subst w6
    refine x_tableIn (tgt := 92) dW_count_1 (by decide) (by decide) rfl (by decide) ?_
    refine x_aload_n dW_count_92 rfl ?_
    refine x_getR fl_W_40 rfl dW_count_93 rfl rfl rfl ?_
    refine x_getI fl_W_130 rfl dW_count_96 rfl rfl ?_
    -- at 99: .ireturn
    refine x_ireturn dW_count_99 rfl rfl ?_
    exact h1
  have ho := toInt_out (w := w) (n := 6) (by omega) (fun k hk => by
    rcases (show k = 0 ∨ k = 1 ∨ k = 2 ∨ k = 3 ∨ k = 4 ∨ k = 5 ∨ k = 6 by omega) with rfl | rfl | rfl | rfl | rfl | rfl | rfl <;> assumption)
  refine x_tableOut (tgt := 100) dW_count_1 ho (by decide) ?_
  refine x_bipush (v := -2) dW_count_100 rfl ?_
  -- at 102: .ireturn
  refine x_ireturn dW_count_102 rfl rfl ?_
  rw [countS, if_neg w0, if_neg w1, if_neg w2, if_neg w3, if_neg w4, if_neg w5, if_neg w6] at h1
  exact h1
def forceS (E : IM) (t : Int32) : Int32 := if ¬ inR t 0 (E 29 4 - 1) then -2 else E 29 5
def forceU (E : IM) (t : Int32) : IM := if ¬ inR t 0 (E 29 4 - 1) then E else up2 E 29 5 t
def sp_W_force : SpT := fun as S I L Post => ∃ t : Int32, cSp [.int t] (fun E => .int (forceS E t)) (fun E => forceU E t) as S I L Post
set_option maxHeartbeats 4000000 in
set_option maxRecDepth 100000 in
theorem c_W_force : Con mW_force 3 0 0 sp_W_force := by
  refine con_of_X rfl fun G as S I L Post hs => ?_
  obtain ⟨t, rfl, rfl, hok, h1⟩ := hs
  dsimp only at h1
  refine ⟨1, Nat.le_of_ble_eq_true rfl, ?_⟩
  show X mW_force G _ S1 I L 0 [.ref 0, .int t, .null] [] Post
  refine x_iload_n dW_force_0 rfl ?_
  refine x_iconst (v := 0) dW_force_1 rfl ?_
  refine x_aload_n dW_force_2 rfl ?_
  refine x_getR fl_W_47 rfl dW_force_3 rfl rfl rfl ?_
  refine x_getI fl_W_126 rfl dW_force_6 rfl rfl ?_
  refine x_iconst (v := 1) dW_force_9 rfl ?_
  refine x_isub dW_force_10 ?_
  -- at 11: .invokestatic 101
  refine x_callS_3 c_W_within ok_W_within ml_W_101 dW_force_11 rfl rfl ?_
  refine ⟨_, _, _, rfl, fun hu => ?_, fun hu => ?_⟩
  · have hu : inR t 0 (cE I 29 4 - 1) := hu
    refine x_if_ne (tgt := 20) dW_force_14 (by decide) (fun _ => ?_) (fun h => absurd h (by decide))
    rw [forceS, forceU, if_neg (not_not_intro hu), if_neg (not_not_intro hu)] at h1
    refine x_aload_n dW_force_20 rfl ?_
    refine x_getR fl_W_47 rfl dW_force_21 rfl rfl rfl ?_
    refine x_getI fl_W_127 rfl dW_force_24 rfl rfl ?_
    refine x_istoren_2 dW_force_27 rfl rfl ?_
    refine x_aload_n dW_force_28 rfl ?_
    refine x_getR fl_W_47 rfl dW_force_29 rfl rfl rfl ?_
    refine x_iload_n dW_force_32 rfl ?_
    refine x_putI fl_W_127 rfl dW_force_33 (by decide) rfl rfl rfl rfl ?_
    refine x_iload_n dW_force_36 rfl ?_
    -- at 37: .ireturn
    refine x_ireturn dW_force_37 rfl rfl ?_
    exact h1 _ (fun k hk => by rw [up2_n _ _ _ (by omega)]) (cE_s5 _ _)
  · have hu : ¬ inR t 0 (cE I 29 4 - 1) := hu
    refine x_if_ne (tgt := 20) dW_force_14 (by decide) (fun h => absurd (by decide) h) (fun _ => ?_)
    rw [forceS, forceU, if_pos hu, if_pos hu] at h1
    refine x_bipush (v := -2) dW_force_17 rfl ?_
    -- at 19: .ireturn
    refine x_ireturn dW_force_19 rfl rfl ?_
    exact h1 I (fun _ _ => rfl) rfl
end
section
-- 33.w2
/-! the class's calls: people, promises, sayings -/
theorem has_nat {p : Int32} {n : Nat} (hn : n ≤ 1000) (h : inR p 0 (nI n - 1)) : ∃ k, k < n ∧ p = nI k := by
  by_cases h0 : n = 0
  · subst h0
    exact absurd (Int32.le_trans h.1 h.2) (by decide)
  · have e : nI n - 1 = nI (n - 1) := pk_sub (b := 1) (by omega)
    rw [e] at h
    obtain ⟨k, hk, ek⟩ := nI_of2 (x := p) (M := nI (n - 1)) (n := n - 1) (nI_toInt (by omega)) (Int32.not_lt.mpr h.1) h.2
    exact ⟨k, by omega, ek⟩
abbrev perC (k w ws ld : Int32) : Prop := inR k 0 5 ∧ inR w 0 599 ∧ inR ws 0 255 ∧ inR ld 100 999
def personS (E : IM) (k w ws ld : Int32) : Int32 := if ¬ perC k w ws ld then -2 else if ¬ E 29 1 < 8 then -4 else E 29 1
def addP (E : IM) (n : Nat) (k w ws ld : Int32) : IM := up2 (up2 (up2 (up2 (up2 (up2 (up2 (up2 (up2 E 2 n k) 3 n (w / 100)) 4 n (rem (w / 10) 10)) 5 n (rem w 10)) 6 n ws) 7 n (ld / 100)) 8 n (rem ld 100)) 9 n (-1)) 29 1 (nI n + 1)
def personU (E : IM) (k w ws ld : Int32) : IM := if ¬ perC k w ws ld then E else if ¬ E 29 1 < 8 then E else addP E (pN E) k w ws ld
theorem cE_addP (I : IM) (k w ws ld : Int32) (hn : I 4 8 = nI (pN (cE I))) (h8 : pN (cE I) ≤ 8) : cE (cFadd I (pN (cE I)) k w ws ld) = addP (cE I) (pN (cE I)) k w ws ld := by
  have e0 : cl (I 4 8) = pN (cE I) := rfl
  generalize pN (cE I) = n at hn h8 e0 ⊢
  unfold cFadd addP
  rw [cE_n1, show nI n + 1 = nI (n + 1) from nI_1 n, cl_nI (by omega), show up2 (up2 (up2 (up2 (up2 (up2 (up2 (up2 I 5 n k) 6 n (w / 100)) 7 n (rem (w / 10) 10)) 8 n (rem w 10)) 9 n ws) 10 n (ld / 100)) 11 n (rem ld 100)) 12 n (-1) 12 = up1 (I 12) n (-1) by simp only [up2_n, up2_s, ne_eq, Nat.reduceEqDiff, not_false_eq_true], mk_up]
  rw [show ∀ J : IM, cE (up2 J 12 n (-1)) = upr (cE J) 9 (mk (cl (J 4 8)) (up1 (J 12) n (-1))) from fun J => cE_9 J _]
  rw [cE_u8, cE_u7, cE_u6, cE_u5, cE_u4, cE_u3, cE_u2]
  funext a
  by_cases h9 : a = 9
  · subst h9
    simp only [up2_n, up2_s, ne_eq, Nat.reduceEqDiff, not_false_eq_true, upr_s, upr_n]
    rw [show cE I 9 = mk (cl (I 4 8)) (I 12) from rfl, e0]
  · by_cases h29 : a = 29
    · subst h29
      simp only [up2_n, up2_s, ne_eq, Nat.reduceEqDiff, not_false_eq_true, upr_s, upr_n]
    · rw [upr_n _ _ h9, up2_n _ _ _ h29, upr_n _ _ h9, up2_n _ _ _ h29, up2_n _ _ _ h9]
def sp_W_person : SpT := fun as S I L Post => ∃ k w ws ld : Int32, cSp [.int k, .int w, .int ws, .int ld] (fun E => .int (personS E k w ws ld)) (fun E => personU E k w ws ld) as S I L Post
set_option maxHeartbeats 4000000 in
set_option maxRecDepth 100000 in
theorem c_W_person : Con mW_person 4 0 0 sp_W_person := by
  refine con_of_X rfl fun G as S I L Post hs => ?_
  obtain ⟨k, w, ws, ld, rfl, rfl, hok, h1⟩ := hs
  dsimp only at h1
  refine ⟨0, Nat.le_of_ble_eq_true rfl, ?_⟩
  show X mW_person G _ S1 I L 0 [.ref 0, .int k, .int w, .int ws, .int ld] [] Post
  have hn : I 4 8 = nI (pN (cE I)) := hok.1.1
  have h8 := hok.1.2.1
  have bad : ¬ perC k w ws ld → X mW_person G (4, 0, 0) S1 I L 40 [.ref 0, .int k, .int w, .int ws, .int ld] [] Post := by
    intro hc
    rw [personS, personU, if_pos hc, if_pos hc] at h1
    refine x_bipush (v := -2) dW_person_40 rfl ?_
    -- at 42: .ireturn
    refine x_ireturn dW_person_42 rfl rfl ?_
    exact h1 I (fun _ _ => rfl) rfl
  refine x_iload_n dW_person_0 rfl ?_
  refine x_iconst (v := 0) dW_person_1 rfl ?_
  refine x_iconst (v := 5) dW_person_2 rfl ?_
  -- at 3: .invokestatic 101
  refine x_callS_3 c_W_within ok_W_within ml_W_101 dW_person_3 rfl rfl ?_
  refine ⟨_, _, _, rfl, fun a1 => ?_, fun a1 => ?_⟩
  · refine x_if_eq (tgt := 40) dW_person_6 (by decide) (fun h => absurd h (by decide)) (fun _ => ?_)
    refine x_iload_n dW_person_9 rfl ?_
    refine x_iconst (v := 0) dW_person_10 rfl ?_
    refine x_sipush (v := 599) dW_person_11 rfl ?_
    -- at 14: .invokestatic 101
    refine x_callS_3 c_W_within ok_W_within ml_W_101 dW_person_14 rfl rfl ?_
    refine ⟨_, _, _, rfl, fun a2 => ?_, fun a2 => ?_⟩
    · refine x_if_eq (tgt := 40) dW_person_17 (by decide) (fun h => absurd h (by decide)) (fun _ => ?_)
      refine x_iload_n dW_person_20 rfl ?_
      -- at 21: .invokestatic 133
      refine x_callS_1 c_W_isByte ok_W_isByte ml_W_133 dW_person_21 rfl rfl ?_
      refine ⟨_, rfl, fun a3 => ?_, fun a3 => ?_⟩
      · refine x_if_eq (tgt := 40) dW_person_24 (by decide) (fun h => absurd h (by decide)) (fun _ => ?_)
        refine x_iload dW_person_27 rfl ?_
        refine x_bipush (v := 100) dW_person_29 rfl ?_
        refine x_sipush (v := 999) dW_person_31 rfl ?_
        -- at 34: .invokestatic 101
        refine x_callS_3 c_W_within ok_W_within ml_W_101 dW_person_34 rfl rfl ?_
        refine ⟨_, _, _, rfl, fun a4 => ?_, fun a4 => ?_⟩
        · refine x_if_ne (tgt := 43) dW_person_37 (by decide) (fun _ => ?_) (fun h => absurd h (by decide))
          have hc : perC k w ws ld := ⟨a1, a2, a3, a4⟩
          rw [personS, personU, if_neg (not_not_intro hc), if_neg (not_not_intro hc)] at h1
          refine x_aload_n dW_person_43 rfl ?_
          refine x_getR fl_W_19 rfl dW_person_44 rfl rfl rfl ?_
          refine x_getI fl_W_121 rfl dW_person_47 rfl rfl ?_
          refine x_bipush (v := 8) dW_person_50 rfl ?_
          -- at 52: .if_icmp .lt 6
          refine x_icmp_lt (tgt := 58) dW_person_52 (by decide) (fun c1 => ?_) (fun c1 => ?_)
          · rw [if_neg (not_not_intro (show cE I 29 1 < 8 from c1)), if_neg (not_not_intro (show cE I 29 1 < 8 from c1))] at h1
            refine x_aload_n dW_person_58 rfl ?_
            refine x_getR fl_W_19 rfl dW_person_59 rfl rfl rfl ?_
            refine x_iload_n dW_person_62 rfl ?_
            refine x_iload_n dW_person_63 rfl ?_
            refine x_iload_n dW_person_64 rfl ?_
            refine x_iload dW_person_65 rfl ?_
            -- at 67: .invokevirtual 140
            have hlt : pN (cE I) < 8 := by
              rw [hn] at c1
              exact (nI_ltI (b := 8) (by omega) (by omega)).mp c1
            refine x_callV_4 c_Folk_add ok_Folk_add ml_W_140 dW_person_67 rfl rfl rfl rfl rfl ?_
            refine ⟨pN (cE I), k, w, ws, ld, rfl, rfl, hlt, hn, ?_⟩
            refine x_ireturn dW_person_70 rfl rfl ?_
            have := h1 _ (fun j hj => by unfold cFadd; rw [up2_n _ _ _ (by omega), up2_n _ _ _ (by omega), up2_n _ _ _ (by omega), up2_n _ _ _ (by omega), up2_n _ _ _ (by omega), up2_n _ _ _ (by omega), up2_n _ _ _ (by omega), up2_n _ _ _ (by omega), up2_n _ _ _ (by omega)]) (cE_addP I k w ws ld hn h8)
            rw [show cE I 29 1 = nI (pN (cE I)) from hn] at this
            exact this
          · rw [if_pos (show ¬ cE I 29 1 < 8 from c1), if_pos (show ¬ cE I 29 1 < 8 from c1)] at h1
            refine x_bipush (v := -4) dW_person_55 rfl ?_
            -- at 57: .ireturn
            refine x_ireturn dW_person_57 rfl rfl ?_
            exact h1 I (fun _ _ => rfl) rfl
        · refine x_if_ne (tgt := 43) dW_person_37 (by decide) (fun h => absurd (by decide) h) (fun _ => ?_)
          exact bad (fun z => a4 z.2.2.2)
      · refine x_if_eq (tgt := 40) dW_person_24 (by decide) (fun _ => ?_) (fun h => absurd (by decide) h)
        exact bad (fun z => a3 z.2.2.1)
    · refine x_if_eq (tgt := 40) dW_person_17 (by decide) (fun _ => ?_) (fun h => absurd (by decide) h)
      exact bad (fun z => a2 z.2.1)
  · refine x_if_eq (tgt := 40) dW_person_6 (by decide) (fun _ => ?_) (fun h => absurd (by decide) h)
    exact bad (fun z => a1 z.1)
def moveS (E : IM) (p u : Int32) : Int32 := if ¬ inR p 0 (E 29 1 - 1) then -5 else if ¬ inR u (-1) 5 then -7 else E 9 (cl p)
def moveU (E : IM) (p u : Int32) : IM := if ¬ inR p 0 (E 29 1 - 1) then E else if ¬ inR u (-1) 5 then E else up2 E 9 (cl p) u
def sp_W_move : SpT := fun as S I L Post => ∃ p u : Int32, cSp [.int p, .int u] (fun E => .int (moveS E p u)) (fun E => moveU E p u) as S I L Post
set_option maxHeartbeats 4000000 in
set_option maxRecDepth 100000 in
theorem c_W_move : Con mW_move 4 0 0 sp_W_move := by
  refine con_of_X rfl fun G as S I L Post hs => ?_
  obtain ⟨p, u, rfl, rfl, hok, h1⟩ := hs
  dsimp only at h1
  refine ⟨1, Nat.le_of_ble_eq_true rfl, ?_⟩
  show X mW_move G _ S1 I L 0 [.ref 0, .int p, .int u, .null] [] Post
  have hn : I 4 8 = nI (pN (cE I)) := hok.1.1
  have h8 := hok.1.2.1
  refine x_aload_n dW_move_0 rfl ?_
  refine x_getR fl_W_19 rfl dW_move_1 rfl rfl rfl ?_
  refine x_iload_n dW_move_4 rfl ?_
  -- at 5: .invokevirtual 143
  refine x_callV_1 c_Folk_has ok_Folk_has ml_W_143 dW_move_5 rfl rfl rfl rfl rfl ?_
  refine ⟨_, rfl, rfl, fun a1 => ?_, fun a1 => ?_⟩
  · have a1 : inR p 0 (cE I 29 1 - 1) := a1
    refine x_if_ne (tgt := 14) dW_move_8 (by decide) (fun _ => ?_) (fun h => absurd h (by decide))
    rw [moveS, moveU, if_neg (not_not_intro a1), if_neg (not_not_intro a1)] at h1
    refine x_iload_n dW_move_14 rfl ?_
    refine x_iconst (v := -1) dW_move_15 rfl ?_
    refine x_iconst (v := 5) dW_move_16 rfl ?_
    -- at 17: .invokestatic 101
    refine x_callS_3 c_W_within ok_W_within ml_W_101 dW_move_17 rfl rfl ?_
    refine ⟨_, _, _, rfl, fun a2 => ?_, fun a2 => ?_⟩
    · have a2 : inR u (-1) 5 := a2
      refine x_if_ne (tgt := 26) dW_move_20 (by decide) (fun _ => ?_) (fun h => absurd h (by decide))
      rw [if_neg (not_not_intro a2), if_neg (not_not_intro a2)] at h1
      rw [show cE I 29 1 = nI (pN (cE I)) from hn] at a1
      obtain ⟨k, hk, rfl⟩ := has_nat (by omega) a1
      rw [cl_nI (by omega)] at h1
      refine x_aload_n dW_move_26 rfl ?_
      refine x_getR fl_W_19 rfl dW_move_27 rfl rfl rfl ?_
      refine x_getR fl_W_146 rfl dW_move_30 rfl rfl rfl ?_
      refine x_iload_n dW_move_33 rfl ?_
      refine x_ialdJ dW_move_34 rfl rfl rfl (by omega) ?_
      refine x_istoren_3 dW_move_35 rfl rfl ?_
      refine x_aload_n dW_move_36 rfl ?_
      refine x_getR fl_W_19 rfl dW_move_37 rfl rfl rfl ?_
      refine x_getR fl_W_146 rfl dW_move_40 rfl rfl rfl ?_
      refine x_iload_n dW_move_43 rfl ?_
      refine x_iload_n dW_move_44 rfl ?_
      refine x_iastJ dW_move_45 rfl rfl rfl (by omega) ?_
      refine x_iload_n dW_move_46 rfl ?_
      -- at 47: .ireturn
      refine x_ireturn dW_move_47 rfl rfl ?_
      have e9 : cE I 9 k = I 12 k := mk_lt hk
      rw [e9] at h1
      exact h1 _ (fun j hj => by rw [up2_n _ _ _ (by omega)]) (cE_u9 _ _ hk)
    · have a2 : ¬ inR u (-1) 5 := a2
      refine x_if_ne (tgt := 26) dW_move_20 (by decide) (fun h => absurd (by decide) h) (fun _ => ?_)
      rw [if_pos a2, if_pos a2] at h1
      refine x_bipush (v := -7) dW_move_23 rfl ?_
      -- at 25: .ireturn
      refine x_ireturn dW_move_25 rfl rfl ?_
      exact h1 I (fun _ _ => rfl) rfl
  · have a1 : ¬ inR p 0 (cE I 29 1 - 1) := a1
    refine x_if_ne (tgt := 14) dW_move_8 (by decide) (fun h => absurd (by decide) h) (fun _ => ?_)
    rw [moveS, moveU, if_pos a1, if_pos a1] at h1
    refine x_bipush (v := -5) dW_move_11 rfl ?_
    -- at 13: .ireturn
    refine x_ireturn dW_move_13 rfl rfl ?_
    exact h1 I (fun _ _ => rfl) rfl
end
section
-- 34.w3
/-! the class's calls: what is told of people, promises, sayings -/
def toldS (E : IM) (p w : Int32) : Int32 := if ¬ inR p 0 (E 29 1 - 1) then -5 else if w = 0 then E 2 (cl p) else if w = 1 then E 3 (cl p) else if w = 2 then E 4 (cl p) else if w = 3 then E 5 (cl p) else if w = 4 then E 6 (cl p) else if w = 5 then E 7 (cl p) else if w = 6 then E 8 (cl p) else if inR w 7 12 then whereV E (cl p) (w - 7) else -7
def sp_W_told : SpT := fun as S I L Post => ∃ p w : Int32, cSp [.int p, .int w] (fun E => .int (toldS E p w)) (fun E => E) as S I L Post
set_option maxHeartbeats 4000000 in
set_option maxRecDepth 100000 in
theorem c_W_told : Con mW_told 4 0 0 sp_W_told := by
  refine con_of_X rfl fun G as S I L Post hs => ?_
  obtain ⟨p, w, rfl, rfl, hok, h1⟩ := hs
  dsimp only at h1
  refine ⟨0, Nat.le_of_ble_eq_true rfl, ?_⟩
  show X mW_told G _ S1 I L 0 [.ref 0, .int p, .int w] [] Post
  have hn : I 4 8 = nI (pN (cE I)) := hok.1.1
  have h8 := hok.1.2.1
  have h1 := h1 I (fun _ _ => rfl) rfl
  refine x_aload_n dW_told_0 rfl ?_
  refine x_getR fl_W_19 rfl dW_told_1 rfl rfl rfl ?_
  refine x_iload_n dW_told_4 rfl ?_
  -- at 5: .invokevirtual 143
  refine x_callV_1 c_Folk_has ok_Folk_has ml_W_143 dW_told_5 rfl rfl rfl rfl rfl ?_
  refine ⟨_, rfl, rfl, fun a1 => ?_, fun a1 => ?_⟩
  · have a1 : inR p 0 (cE I 29 1 - 1) := a1
    refine x_if_ne (tgt := 14) dW_told_8 (by decide) (fun _ => ?_) (fun h => absurd h (by decide))
    rw [toldS, if_neg (not_not_intro a1)] at h1
    rw [show cE I 29 1 = nI (pN (cE I)) from hn] at a1
    obtain ⟨k, hk, rfl⟩ := has_nat (by omega) a1
    rw [cl_nI (by omega)] at h1
    refine x_iload_n dW_told_14 rfl ?_
    -- at 15: .tableswitch 111 0 6 #[41, 51, 61, 71, 81, 91, 101]
    by_cases w0 : w = 0
    · subst w0
      refine x_tableIn (tgt := 56) dW_told_15 (by decide) (by decide) rfl (by decide) ?_
      refine x_aload_n dW_told_56 rfl ?_
      refine x_getR fl_W_19 rfl dW_told_57 rfl rfl rfl ?_
      refine x_getR fl_W_149 rfl dW_told_60 rfl rfl rfl ?_
      refine x_iload_n dW_told_63 rfl ?_
      refine x_ialdJ dW_told_64 rfl rfl rfl (by omega) ?_
      -- at 65: .ireturn
      refine x_ireturn dW_told_65 rfl rfl ?_
      exact h1
    by_cases w1 : w = 1
    · subst w1
      refine x_tableIn (tgt := 66) dW_told_15 (by decide) (by decide) rfl (by decide) ?_
      refine x_aload_n dW_told_66 rfl ?_
      refine x_getR fl_W_19 rfl dW_told_67 rfl rfl rfl ?_
      refine x_getR fl_W_152 rfl dW_told_70 rfl rfl rfl ?_
      refine x_iload_n dW_told_73 rfl ?_
      refine x_ialdJ dW_told_74 rfl rfl rfl (by omega) ?_
      -- at 75: .ireturn
      refine x_ireturn dW_told_75 rfl rfl ?_
      exact h1
    by_cases w2 : w = 2
    · subst w2
      refine x_tableIn (tgt := 76) dW_told_15 (by decide) (by decide) rfl (by decide) ?_
      refine x_aload_n dW_told_76 rfl ?_
      refine x_getR fl_W_19 rfl dW_told_77 rfl rfl rfl ?_
      refine x_getR fl_W_155 rfl dW_told_80 rfl rfl rfl ?_
      refine x_iload_n dW_told_83 rfl ?_
      refine x_ialdJ dW_told_84 rfl rfl rfl (by omega) ?_
      -- at 85: .ireturn
      refine x_ireturn dW_told_85 rfl rfl ?_
      exact h1
    by_cases w3 : w = 3
    · subst w3
      refine x_tableIn (tgt := 86) dW_told_15 (by decide) (by decide) rfl (by decide) ?_
      refine x_aload_n dW_told_86 rfl ?_
      refine x_getR fl_W_19 rfl dW_told_87 rfl rfl rfl ?_
      refine x_getR fl_W_158 rfl dW_told_90 rfl rfl rfl ?_
      refine x_iload_n dW_told_93 rfl ?_
      refine x_ialdJ dW_told_94 rfl rfl rfl (by omega) ?_
      -- at 95: .ireturn
      refine x_ireturn dW_told_95 rfl rfl ?_
      exact h1
    by_cases w4 : w = 4
    · subst w4
      refine x_tableIn (tgt := 96) dW_told_15 (by decide) (by decide) rfl (by decide) ?_
      refine x_aload_n dW_told_96 rfl ?_
      refine x_getR fl_W_19 rfl dW_told_97 rfl rfl rfl ?_
      refine x_getR fl_W_161 rfl dW_told_100 rfl rfl rfl ?_
      refine x_iload_n dW_told_103 rfl ?_
      refine x_ialdJ dW_told_104 rfl rfl rfl (by omega) ?_
      -- at 105: .ireturn
      refine x_ireturn dW_told_105 rfl rfl ?_
      exact h1
    by_cases w5 : w = 5
    · subst w5
      refine x_tableIn (tgt := 106) dW_told_15 (by decide) (by decide) rfl (by decide) ?_
      refine x_aload_n dW_told_106 rfl ?_
      refine x_getR fl_W_19 rfl dW_told_107 rfl rfl rfl ?_
      refine x_getR fl_W_164 rfl dW_told_110 rfl rfl rfl ?_
      refine x_iload_n dW_told_113 rfl ?_
      refine x_ialdJ dW_told_114 rfl rfl rfl (by omega) ?_
      -- at 115: .ireturn
      refine x_ireturn dW_told_115 rfl rfl ?_
      exact h1
    by_cases w6 : w = 6
    · subst w6
      refine x_tableIn (tgt := 116) dW_told_15 (by decide) (by decide) rfl (by decide) ?_
      refine x_aload_n dW_told_116 rfl ?_
      refine x_getR fl_W_19 rfl dW_told_117 rfl rfl rfl ?_
      refine x_getR fl_W_167 rfl dW_told_120 rfl rfl rfl ?_
      refine x_iload_n dW_told_123 rfl ?_
      refine x_ialdJ dW_told_124 rfl rfl rfl (by omega) ?_
      -- at 125: .ireturn
      refine x_ireturn dW_told_125 rfl rfl ?_
      exact h1
    have ho := toInt_out (w := w) (n := 6) (by omega) (fun k hk => by
      rcases (show k = 0 ∨ k = 1 ∨ k = 2 ∨ k = 3 ∨ k = 4 ∨ k = 5 ∨ k = 6 by omega) with rfl | rfl | rfl | rfl | rfl | rfl | rfl <;> assumption)
    rw [if_neg w0, if_neg w1, if_neg w2, if_neg w3, if_neg w4, if_neg w5, if_neg w6] at h1
    refine x_tableOut (tgt := 126) dW_told_15 ho (by decide) ?_
    refine x_iload_n dW_told_126 rfl ?_
    refine x_bipush (v := 7) dW_told_127 rfl ?_
    refine x_bipush (v := 12) dW_told_129 rfl ?_
    -- at 131: .invokestatic 101
    refine x_callS_3 c_W_within ok_W_within ml_W_101 dW_told_131 rfl rfl ?_
    refine ⟨_, _, _, rfl, fun a2 => ?_, fun a2 => ?_⟩
    · have a2 : inR w 7 12 := a2
      refine x_if_eq (tgt := 152) dW_told_134 (by decide) (fun h => absurd h (by decide)) (fun _ => ?_)
      rw [if_pos a2] at h1
      refine x_aload_n dW_told_137 rfl ?_
      refine x_getR fl_W_19 rfl dW_told_138 rfl rfl rfl ?_
      refine x_iload_n dW_told_141 rfl ?_
      refine x_iload_n dW_told_142 rfl ?_
      refine x_bipush (v := 7) dW_told_143 rfl ?_
      refine x_isub dW_told_145 ?_
      -- at 146: .invokevirtual 170
      obtain ⟨k2, hk2, ek⟩ := (hok.1.2.2 k hk).1
      have ek : I 5 k = nI k2 := ek
      refine x_callV_2 c_Folk_placeOf ok_Folk_placeOf ml_W_170 dW_told_146 rfl rfl rfl rfl rfl ?_
      refine ⟨k, k2, _, rfl, rfl, by omega, ek, hk2, ?_⟩
      refine x_goto (tgt := 154) dW_told_149 (by decide) ?_
      -- at 154: .ireturn
      refine x_ireturn dW_told_154 rfl rfl ?_
      rw [← where_eq (cVE I) hk] at h1
      unfold whereV at h1
      rw [show cV I 2 k = nI k2 from ek] at h1
      exact h1
    · have a2 : ¬ inR w 7 12 := a2
      refine x_if_eq (tgt := 152) dW_told_134 (by decide) (fun _ => ?_) (fun h => absurd (by decide) h)
      rw [if_neg a2] at h1
      refine x_bipush (v := -7) dW_told_152 rfl ?_
      -- at 154: .ireturn
      refine x_ireturn dW_told_154 rfl rfl ?_
      exact h1
  · have a1 : ¬ inR p 0 (cE I 29 1 - 1) := a1
    refine x_if_ne (tgt := 14) dW_told_8 (by decide) (fun h => absurd (by decide) h) (fun _ => ?_)
    rw [toldS, if_pos a1] at h1
    refine x_bipush (v := -5) dW_told_11 rfl ?_
    -- at 13: .ireturn
    refine x_ireturn dW_told_13 rfl rfl ?_
    exact h1
abbrev proC (E : IM) (w n v g : Int32) : Prop := inR w 0 7 ∧ inR n 1 99 ∧ inR v 0 99 ∧ inR g (-1) (E 29 2 - 1)
def promiseS (E : IM) (w n v g : Int32) : Int32 := if ¬ proC E w n v g then -2 else if ¬ E 29 2 < 8 then -4 else E 29 2
def addQ (E : IM) (q : Nat) (w n v g : Int32) : IM := up2 (up2 (up2 (up2 (up2 E 10 q w) 11 q n) 12 q v) 13 q g) 29 2 (nI q + 1)
def promiseU (E : IM) (w n v g : Int32) : IM := if ¬ proC E w n v g then E else if ¬ E 29 2 < 8 then E else addQ E (qN E) w n v g
def sp_W_promise : SpT := fun as S I L Post => ∃ w n v g : Int32, cSp [.int w, .int n, .int v, .int g] (fun E => .int (promiseS E w n v g)) (fun E => promiseU E w n v g) as S I L Post
set_option maxHeartbeats 4000000 in
set_option maxRecDepth 100000 in
theorem c_W_promise : Con mW_promise 3 0 0 sp_W_promise := by
  refine con_of_X rfl fun G as S I L Post hs => ?_
  obtain ⟨w, n, v, g, rfl, rfl, hok, h1⟩ := hs
  dsimp only at h1
  refine ⟨0, Nat.le_of_ble_eq_true rfl, ?_⟩
  show X mW_promise G _ S1 I L 0 [.ref 0, .int w, .int n, .int v, .int g] [] Post
  have hn : I 13 4 = nI (qN (cE I)) := hok.2.1.1
  have h8 := hok.2.1.2.1
  have bad : ¬ proC (cE I) w n v g → X mW_promise G (3, 0, 0) S1 I L 48 [.ref 0, .int w, .int n, .int v, .int g] [] Post := by
    intro hc
    rw [promiseS, promiseU, if_pos hc, if_pos hc] at h1
    refine x_bipush (v := -2) dW_promise_48 rfl ?_
    -- at 50: .ireturn
    refine x_ireturn dW_promise_50 rfl rfl ?_
    exact h1 I (fun _ _ => rfl) rfl
  refine x_iload_n dW_promise_0 rfl ?_
  refine x_iconst (v := 0) dW_promise_1 rfl ?_
  refine x_bipush (v := 7) dW_promise_2 rfl ?_
  -- at 4: .invokestatic 101
  refine x_callS_3 c_W_within ok_W_within ml_W_101 dW_promise_4 rfl rfl ?_
  refine ⟨_, _, _, rfl, fun a1 => ?_, fun a1 => ?_⟩
  · refine x_if_eq (tgt := 48) dW_promise_7 (by decide) (fun h => absurd h (by decide)) (fun _ => ?_)
    refine x_iload_n dW_promise_10 rfl ?_
    refine x_iconst (v := 1) dW_promise_11 rfl ?_
    refine x_bipush (v := 99) dW_promise_12 rfl ?_
    -- at 14: .invokestatic 101
    refine x_callS_3 c_W_within ok_W_within ml_W_101 dW_promise_14 rfl rfl ?_
    refine ⟨_, _, _, rfl, fun a2 => ?_, fun a2 => ?_⟩
    · refine x_if_eq (tgt := 48) dW_promise_17 (by decide) (fun h => absurd h (by decide)) (fun _ => ?_)
      refine x_iload_n dW_promise_20 rfl ?_
      refine x_iconst (v := 0) dW_promise_21 rfl ?_
      refine x_bipush (v := 99) dW_promise_22 rfl ?_
      -- at 24: .invokestatic 101
      refine x_callS_3 c_W_within ok_W_within ml_W_101 dW_promise_24 rfl rfl ?_
      refine ⟨_, _, _, rfl, fun a3 => ?_, fun a3 => ?_⟩
      · refine x_if_eq (tgt := 48) dW_promise_27 (by decide) (fun h => absurd h (by decide)) (fun _ => ?_)
        refine x_iload dW_promise_30 rfl ?_
        refine x_iconst (v := -1) dW_promise_32 rfl ?_
        refine x_aload_n dW_promise_33 rfl ?_
        refine x_getR fl_W_26 rfl dW_promise_34 rfl rfl rfl ?_
        refine x_getI fl_W_124 rfl dW_promise_37 rfl rfl ?_
        refine x_iconst (v := 1) dW_promise_40 rfl ?_
        refine x_isub dW_promise_41 ?_
        -- at 42: .invokestatic 101
        refine x_callS_3 c_W_within ok_W_within ml_W_101 dW_promise_42 rfl rfl ?_
        refine ⟨_, _, _, rfl, fun a4 => ?_, fun a4 => ?_⟩
        · refine x_if_ne (tgt := 51) dW_promise_45 (by decide) (fun _ => ?_) (fun h => absurd h (by decide))
          have hc : proC (cE I) w n v g := ⟨a1, a2, a3, a4⟩
          rw [promiseS, promiseU, if_neg (not_not_intro hc), if_neg (not_not_intro hc)] at h1
          refine x_aload_n dW_promise_51 rfl ?_
          refine x_getR fl_W_26 rfl dW_promise_52 rfl rfl rfl ?_
          refine x_getI fl_W_124 rfl dW_promise_55 rfl rfl ?_
          refine x_bipush (v := 8) dW_promise_58 rfl ?_
          -- at 60: .if_icmp .lt 6
          refine x_icmp_lt (tgt := 66) dW_promise_60 (by decide) (fun c1 => ?_) (fun c1 => ?_)
          · rw [if_neg (not_not_intro (show cE I 29 2 < 8 from c1)), if_neg (not_not_intro (show cE I 29 2 < 8 from c1))] at h1
            refine x_aload_n dW_promise_66 rfl ?_
            refine x_getR fl_W_26 rfl dW_promise_67 rfl rfl rfl ?_
            refine x_iload_n dW_promise_70 rfl ?_
            refine x_iload_n dW_promise_71 rfl ?_
            refine x_iload_n dW_promise_72 rfl ?_
            refine x_iload dW_promise_73 rfl ?_
            -- at 75: .invokevirtual 173
            have hlt : qN (cE I) < 8 := by
              rw [hn] at c1
              exact (nI_ltI (b := 8) (by omega) (by omega)).mp c1
            refine x_callV_4 c_Vows_add ok_Vows_add ml_W_173 dW_promise_75 rfl rfl rfl rfl rfl ?_
            refine ⟨qN (cE I), w, n, v, g, rfl, rfl, hlt, hn, ?_⟩
            refine x_ireturn dW_promise_78 rfl rfl ?_
            have := h1 (cVadd I (qN (cE I)) w n v g) (fun j hj => by unfold cVadd; rw [up2_n _ _ _ (by omega), up2_n _ _ _ (by omega), up2_n _ _ _ (by omega), up2_n _ _ _ (by omega), up2_n _ _ _ (by omega)]) (by unfold cVadd addQ; rw [cE_s2, cE_u13, cE_u12, cE_u11, cE_u10])
            rw [show cE I 29 2 = nI (qN (cE I)) from hn] at this
            exact this
          · rw [if_pos (show ¬ cE I 29 2 < 8 from c1), if_pos (show ¬ cE I 29 2 < 8 from c1)] at h1
            refine x_bipush (v := -4) dW_promise_63 rfl ?_
            -- at 65: .ireturn
            refine x_ireturn dW_promise_65 rfl rfl ?_
            exact h1 I (fun _ _ => rfl) rfl
        · refine x_if_ne (tgt := 51) dW_promise_45 (by decide) (fun h => absurd (by decide) h) (fun _ => ?_)
          exact bad (fun z => a4 z.2.2.2)
      · refine x_if_eq (tgt := 48) dW_promise_27 (by decide) (fun _ => ?_) (fun h => absurd (by decide) h)
        exact bad (fun z => a3 z.2.2.1)
    · refine x_if_eq (tgt := 48) dW_promise_17 (by decide) (fun _ => ?_) (fun h => absurd (by decide) h)
      exact bad (fun z => a2 z.2.1)
  · refine x_if_eq (tgt := 48) dW_promise_7 (by decide) (fun _ => ?_) (fun h => absurd (by decide) h)
    exact bad (fun z => a1 z.1)
def promisedS (E : IM) (q w : Int32) : Int32 := if ¬ inR q 0 (E 29 2 - 1) then -5 else if w = 0 then E 10 (cl q) else if w = 1 then E 11 (cl q) else if w = 2 then E 12 (cl q) else if w = 3 then E 13 (cl q) else -7
def sp_W_promised : SpT := fun as S I L Post => ∃ q w : Int32, cSp [.int q, .int w] (fun E => .int (promisedS E q w)) (fun E => E) as S I L Post
set_option maxHeartbeats 4000000 in
set_option maxRecDepth 100000 in
theorem c_W_promised : Con mW_promised 4 0 0 sp_W_promised := by
  refine con_of_X rfl fun G as S I L Post hs => ?_
  obtain ⟨p, w, rfl, rfl, hok, h1⟩ := hs
  dsimp only at h1
  refine ⟨0, Nat.le_of_ble_eq_true rfl, ?_⟩
  show X mW_promised G _ S1 I L 0 [.ref 0, .int p, .int w] [] Post
  have hn : I 13 4 = nI (qN (cE I)) := hok.2.1.1
  have h8 := hok.2.1.2.1
  have h1 := h1 I (fun _ _ => rfl) rfl
  refine x_aload_n dW_promised_0 rfl ?_
  refine x_getR fl_W_26 rfl dW_promised_1 rfl rfl rfl ?_
  refine x_iload_n dW_promised_4 rfl ?_
  -- at 5: .invokevirtual 174
  refine x_callV_1 c_Vows_has ok_Vows_has ml_W_174 dW_promised_5 rfl rfl rfl rfl rfl ?_
  refine ⟨_, rfl, rfl, fun a1 => ?_, fun a1 => ?_⟩
  · have a1 : inR p 0 (cE I 29 2 - 1) := a1
    refine x_if_ne (tgt := 14) dW_promised_8 (by decide) (fun _ => ?_) (fun h => absurd h (by decide))
    rw [promisedS, if_neg (not_not_intro a1)] at h1
    rw [show cE I 29 2 = nI (qN (cE I)) from hn] at a1
    obtain ⟨k, hk, rfl⟩ := has_nat (by omega) a1
    rw [cl_nI (by omega)] at h1
    refine x_iload_n dW_promised_14 rfl ?_
    -- at 15: .tableswitch 69 0 3 #[29, 39, 49, 59]
    by_cases w0 : w = 0
    · subst w0
      refine x_tableIn (tgt := 44) dW_promised_15 (by decide) (by decide) rfl (by decide) ?_
      refine x_aload_n dW_promised_44 rfl ?_
      refine x_getR fl_W_26 rfl dW_promised_45 rfl rfl rfl ?_
      refine x_getR fl_W_175 rfl dW_promised_48 rfl rfl rfl ?_
      refine x_iload_n dW_promised_51 rfl ?_
      refine x_ialdJ dW_promised_52 rfl rfl rfl (by omega) ?_
      -- at 53: .ireturn
      refine x_ireturn dW_promised_53 rfl rfl ?_
      exact h1
    by_cases w1 : w = 1
    · subst w1
      refine x_tableIn (tgt := 54) dW_promised_15 (by decide) (by decide) rfl (by decide) ?_
      refine x_aload_n dW_promised_54 rfl ?_
      refine x_getR fl_W_26 rfl dW_promised_55 rfl rfl rfl ?_
      refine x_getR fl_W_178 rfl dW_promised_58 rfl rfl rfl ?_
      refine x_iload_n dW_promised_61 rfl ?_
      refine x_ialdJ dW_promised_62 rfl rfl rfl (by omega) ?_
      -- at 63: .ireturn
      refine x_ireturn dW_promised_63 rfl rfl ?_
      exact h1
    by_cases w2 : w = 2
    · subst w2
      refine x_tableIn (tgt := 64) dW_promised_15 (by decide) (by decide) rfl (by decide) ?_
      refine x_aload_n dW_promised_64 rfl ?_
      refine x_getR fl_W_26 rfl dW_promised_65 rfl rfl rfl ?_
      refine x_getR fl_W_181 rfl dW_promised_68 rfl rfl rfl ?_
      refine x_iload_n dW_promised_71 rfl ?_
      refine x_ialdJ dW_promised_72 rfl rfl rfl (by omega) ?_
      -- at 73: .ireturn
      refine x_ireturn dW_promised_73 rfl rfl ?_
      exact h1
    by_cases w3 : w = 3
    · subst w3
      refine x_tableIn (tgt := 74) dW_promised_15 (by decide) (by decide) rfl (by decide) ?_
      refine x_aload_n dW_promised_74 rfl ?_
      refine x_getR fl_W_26 rfl dW_promised_75 rfl rfl rfl ?_
      refine x_getR fl_W_184 rfl dW_promised_78 rfl rfl rfl ?_
      refine x_iload_n dW_promised_81 rfl ?_
      refine x_ialdJ dW_promised_82 rfl rfl rfl (by omega) ?_
      -- at 83: .ireturn
      refine x_ireturn dW_promised_83 rfl rfl ?_
      exact h1
    have ho := toInt_out (w := w) (n := 3) (by omega) (fun k hk => by
      rcases (show k = 0 ∨ k = 1 ∨ k = 2 ∨ k = 3 by omega) with rfl | rfl | rfl | rfl <;> assumption)
    rw [if_neg w0, if_neg w1, if_neg w2, if_neg w3] at h1
    refine x_tableOut (tgt := 84) dW_promised_15 ho (by decide) ?_
    refine x_bipush (v := -7) dW_promised_84 rfl ?_
    -- at 86: .ireturn
    refine x_ireturn dW_promised_86 rfl rfl ?_
    exact h1
  · have a1 : ¬ inR p 0 (cE I 29 2 - 1) := a1
    refine x_if_ne (tgt := 14) dW_promised_8 (by decide) (fun h => absurd (by decide) h) (fun _ => ?_)
    rw [promisedS, if_pos a1] at h1
    refine x_bipush (v := -5) dW_promised_11 rfl ?_
    -- at 13: .ireturn
    refine x_ireturn dW_promised_13 rfl rfl ?_
    exact h1
def saidS (E : IM) (s w : Int32) : Int32 := if ¬ inR s 0 (E 29 3 - 1) then -5 else if w = 0 then E 14 (cl s) else if w = 1 then E 15 (cl s) else if w = 2 then E 16 (cl s) else if w = 3 then E 17 (cl s) else -7
def sp_W_said : SpT := fun as S I L Post => ∃ s w : Int32, cSp [.int s, .int w] (fun E => .int (saidS E s w)) (fun E => E) as S I L Post
set_option maxHeartbeats 4000000 in
set_option maxRecDepth 100000 in
theorem c_W_said : Con mW_said 4 0 0 sp_W_said := by
  refine con_of_X rfl fun G as S I L Post hs => ?_
  obtain ⟨p, w, rfl, rfl, hok, h1⟩ := hs
  dsimp only at h1
  refine ⟨0, Nat.le_of_ble_eq_true rfl, ?_⟩
  show X mW_said G _ S1 I L 0 [.ref 0, .int p, .int w] [] Post
  have hn : I 18 4 = nI (sN (cE I)) := hok.2.2.1.1
  have h8 := hok.2.2.1.2.1
  have h1 := h1 I (fun _ _ => rfl) rfl
  refine x_aload_n dW_said_0 rfl ?_
  refine x_getR fl_W_33 rfl dW_said_1 rfl rfl rfl ?_
  refine x_iload_n dW_said_4 rfl ?_
  -- at 5: .invokevirtual 192
  refine x_callV_1 c_Sayings_has ok_Sayings_has ml_W_192 dW_said_5 rfl rfl rfl rfl rfl ?_
  refine ⟨_, rfl, rfl, fun a1 => ?_, fun a1 => ?_⟩
  · have a1 : inR p 0 (cE I 29 3 - 1) := a1
    refine x_if_ne (tgt := 14) dW_said_8 (by decide) (fun _ => ?_) (fun h => absurd h (by decide))
    rw [saidS, if_neg (not_not_intro a1)] at h1
    rw [show cE I 29 3 = nI (sN (cE I)) from hn] at a1
    obtain ⟨k, hk, rfl⟩ := has_nat (by omega) a1
    rw [cl_nI (by omega)] at h1
    have e14 : cE I 14 k = I 19 k := mk_lt hk
    have e15 : cE I 15 k = I 20 k := mk_lt hk
    have e16 : cE I 16 k = I 21 k := mk_lt hk
    have e17 : cE I 17 k = I 22 k := mk_lt hk
    rw [e14, e15, e16, e17] at h1
    refine x_iload_n dW_said_14 rfl ?_
    -- at 15: .tableswitch 69 0 3 #[29, 39, 49, 59]
    by_cases w0 : w = 0
    · subst w0
      refine x_tableIn (tgt := 44) dW_said_15 (by decide) (by decide) rfl (by decide) ?_
      refine x_aload_n dW_said_44 rfl ?_
      refine x_getR fl_W_33 rfl dW_said_45 rfl rfl rfl ?_
      refine x_getR fl_W_193 rfl dW_said_48 rfl rfl rfl ?_
      refine x_iload_n dW_said_51 rfl ?_
      refine x_ialdJ dW_said_52 rfl rfl rfl (by omega) ?_
      -- at 53: .ireturn
      refine x_ireturn dW_said_53 rfl rfl ?_
      exact h1
    by_cases w1 : w = 1
    · subst w1
      refine x_tableIn (tgt := 54) dW_said_15 (by decide) (by decide) rfl (by decide) ?_
      refine x_aload_n dW_said_54 rfl ?_
      refine x_getR fl_W_33 rfl dW_said_55 rfl rfl rfl ?_
      refine x_getR fl_W_196 rfl dW_said_58 rfl rfl rfl ?_
      refine x_iload_n dW_said_61 rfl ?_
      refine x_ialdJ dW_said_62 rfl rfl rfl (by omega) ?_
      -- at 63: .ireturn
      refine x_ireturn dW_said_63 rfl rfl ?_
      exact h1
    by_cases w2 : w = 2
    · subst w2
      refine x_tableIn (tgt := 64) dW_said_15 (by decide) (by decide) rfl (by decide) ?_
      refine x_aload_n dW_said_64 rfl ?_
      refine x_getR fl_W_33 rfl dW_said_65 rfl rfl rfl ?_
      refine x_getR fl_W_199 rfl dW_said_68 rfl rfl rfl ?_
      refine x_iload_n dW_said_71 rfl ?_
      refine x_ialdJ dW_said_72 rfl rfl rfl (by omega) ?_
      -- at 73: .ireturn
      refine x_ireturn dW_said_73 rfl rfl ?_
      exact h1
    by_cases w3 : w = 3
    · subst w3
      refine x_tableIn (tgt := 74) dW_said_15 (by decide) (by decide) rfl (by decide) ?_
      refine x_aload_n dW_said_74 rfl ?_
      refine x_getR fl_W_33 rfl dW_said_75 rfl rfl rfl ?_
      refine x_getR fl_W_202 rfl dW_said_78 rfl rfl rfl ?_
      refine x_iload_n dW_said_81 rfl ?_
      refine x_ialdJ dW_said_82 rfl rfl rfl (by omega) ?_
      -- at 83: .ireturn
      refine x_ireturn dW_said_83 rfl rfl ?_
      exact h1
    have ho := toInt_out (w := w) (n := 3) (by omega) (fun k hk => by
      rcases (show k = 0 ∨ k = 1 ∨ k = 2 ∨ k = 3 by omega) with rfl | rfl | rfl | rfl <;> assumption)
    rw [if_neg w0, if_neg w1, if_neg w2, if_neg w3] at h1
    refine x_tableOut (tgt := 84) dW_said_15 ho (by decide) ?_
    refine x_bipush (v := -7) dW_said_84 rfl ?_
    -- at 86: .ireturn
    refine x_ireturn dW_said_86 rfl rfl ?_
    exact h1
  · have a1 : ¬ inR p 0 (cE I 29 3 - 1) := a1
    refine x_if_ne (tgt := 14) dW_said_8 (by decide) (fun h => absurd (by decide) h) (fun _ => ?_)
    rw [saidS, if_pos a1] at h1
    refine x_bipush (v := -5) dW_said_11 rfl ?_
    -- at 13: .ireturn
    refine x_ireturn dW_said_13 rfl rfl ?_
    exact h1
abbrev sayC (E : IM) (q h : Int32) : Prop := inR q 0 (E 29 2 - 1) ∧ isHowP h
def sayS (E : IM) (q h : Int32) : Int32 := if ¬ sayC E q h then -2 else if ¬ E 29 3 < 10 then -4 else E 29 3
def addS (E : IM) (s : Nat) (q h : Int32) : IM := up2 (sputV E s q h) 29 3 (nI s + 1)
def sayU (E : IM) (q h : Int32) : IM := if ¬ sayC E q h then E else if ¬ E 29 3 < 10 then E else addS E (sN E) q h
theorem cE_addS (I : IM) (q h : Int32) (hn : I 18 4 = nI (sN (cE I))) (h8 : sN (cE I) ≤ 10) : cE (up2 (cSput I (sN (cE I)) q h) 18 4 (nI (sN (cE I)) + 1)) = addS (cE I) (sN (cE I)) q h := by
  have e0 : cl (I 18 4) = sN (cE I) := rfl
  generalize sN (cE I) = n at hn h8 e0 ⊢
  unfold cSput addS sputV
  rw [cE_n3, show nI n + 1 = nI (n + 1) from nI_1 n, cl_nI (by omega)]
  rw [show up2 (up2 (up2 (up2 I 19 n q) 20 n (h / 100)) 21 n (rem (h / 10) 10)) 22 n (rem h 10) 19 = up1 (I 19) n q by simp only [up2_n, up2_s, ne_eq, Nat.reduceEqDiff, not_false_eq_true], show up2 (up2 (up2 (up2 I 19 n q) 20 n (h / 100)) 21 n (rem (h / 10) 10)) 22 n (rem h 10) 20 = up1 (I 20) n (h / 100) by simp only [up2_n, up2_s, ne_eq, Nat.reduceEqDiff, not_false_eq_true], show up2 (up2 (up2 (up2 I 19 n q) 20 n (h / 100)) 21 n (rem (h / 10) 10)) 22 n (rem h 10) 21 = up1 (I 21) n (rem (h / 10) 10) by simp only [up2_n, up2_s, ne_eq, Nat.reduceEqDiff, not_false_eq_true], show up2 (up2 (up2 (up2 I 19 n q) 20 n (h / 100)) 21 n (rem (h / 10) 10)) 22 n (rem h 10) 22 = up1 (I 22) n (rem h 10) by simp only [up2_n, up2_s, ne_eq, Nat.reduceEqDiff, not_false_eq_true], mk_up, mk_up, mk_up, mk_up]
  have z : ∀ (J : IM) (f : Nat → Int32) (a : Nat), a ≠ 14 → a ≠ 15 → a ≠ 16 → a ≠ 17 → cE (upr J 22 f) a = cE J a := fun J f a _ _ _ h17 => by rw [cE_17, upr_n _ _ h17]
  funext a
  by_cases h14 : a = 14
  · subst h14
    simp only [up2_n, up2_s, ne_eq, Nat.reduceEqDiff, not_false_eq_true, upr_s, upr_n]
    rw [show cE I 14 = mk (cl (I 18 4)) (I 19) from rfl, e0]
  by_cases h15 : a = 15
  · subst h15
    simp only [up2_n, up2_s, ne_eq, Nat.reduceEqDiff, not_false_eq_true, upr_s, upr_n]
    rw [show cE I 15 = mk (cl (I 18 4)) (I 20) from rfl, e0]
  by_cases h16 : a = 16
  · subst h16
    simp only [up2_n, up2_s, ne_eq, Nat.reduceEqDiff, not_false_eq_true, upr_s, upr_n]
    rw [show cE I 16 = mk (cl (I 18 4)) (I 21) from rfl, e0]
  by_cases h17 : a = 17
  · subst h17
    simp only [up2_n, up2_s, ne_eq, Nat.reduceEqDiff, not_false_eq_true, upr_s, upr_n]
    rw [show cE I 17 = mk (cl (I 18 4)) (I 22) from rfl, e0]
  have e : ∀ b, b ≠ 14 → b ≠ 15 → b ≠ 16 → b ≠ 17 → cE (up2 (up2 (up2 (up2 I 19 n q) 20 n (h / 100)) 21 n (rem (h / 10) 10)) 22 n (rem h 10)) b = cE I b := by
    intro b b14 b15 b16 b17
    rw [show ∀ J : IM, cE (up2 J 22 n (rem h 10)) = upr (cE J) 17 _ from fun J => cE_17 J _, upr_n _ _ b17]
    rw [show ∀ J : IM, cE (up2 J 21 n (rem (h / 10) 10)) = upr (cE J) 16 _ from fun J => cE_16 J _, upr_n _ _ b16]
    rw [show ∀ J : IM, cE (up2 J 20 n (h / 100)) = upr (cE J) 15 _ from fun J => cE_15 J _, upr_n _ _ b15]
    rw [show ∀ J : IM, cE (up2 J 19 n q) = upr (cE J) 14 _ from fun J => cE_14 J _, upr_n _ _ b14]
  rw [upr_n _ _ h17, upr_n _ _ h16, upr_n _ _ h15, upr_n _ _ h14]
  by_cases h29 : a = 29
  · subst h29
    rw [up2_s, up2_s, e 29 (by omega) (by omega) (by omega) (by omega)]
    simp only [up2_n, up2_s, ne_eq, Nat.reduceEqDiff, not_false_eq_true]
  · rw [up2_n _ _ _ h29, up2_n _ _ _ h29, e a h14 h15 h16 h17, up2_n _ _ _ h17, up2_n _ _ _ h16, up2_n _ _ _ h15, up2_n _ _ _ h14]
def sp_W_say : SpT := fun as S I L Post => ∃ q h : Int32, cSp [.int q, .int h] (fun E => .int (sayS E q h)) (fun E => sayU E q h) as S I L Post
set_option maxHeartbeats 4000000 in
set_option maxRecDepth 100000 in
theorem c_W_say : Con mW_say 4 0 0 sp_W_say := by
  refine con_of_X rfl fun G as S I L Post hs => ?_
  obtain ⟨q, h, rfl, rfl, hok, h1⟩ := hs
  dsimp only at h1
  refine ⟨1, Nat.le_of_ble_eq_true rfl, ?_⟩
  show X mW_say G _ S1 I L 0 [.ref 0, .int q, .int h, .null] [] Post
  have hn : I 18 4 = nI (sN (cE I)) := hok.2.2.1.1
  have h8 := hok.2.2.1.2.1
  have bad : ¬ sayC (cE I) q h → X mW_say G (4, 0, 0) S1 I L 18 [.ref 0, .int q, .int h, .null] [] Post := by
    intro hc
    rw [sayS, sayU, if_pos hc, if_pos hc] at h1
    refine x_bipush (v := -2) dW_say_18 rfl ?_
    -- at 20: .ireturn
    refine x_ireturn dW_say_20 rfl rfl ?_
    exact h1 I (fun _ _ => rfl) rfl
  refine x_aload_n dW_say_0 rfl ?_
  refine x_getR fl_W_26 rfl dW_say_1 rfl rfl rfl ?_
  refine x_iload_n dW_say_4 rfl ?_
  -- at 5: .invokevirtual 174
  refine x_callV_1 c_Vows_has ok_Vows_has ml_W_174 dW_say_5 rfl rfl rfl rfl rfl ?_
  refine ⟨_, rfl, rfl, fun a1 => ?_, fun a1 => ?_⟩
  · refine x_if_eq (tgt := 18) dW_say_8 (by decide) (fun h => absurd h (by decide)) (fun _ => ?_)
    refine x_iload_n dW_say_11 rfl ?_
    -- at 12: .invokestatic 187
    refine x_callS_1 c_W_isHow ok_W_isHow ml_W_187 dW_say_12 rfl rfl ?_
    refine ⟨_, rfl, fun a2 => ?_, fun a2 => ?_⟩
    · refine x_if_ne (tgt := 21) dW_say_15 (by decide) (fun _ => ?_) (fun h => absurd h (by decide))
      have hc : sayC (cE I) q h := ⟨a1, a2⟩
      rw [sayS, sayU, if_neg (not_not_intro hc), if_neg (not_not_intro hc)] at h1
      refine x_aload_n dW_say_21 rfl ?_
      refine x_getR fl_W_33 rfl dW_say_22 rfl rfl rfl ?_
      refine x_getI fl_W_125 rfl dW_say_25 rfl rfl ?_
      refine x_bipush (v := 10) dW_say_28 rfl ?_
      -- at 30: .if_icmp .lt 6
      refine x_icmp_lt (tgt := 36) dW_say_30 (by decide) (fun c1 => ?_) (fun c1 => ?_)
      · rw [if_neg (not_not_intro (show cE I 29 3 < 10 from c1)), if_neg (not_not_intro (show cE I 29 3 < 10 from c1))] at h1
        have hlt : sN (cE I) < 10 := by
          rw [hn] at c1
          exact (nI_ltI (b := 10) (by omega) (by omega)).mp c1
        refine x_aload_n dW_say_36 rfl ?_
        refine x_getR fl_W_33 rfl dW_say_37 rfl rfl rfl ?_
        refine x_getI fl_W_125 rfl dW_say_40 rfl rfl ?_
        -- at 43: .istore_n 3
        rw [hn]
        refine x_istoren_3 dW_say_43 rfl rfl ?_
        refine x_aload_n dW_say_44 rfl ?_
        refine x_getR fl_W_33 rfl dW_say_45 rfl rfl rfl ?_
        refine x_iload_n dW_say_48 rfl ?_
        refine x_iload_n dW_say_49 rfl ?_
        refine x_iload_n dW_say_50 rfl ?_
        -- at 51: .invokevirtual 190
        refine x_callV_3 c_Sayings_put ok_Sayings_put ml_W_190 dW_say_51 rfl rfl rfl rfl rfl ?_
        refine ⟨sN (cE I), q, h, rfl, rfl, by omega, ?_⟩
        refine x_aload_n dW_say_54 rfl ?_
        refine x_getR fl_W_33 rfl dW_say_55 rfl rfl rfl ?_
        refine x_iload_n dW_say_58 rfl ?_
        refine x_iconst (v := 1) dW_say_59 rfl ?_
        refine x_iadd dW_say_60 ?_
        refine x_putI fl_W_125 rfl dW_say_61 (by decide) rfl rfl rfl rfl ?_
        refine x_iload_n dW_say_64 rfl ?_
        -- at 65: .ireturn
        refine x_ireturn dW_say_65 rfl rfl ?_
        have := h1 _ (fun j hj => by unfold cSput; rw [up2_n _ _ _ (by omega), up2_n _ _ _ (by omega), up2_n _ _ _ (by omega), up2_n _ _ _ (by omega), up2_n _ _ _ (by omega)]) (cE_addS I q h hn h8)
        rw [show cE I 29 3 = nI (sN (cE I)) from hn] at this
        exact this
      · rw [if_pos (show ¬ cE I 29 3 < 10 from c1), if_pos (show ¬ cE I 29 3 < 10 from c1)] at h1
        refine x_bipush (v := -4) dW_say_33 rfl ?_
        -- at 35: .ireturn
        refine x_ireturn dW_say_35 rfl rfl ?_
        exact h1 I (fun _ _ => rfl) rfl
    · refine x_if_ne (tgt := 21) dW_say_15 (by decide) (fun h => absurd (by decide) h) (fun _ => ?_)
      exact bad (fun z => a2 z.2)
  · refine x_if_eq (tgt := 18) dW_say_8 (by decide) (fun _ => ?_) (fun h => absurd (by decide) h)
    exact bad (fun z => a1 z.1)
def unsayS (E : IM) : Int32 := if E 29 3 ≤ 0 then -3 else E 29 3 - 1
def cutS4 (E : IM) (n : Nat) : IM := upr (upr (upr (upr (up2 E 29 3 (nI n)) 14 (mk n (E 14))) 15 (mk n (E 15))) 16 (mk n (E 16))) 17 (mk n (E 17))
def unsayU (E : IM) : IM := if E 29 3 ≤ 0 then E else cutS4 E (sN E - 1)
def sp_W_unsay : SpT := cSp [] (fun E => .int (unsayS E)) unsayU
set_option maxHeartbeats 4000000 in
set_option maxRecDepth 100000 in
theorem c_W_unsay : Con mW_unsay 2 0 0 sp_W_unsay := by
  refine con_of_X rfl fun G as S I L Post hs => ?_
  obtain ⟨rfl, rfl, hok, h1⟩ := hs
  dsimp only at h1
  refine ⟨0, Nat.le_of_ble_eq_true rfl, ?_⟩
  show X mW_unsay G _ S1 I L 0 [.ref 0] [] Post
  have hn : I 18 4 = nI (sN (cE I)) := hok.2.2.1.1
  have h8 := hok.2.2.1.2.1
  refine x_aload_n dW_unsay_0 rfl ?_
  refine x_getR fl_W_33 rfl dW_unsay_1 rfl rfl rfl ?_
  refine x_getI fl_W_125 rfl dW_unsay_4 rfl rfl ?_
  -- at 7: .ifCond .gt 6
  refine x_if_gt (tgt := 13) dW_unsay_7 (by decide) (fun c1 => ?_) (fun c1 => ?_)
  · rw [unsayS, unsayU, if_neg (show ¬ cE I 29 3 ≤ 0 from Int32.not_le.mpr c1), if_neg (show ¬ cE I 29 3 ≤ 0 from Int32.not_le.mpr c1)] at h1
    rw [hn] at c1
    have hpos : 0 < sN (cE I) := (nI_ltI (a := 0) (by omega) (by omega)).mp c1
    refine x_aload_n dW_unsay_13 rfl ?_
    refine x_getR fl_W_33 rfl dW_unsay_14 rfl rfl rfl ?_
    refine x_dup dW_unsay_17 rfl ?_
    refine x_getI fl_W_125 rfl dW_unsay_18 rfl rfl ?_
    -- at 21: .iconst 1
    rw [hn]
    refine x_iconst (v := 1) dW_unsay_21 rfl ?_
    refine x_isub dW_unsay_22 ?_
    -- at 23: .putfield 125
    refine x_eqi (y := nI (sN (cE I) - 1)) (pk_sub (b := 1) (by omega)) ?_
    refine x_putI fl_W_125 rfl dW_unsay_23 (by decide) rfl rfl rfl rfl ?_
    refine x_aload_n dW_unsay_26 rfl ?_
    refine x_getR fl_W_33 rfl dW_unsay_27 rfl rfl rfl ?_
    refine x_getI fl_W_125 rfl dW_unsay_30 rfl rfl ?_
    -- at 33: .ireturn
    refine x_ireturn dW_unsay_33 rfl rfl ?_
    have := h1 (up2 I 18 4 (nI (sN (cE I) - 1))) (fun j hj => by rw [up2_n _ _ _ (by omega)]) ?_
    · rw [show cE I 29 3 = nI (sN (cE I)) from hn, show nI (sN (cE I)) - 1 = nI (sN (cE I) - 1) from pk_sub (b := 1) (by omega)] at this
      simp only [up2_n, up2_s, ne_eq, Nat.reduceEqDiff, not_false_eq_true, up1, if_true]
      exact this
    · have e0 : cl (I 18 4) = sN (cE I) := rfl
      rw [cE_n3, cl_nI (by omega)]
      unfold cutS4
      rw [show cE I 14 = mk (sN (cE I)) (I 19) from rfl, show cE I 15 = mk (sN (cE I)) (I 20) from rfl, show cE I 16 = mk (sN (cE I)) (I 21) from rfl, show cE I 17 = mk (sN (cE I)) (I 22) from rfl, mk_mk (by omega), mk_mk (by omega), mk_mk (by omega), mk_mk (by omega)]
  · rw [unsayS, unsayU, if_pos (show cE I 29 3 ≤ 0 from Int32.not_lt.mp c1), if_pos (show cE I 29 3 ≤ 0 from Int32.not_lt.mp c1)] at h1
    refine x_bipush (v := -3) dW_unsay_10 rfl ?_
    -- at 12: .ireturn
    refine x_ireturn dW_unsay_12 rfl rfl ?_
    exact h1 I (fun _ _ => rfl) rfl
end
section
-- 35.w4
/-! the class's calls: who hears, owes, what is kept -/
theorem Con.imp {M : MI} {d mc ms : Nat} {Sp Sp' : SpT} (c : Con M d mc ms Sp) (h : ∀ as S I L Post, Sp' as S I L Post → Sp as S I L Post) : Con M d mc ms Sp' := fun G l as S I L Post hs => c G l as S I L Post (h as S I L Post hs)
abbrev kScr : List Nat := [33, 34, 35, 36, 37, 38, 39, 40, 41, 42]
def CE (E : IM) (t : Nat) : Nat → Int32 := CC E (prog E t) (pN E)
def OwesT (E : IM) (t : Nat) (I' : IM) : Prop := OwesN E (DD E (prog E t) (CE E t)) (pN E) (qN E) (-1) (sN E) I'
def HrdT (E : IM) (t : Nat) (I' : IM) : Prop := ∀ s, s < sN E → (∀ p, p < pN E → I' 36 (s * 8 + p) = hearV E (prog E t) s p) ∧ I' 37 s = CE E t s
theorem Hrd.toE {I I' : IM} {t : Nat} (h : Hrd (cV I) (prog (cE I) t) (pN (cE I)) (sN (cE I)) I') : HrdT (cE I) t I' := fun s hs => by
  obtain ⟨a, b⟩ := h s hs
  refine ⟨fun p hp => by rw [a p hp, hear_eq (cVE I) _ hs hp], ?_⟩
  rw [b]
  exact CC_eq (cVE I) _ hs
theorem OwesN.toE {I I' : IM} {t : Nat} (h : OwesN (cV I) (DD (cV I) (prog (cE I) t) (CC (cV I) (prog (cE I) t) (pN (cE I)))) (pN (cE I)) (qN (cE I)) (-1) (sN (cE I)) I') : OwesT (cE I) t I' :=
  owes_eq (cVE I) (Nat.le_refl _) (fun p hp s hs => by unfold DD; rw [share_eq (cVE I) _ hs, CC_eq (cVE I) _ hs]; rfl) h
def spE_listen : SpT := fun as S I L Post => ∃ t : Nat, as = [.ref 35, .int (nI t)] ∧ S = S1 ∧ cOk I ∧ t < tN (cE I) ∧ ∀ I' : IM, Fr kScr I I' → I' 35 5 = nI t → Hrd (cV I) (prog (cE I) t) (pN (cE I)) (sN (cE I)) I' → HrdT (cE I) t I' → Post none S1 I' L
theorem cE_listen : Con mLedger_listen 6 0 0 spE_listen := c_Ledger_listen.imp fun as S I L Post hs => by
  obtain ⟨t, rfl, rfl, hok, ht, h1⟩ := hs
  obtain ⟨b1, b2, b3⟩ := hok.say
  exact ⟨t, sN (cE I), pN (cE I), prog (cE I) t, rfl, rfl, b1, b2, b3, hok.ppl, hok.txt ht, fun I' hF hl hh => h1 I' (hF.wk (by decide)) hl hh hh.toE⟩
def spE_reckon : SpT := fun as S I L Post => ∃ t : Nat, as = [.ref 35, .int (nI t)] ∧ S = S1 ∧ cOk I ∧ t < tN (cE I) ∧ ∀ I' : IM, Fr kScr I I' → I' 35 5 = nI t → RK (cV I) (prog (cE I) t) (pN (cE I)) (sN (cE I)) I' → OwesT (cE I) t I' → Post none S1 I' L
theorem cE_reckon : Con mLedger_reckon 7 0 0 spE_reckon := c_Ledger_reckon.imp fun as S I L Post hs => by
  obtain ⟨t, rfl, rfl, hok, ht, h1⟩ := hs
  obtain ⟨b1, b2, b3⟩ := hok.say
  exact ⟨t, sN (cE I), pN (cE I), qN (cE I), prog (cE I) t, rfl, rfl, b1, b2, b3, hok.ppl, hok.txt ht, hok.vow, fun I' hF hl hh ho => h1 I' hF hl hh ho.toE⟩
/-- what is owed, by the law t, of all SAYINGS -/
def RT (E : IM) (t : Nat) : Nat → Nat → Int32 := RE E (prog E t) (CE E t) (-1) (sN E)
def TT (E : IM) (t : Nat) : Nat → Int32 := TE E (prog E t) (CE E t) (-1) (sN E)
theorem OwesT.row {E I' : IM} {t p q : Nat} (h : OwesT E t I') (hp : p < pN E) (hq : q < 8) : I' 39 (p * 8 + q) = RT E t p q := (h p hp).1 q hq
theorem OwesT.tot {E I' : IM} {t p : Nat} (h : OwesT E t I') (hp : p < pN E) : I' 40 p = TT E t p := (h p hp).2.2.2
theorem OwesT.rows {I I' : IM} {t : Nat} (h : OwesT (cE I) t I') (hok : cOk I) (hF : Fr kScr I I') : Rows I' (pN (cE I)) (RT (cE I) t) := ⟨by rw [hF 4 (by decide)]; exact hok.1.1, hok.1.2.1, fun p hp => (h p hp).1⟩
theorem cOk.law {I : IM} (h : cOk I) : I 30 3 = nI (wN (cE I)) ∧ wN (cE I) < tN (cE I) := h.2.2.2.2.1
theorem cE_k {I I' : IM} (hF : Fr kScr I I') : cE I' = cE I := cE_fr (hF.wk (by decide))
theorem kstay {I I' : IM} (hF : Fr kScr I I') : ∀ k, 59 ≤ k → I' k = I k := fun k hk => hF k (by simp; omega)
def hearsS (E : IM) (s p : Int32) : Int32 := if ¬ inR s 0 (E 29 3 - 1) ∨ ¬ inR p 0 (E 29 1 - 1) then -5 else hearV E (PE E) (cl s) (cl p)
def sp_W_hears : SpT := fun as S I L Post => ∃ s p : Int32, cSp [.int s, .int p] (fun E => .int (hearsS E s p)) (fun E => E) as S I L Post
set_option maxHeartbeats 4000000 in
set_option maxRecDepth 100000 in
theorem c_W_hears : Con mW_hears 7 0 0 sp_W_hears := by
  refine con_of_X rfl fun G as S I L Post hs => ?_
  obtain ⟨s, p, rfl, rfl, hok, h1⟩ := hs
  dsimp only at h1
  refine ⟨0, Nat.le_of_ble_eq_true rfl, ?_⟩
  show X mW_hears G _ S1 I L 0 [.ref 0, .int s, .int p] [] Post
  obtain ⟨b1, b2, -⟩ := hok.say
  obtain ⟨c1, c2, -⟩ := hok.ppl
  obtain ⟨l1, l2⟩ := hok.law
  have bad : (¬ inR s 0 (cE I 29 3 - 1) ∨ ¬ inR p 0 (cE I 29 1 - 1)) → X mW_hears G (7, 0, 0) S1 I L 22 [.ref 0, .int s, .int p] [] Post := by
    intro hc
    rw [hearsS, if_pos hc] at h1
    refine x_bipush (v := -5) dW_hears_22 rfl ?_
    -- at 24: .ireturn
    refine x_ireturn dW_hears_24 rfl rfl ?_
    exact h1 I (fun _ _ => rfl) rfl
  refine x_aload_n dW_hears_0 rfl ?_
  refine x_getR fl_W_33 rfl dW_hears_1 rfl rfl rfl ?_
  refine x_iload_n dW_hears_4 rfl ?_
  -- at 5: .invokevirtual 192
  refine x_callV_1 c_Sayings_has ok_Sayings_has ml_W_192 dW_hears_5 rfl rfl rfl rfl rfl ?_
  refine ⟨_, rfl, rfl, fun a1 => ?_, fun a1 => ?_⟩
  · refine x_if_eq (tgt := 22) dW_hears_8 (by decide) (fun h => absurd h (by decide)) (fun _ => ?_)
    refine x_aload_n dW_hears_11 rfl ?_
    refine x_getR fl_W_19 rfl dW_hears_12 rfl rfl rfl ?_
    refine x_iload_n dW_hears_15 rfl ?_
    -- at 16: .invokevirtual 143
    refine x_callV_1 c_Folk_has ok_Folk_has ml_W_143 dW_hears_16 rfl rfl rfl rfl rfl ?_
    refine ⟨_, rfl, rfl, fun a2 => ?_, fun a2 => ?_⟩
    · refine x_if_ne (tgt := 25) dW_hears_19 (by decide) (fun _ => ?_) (fun h => absurd h (by decide))
      have a1 : inR s 0 (cE I 29 3 - 1) := a1
      have a2 : inR p 0 (cE I 29 1 - 1) := a2
      rw [hearsS, if_neg (fun z => z.elim (fun y => y a1) (fun y => y a2))] at h1
      rw [show cE I 29 3 = nI (sN (cE I)) from b1] at a1
      rw [show cE I 29 1 = nI (pN (cE I)) from c1] at a2
      obtain ⟨i, hi, rfl⟩ := has_nat (by omega) a1
      obtain ⟨j, hj, rfl⟩ := has_nat (by omega) a2
      rw [cl_nI (by omega), cl_nI (by omega)] at h1
      refine x_aload_n dW_hears_25 rfl ?_
      refine x_getR fl_W_56 rfl dW_hears_26 rfl rfl rfl ?_
      refine x_aload_n dW_hears_29 rfl ?_
      refine x_getR fl_W_47 rfl dW_hears_30 rfl rfl rfl ?_
      refine x_getI fl_W_127 rfl dW_hears_33 rfl rfl ?_
      -- at 36: .invokevirtual 205
      rw [l1]
      refine x_callV_1 cE_listen ok_Ledger_listen ml_W_205 dW_hears_36 rfl rfl rfl rfl rfl ?_
      refine ⟨_, rfl, rfl, hok, l2, fun I' hF _ _ hh => ?_⟩
      refine x_aload_n dW_hears_39 rfl ?_
      refine x_getR fl_W_56 rfl dW_hears_40 rfl rfl rfl ?_
      refine x_getR fl_W_208 rfl dW_hears_43 rfl rfl rfl ?_
      refine x_iload_n dW_hears_46 rfl ?_
      refine x_bipush (v := 8) dW_hears_47 rfl ?_
      refine x_imul dW_hears_49 ?_
      refine x_iload_n dW_hears_50 rfl ?_
      refine x_iadd dW_hears_51 ?_
      refine x_ialdJ (j := i * 8 + j) dW_hears_52 rfl rfl (by first | rfl | (simp only [← nI_add, ← pk_mul]; rfl)) (by omega) ?_
      -- at 53: .ireturn
      refine x_ireturn dW_hears_53 rfl rfl ?_
      rw [(hh i hi).1 j hj]
      exact h1 I' (kstay hF) (cE_k hF)
    · refine x_if_ne (tgt := 25) dW_hears_19 (by decide) (fun h => absurd (by decide) h) (fun _ => ?_)
      exact bad (Or.inr a2)
  · refine x_if_eq (tgt := 22) dW_hears_8 (by decide) (fun _ => ?_) (fun h => absurd (by decide) h)
    exact bad (Or.inl a1)
def heardS (E : IM) (s : Int32) : Int32 := if ¬ inR s 0 (E 29 3 - 1) then -5 else CE E (wN E) (cl s)
def sp_W_heard : SpT := fun as S I L Post => ∃ s : Int32, cSp [.int s] (fun E => .int (heardS E s)) (fun E => E) as S I L Post
set_option maxHeartbeats 4000000 in
set_option maxRecDepth 100000 in
theorem c_W_heard : Con mW_heard 7 0 0 sp_W_heard := by
  refine con_of_X rfl fun G as S I L Post hs => ?_
  obtain ⟨s, rfl, rfl, hok, h1⟩ := hs
  dsimp only at h1
  refine ⟨0, Nat.le_of_ble_eq_true rfl, ?_⟩
  show X mW_heard G _ S1 I L 0 [.ref 0, .int s] [] Post
  obtain ⟨b1, b2, -⟩ := hok.say
  obtain ⟨l1, l2⟩ := hok.law
  refine x_aload_n dW_heard_0 rfl ?_
  refine x_getR fl_W_33 rfl dW_heard_1 rfl rfl rfl ?_
  refine x_iload_n dW_heard_4 rfl ?_
  -- at 5: .invokevirtual 192
  refine x_callV_1 c_Sayings_has ok_Sayings_has ml_W_192 dW_heard_5 rfl rfl rfl rfl rfl ?_
  refine ⟨_, rfl, rfl, fun a1 => ?_, fun a1 => ?_⟩
  · have a1 : inR s 0 (cE I 29 3 - 1) := a1
    refine x_if_ne (tgt := 14) dW_heard_8 (by decide) (fun _ => ?_) (fun h => absurd h (by decide))
    rw [heardS, if_neg (not_not_intro a1)] at h1
    rw [show cE I 29 3 = nI (sN (cE I)) from b1] at a1
    obtain ⟨i, hi, rfl⟩ := has_nat (by omega) a1
    rw [cl_nI (by omega)] at h1
    refine x_aload_n dW_heard_14 rfl ?_
    refine x_getR fl_W_56 rfl dW_heard_15 rfl rfl rfl ?_
    refine x_aload_n dW_heard_18 rfl ?_
    refine x_getR fl_W_47 rfl dW_heard_19 rfl rfl rfl ?_
    refine x_getI fl_W_127 rfl dW_heard_22 rfl rfl ?_
    -- at 25: .invokevirtual 205
    rw [l1]
    refine x_callV_1 cE_listen ok_Ledger_listen ml_W_205 dW_heard_25 rfl rfl rfl rfl rfl ?_
    refine ⟨_, rfl, rfl, hok, l2, fun I' hF _ _ hh => ?_⟩
    refine x_aload_n dW_heard_28 rfl ?_
    refine x_getR fl_W_56 rfl dW_heard_29 rfl rfl rfl ?_
    refine x_getR fl_W_211 rfl dW_heard_32 rfl rfl rfl ?_
    refine x_iload_n dW_heard_35 rfl ?_
    refine x_ialdJ dW_heard_36 rfl rfl rfl (by omega) ?_
    -- at 37: .ireturn
    refine x_ireturn dW_heard_37 rfl rfl ?_
    rw [(hh i hi).2]
    exact h1 I' (kstay hF) (cE_k hF)
  · have a1 : ¬ inR s 0 (cE I 29 3 - 1) := a1
    refine x_if_ne (tgt := 14) dW_heard_8 (by decide) (fun h => absurd (by decide) h) (fun _ => ?_)
    rw [heardS, if_pos a1] at h1
    refine x_bipush (v := -5) dW_heard_11 rfl ?_
    -- at 13: .ireturn
    refine x_ireturn dW_heard_13 rfl rfl ?_
    exact h1 I (fun _ _ => rfl) rfl
def nobodyS (E : IM) : Int32 := bs (sN E) (fun s => decide (CE E (wN E) s = 0))
def sp_W_nobody : SpT := cSp [] (fun E => .int (nobodyS E)) (fun E => E)
set_option maxHeartbeats 4000000 in
set_option maxRecDepth 100000 in
theorem c_W_nobody : Con mW_nobody 7 0 0 sp_W_nobody := by
  refine con_of_X rfl fun G as S I L Post hs => ?_
  obtain ⟨rfl, rfl, hok, h1⟩ := hs
  dsimp only at h1
  refine ⟨2, Nat.le_of_ble_eq_true rfl, ?_⟩
  show X mW_nobody G _ S1 I L 0 [.ref 0, .null, .null] [] Post
  obtain ⟨b1, b2, -⟩ := hok.say
  obtain ⟨l1, l2⟩ := hok.law
  refine x_aload_n dW_nobody_0 rfl ?_
  refine x_getR fl_W_56 rfl dW_nobody_1 rfl rfl rfl ?_
  refine x_aload_n dW_nobody_4 rfl ?_
  refine x_getR fl_W_47 rfl dW_nobody_5 rfl rfl rfl ?_
  refine x_getI fl_W_127 rfl dW_nobody_8 rfl rfl ?_
  -- at 11: .invokevirtual 205
  rw [l1]
  refine x_callV_1 cE_listen ok_Ledger_listen ml_W_205 dW_nobody_11 rfl rfl rfl rfl rfl ?_
  refine ⟨_, rfl, rfl, hok, l2, fun I' hF _ _ hh => ?_⟩
  refine x_iconst (v := 0) dW_nobody_14 rfl ?_
  refine x_istoren_1 dW_nobody_15 rfl rfl ?_
  refine x_iconst (v := 0) dW_nobody_16 rfl ?_
  refine x_istoren_2 dW_nobody_17 rfl rfl ?_
  -- at 18: .iload_n 2
  have e18 := hF 18 (by decide)
  have loop : ∀ (k i : Nat) (acc : Int32), i + k = sN (cE I) → acc = bs i (fun s => decide (CE (cE I) (wN (cE I)) s = 0)) → X mW_nobody G (7, 0, 0) S1 I' L 18 [.ref 0, .int acc, .int (nI i)] [] Post := by
    intro k
    induction k with
    | zero =>
      intro i acc hi ha
      obtain rfl : i = sN (cE I) := by omega
      refine x_iload_n dW_nobody_18 rfl ?_
      refine x_aload_n dW_nobody_19 rfl ?_
      refine x_getR fl_W_33 rfl dW_nobody_20 rfl rfl rfl ?_
      refine x_getI fl_W_125 rfl dW_nobody_23 rfl rfl ?_
      -- at 26: .if_icmp .ge 27
      rw [e18, b1]
      refine x_icmp_ge (tgt := 53) dW_nobody_26 (by decide) (fun _ => ?_) (fun h => absurd (Int32.le_refl _) h)
      refine x_iload_n dW_nobody_53 rfl ?_
      -- at 54: .ireturn
      refine x_ireturn dW_nobody_54 rfl rfl ?_
      rw [ha]
      exact h1 I' (kstay hF) (cE_k hF)
    | succ k ih =>
      intro i acc hi ha
      refine x_iload_n dW_nobody_18 rfl ?_
      refine x_aload_n dW_nobody_19 rfl ?_
      refine x_getR fl_W_33 rfl dW_nobody_20 rfl rfl rfl ?_
      refine x_getI fl_W_125 rfl dW_nobody_23 rfl rfl ?_
      -- at 26: .if_icmp .ge 27
      rw [e18, b1]
      refine x_icmp_ge (tgt := 53) dW_nobody_26 (by decide) (fun h => absurd h (nI_ge (b := sN (cE I)) (by omega) (by omega))) (fun _ => ?_)
      refine x_aload_n dW_nobody_29 rfl ?_
      refine x_getR fl_W_56 rfl dW_nobody_30 rfl rfl rfl ?_
      refine x_getR fl_W_211 rfl dW_nobody_33 rfl rfl rfl ?_
      refine x_iload_n dW_nobody_36 rfl ?_
      refine x_ialdJ dW_nobody_37 rfl rfl rfl (by omega) ?_
      -- at 38: .ifCond .ne 9
      rw [(hh i (by omega)).2]
      refine x_if_ne (tgt := 47) dW_nobody_38 (by decide) (fun c1 => ?_) (fun c1 => ?_)
      · refine x_iincp_2 dW_nobody_47 rfl rfl ?_
        refine x_goto (tgt := 18) dW_nobody_50 (by decide) ?_
        -- at 18: .iload_n 2
        rw [nI_1]
        refine ih (i + 1) _ (by omega) ?_
        rw [ha, bs, if_neg (by simpa using c1)]
      · refine x_iload_n dW_nobody_41 rfl ?_
        refine x_iconst (v := 1) dW_nobody_42 rfl ?_
        refine x_iload_n dW_nobody_43 rfl ?_
        refine x_ishl dW_nobody_44 ?_
        refine x_ior dW_nobody_45 ?_
        refine x_istoren_1 dW_nobody_46 rfl rfl ?_
        refine x_iincp_2 dW_nobody_47 rfl rfl ?_
        refine x_goto (tgt := 18) dW_nobody_50 (by decide) ?_
        -- at 18: .iload_n 2
        rw [nI_1]
        refine ih (i + 1) _ (by omega) ?_
        rw [ha, bs, if_pos (by simpa using c1)]
        rfl
  exact loop (sN (cE I)) 0 0 (by omega) rfl
def oweS (E : IM) (p q : Int32) : Int32 := if ¬ inR p 0 (E 29 1 - 1) ∨ ¬ inR q 0 (E 29 2 - 1) then -5 else RT E (wN E) (cl p) (cl q)
def sp_W_owe : SpT := fun as S I L Post => ∃ p q : Int32, cSp [.int p, .int q] (fun E => .int (oweS E p q)) (fun E => E) as S I L Post
set_option maxHeartbeats 4000000 in
set_option maxRecDepth 100000 in
theorem c_W_owe : Con mW_owe 8 0 0 sp_W_owe := by
  refine con_of_X rfl fun G as S I L Post hs => ?_
  obtain ⟨p, q, rfl, rfl, hok, h1⟩ := hs
  dsimp only at h1
  refine ⟨0, Nat.le_of_ble_eq_true rfl, ?_⟩
  show X mW_owe G _ S1 I L 0 [.ref 0, .int p, .int q] [] Post
  obtain ⟨v1, v2, -⟩ := hok.vow
  obtain ⟨c1, c2, -⟩ := hok.ppl
  obtain ⟨l1, l2⟩ := hok.law
  have bad : (¬ inR p 0 (cE I 29 1 - 1) ∨ ¬ inR q 0 (cE I 29 2 - 1)) → X mW_owe G (8, 0, 0) S1 I L 22 [.ref 0, .int p, .int q] [] Post := by
    intro hc
    rw [oweS, if_pos hc] at h1
    refine x_bipush (v := -5) dW_owe_22 rfl ?_
    -- at 24: .ireturn
    refine x_ireturn dW_owe_24 rfl rfl ?_
    exact h1 I (fun _ _ => rfl) rfl
  refine x_aload_n dW_owe_0 rfl ?_
  refine x_getR fl_W_19 rfl dW_owe_1 rfl rfl rfl ?_
  refine x_iload_n dW_owe_4 rfl ?_
  -- at 5: .invokevirtual 143
  refine x_callV_1 c_Folk_has ok_Folk_has ml_W_143 dW_owe_5 rfl rfl rfl rfl rfl ?_
  refine ⟨_, rfl, rfl, fun a1 => ?_, fun a1 => ?_⟩
  · refine x_if_eq (tgt := 22) dW_owe_8 (by decide) (fun h => absurd h (by decide)) (fun _ => ?_)
    refine x_aload_n dW_owe_11 rfl ?_
    refine x_getR fl_W_26 rfl dW_owe_12 rfl rfl rfl ?_
    refine x_iload_n dW_owe_15 rfl ?_
    -- at 16: .invokevirtual 174
    refine x_callV_1 c_Vows_has ok_Vows_has ml_W_174 dW_owe_16 rfl rfl rfl rfl rfl ?_
    refine ⟨_, rfl, rfl, fun a2 => ?_, fun a2 => ?_⟩
    · refine x_if_ne (tgt := 25) dW_owe_19 (by decide) (fun _ => ?_) (fun h => absurd h (by decide))
      have a1 : inR p 0 (cE I 29 1 - 1) := a1
      have a2 : inR q 0 (cE I 29 2 - 1) := a2
      rw [oweS, if_neg (fun z => z.elim (fun y => y a1) (fun y => y a2))] at h1
      rw [show cE I 29 1 = nI (pN (cE I)) from c1] at a1
      rw [show cE I 29 2 = nI (qN (cE I)) from v1] at a2
      obtain ⟨i, hi, rfl⟩ := has_nat (by omega) a1
      obtain ⟨j, hj, rfl⟩ := has_nat (by omega) a2
      rw [cl_nI (by omega), cl_nI (by omega)] at h1
      refine x_aload_n dW_owe_25 rfl ?_
      refine x_getR fl_W_56 rfl dW_owe_26 rfl rfl rfl ?_
      refine x_aload_n dW_owe_29 rfl ?_
      refine x_getR fl_W_47 rfl dW_owe_30 rfl rfl rfl ?_
      refine x_getI fl_W_127 rfl dW_owe_33 rfl rfl ?_
      -- at 36: .invokevirtual 213
      rw [l1]
      refine x_callV_1 cE_reckon ok_Ledger_reckon ml_W_213 dW_owe_36 rfl rfl rfl rfl rfl ?_
      refine ⟨_, rfl, rfl, hok, l2, fun I' hF _ _ ho => ?_⟩
      refine x_aload_n dW_owe_39 rfl ?_
      refine x_getR fl_W_56 rfl dW_owe_40 rfl rfl rfl ?_
      refine x_getR fl_W_216 rfl dW_owe_43 rfl rfl rfl ?_
      refine x_iload_n dW_owe_46 rfl ?_
      refine x_bipush (v := 8) dW_owe_47 rfl ?_
      refine x_imul dW_owe_49 ?_
      refine x_iload_n dW_owe_50 rfl ?_
      refine x_iadd dW_owe_51 ?_
      refine x_ialdJ (j := i * 8 + j) dW_owe_52 rfl rfl (by first | rfl | (simp only [← nI_add, ← pk_mul]; rfl)) (by omega) ?_
      -- at 53: .ireturn
      refine x_ireturn dW_owe_53 rfl rfl ?_
      rw [ho.row hi (by omega)]
      exact h1 I' (kstay hF) (cE_k hF)
    · refine x_if_ne (tgt := 25) dW_owe_19 (by decide) (fun h => absurd (by decide) h) (fun _ => ?_)
      exact bad (Or.inr a2)
  · refine x_if_eq (tgt := 22) dW_owe_8 (by decide) (fun _ => ?_) (fun h => absurd (by decide) h)
    exact bad (Or.inl a1)
def doneS (E : IM) (q : Int32) : Int32 := if ¬ inR q 0 (E 29 2 - 1) then -5 else doneV E (pN E) (RT E (wN E)) (cl q)
def sp_W_done : SpT := fun as S I L Post => ∃ q : Int32, cSp [.int q] (fun E => .int (doneS E q)) (fun E => E) as S I L Post
theorem cV_k {I I' : IM} (hF : Fr kScr I I') : cV I' = cV I := cV_fr (hF.wk (by decide))
set_option maxHeartbeats 4000000 in
set_option maxRecDepth 100000 in
theorem c_W_done : Con mW_done 8 0 0 sp_W_done := by
  refine con_of_X rfl fun G as S I L Post hs => ?_
  obtain ⟨q, rfl, rfl, hok, h1⟩ := hs
  dsimp only at h1
  refine ⟨0, Nat.le_of_ble_eq_true rfl, ?_⟩
  show X mW_done G _ S1 I L 0 [.ref 0, .int q] [] Post
  obtain ⟨v1, v2, -⟩ := hok.vow
  obtain ⟨l1, l2⟩ := hok.law
  refine x_aload_n dW_done_0 rfl ?_
  refine x_getR fl_W_26 rfl dW_done_1 rfl rfl rfl ?_
  refine x_iload_n dW_done_4 rfl ?_
  -- at 5: .invokevirtual 174
  refine x_callV_1 c_Vows_has ok_Vows_has ml_W_174 dW_done_5 rfl rfl rfl rfl rfl ?_
  refine ⟨_, rfl, rfl, fun a1 => ?_, fun a1 => ?_⟩
  · have a1 : inR q 0 (cE I 29 2 - 1) := a1
    refine x_if_ne (tgt := 14) dW_done_8 (by decide) (fun _ => ?_) (fun h => absurd h (by decide))
    rw [doneS, if_neg (not_not_intro a1)] at h1
    rw [show cE I 29 2 = nI (qN (cE I)) from v1] at a1
    obtain ⟨i, hi, rfl⟩ := has_nat (by omega) a1
    rw [cl_nI (by omega)] at h1
    refine x_aload_n dW_done_14 rfl ?_
    refine x_getR fl_W_56 rfl dW_done_15 rfl rfl rfl ?_
    refine x_aload_n dW_done_18 rfl ?_
    refine x_getR fl_W_47 rfl dW_done_19 rfl rfl rfl ?_
    refine x_getI fl_W_127 rfl dW_done_22 rfl rfl ?_
    -- at 25: .invokevirtual 213
    rw [l1]
    refine x_callV_1 cE_reckon ok_Ledger_reckon ml_W_213 dW_done_25 rfl rfl rfl rfl rfl ?_
    refine ⟨_, rfl, rfl, hok, l2, fun I' hF _ _ ho => ?_⟩
    refine x_aload_n dW_done_28 rfl ?_
    refine x_getR fl_W_56 rfl dW_done_29 rfl rfl rfl ?_
    refine x_iload_n dW_done_32 rfl ?_
    -- at 33: .invokevirtual 232
    refine x_callV_1 c_Ledger_doneOf ok_Ledger_doneOf ml_W_232 dW_done_33 rfl rfl rfl rfl rfl ?_
    refine ⟨i, _, _, rfl, rfl, by omega, ho.rows hok hF, ?_⟩
    refine x_ireturn dW_done_36 rfl rfl ?_
    rw [cV_k hF, done_eq (cVE I) (pN (cE I)) (R' := RT (cE I) (wN (cE I))) (fun p hp => rfl)]
    exact h1 I' (kstay hF) (cE_k hF)
  · have a1 : ¬ inR q 0 (cE I 29 2 - 1) := a1
    refine x_if_ne (tgt := 14) dW_done_8 (by decide) (fun h => absurd (by decide) h) (fun _ => ?_)
    rw [doneS, if_pos a1] at h1
    refine x_bipush (v := -5) dW_done_11 rfl ?_
    -- at 13: .ireturn
    refine x_ireturn dW_done_13 rfl rfl ?_
    exact h1 I (fun _ _ => rfl) rfl
end
section
-- 36.w5
/-! the class's calls: load, sum, the sayer -/
def loadS (E : IM) (p w : Int32) : Int32 := if ¬ inR p 0 (E 29 1 - 1) then -5 else if ¬ inR w 0 4 then -7 else
  if w = 0 then TT E (wN E) (cl p) else if w = 1 then str1 E (DD E (PE E) (CE E (wN E)) (cl p)) (qN E) (-1) (sN E) else if w = 2 then (OE E (PE E) (CE E (wN E)) (-1) (sN E) (cl p)).2.2 else
  if w = 3 then painV E (PE E) (TT E (wN E)) (cl p) else E 8 (cl p) - TT E (wN E) (cl p)
def sp_W_load : SpT := fun as S I L Post => ∃ p w : Int32, cSp [.int p, .int w] (fun E => .int (loadS E p w)) (fun E => E) as S I L Post
set_option maxHeartbeats 4000000 in
set_option maxRecDepth 100000 in
theorem c_W_load : Con mW_load 8 0 0 sp_W_load := by
  refine con_of_X rfl fun G as S I L Post hs => ?_
  obtain ⟨p, w, rfl, rfl, hok, h1⟩ := hs
  dsimp only at h1
  refine ⟨0, Nat.le_of_ble_eq_true rfl, ?_⟩
  show X mW_load G _ S1 I L 0 [.ref 0, .int p, .int w] [] Post
  obtain ⟨c1, c2, -⟩ := hok.ppl
  obtain ⟨l1, l2⟩ := hok.law
  refine x_aload_n dW_load_0 rfl ?_
  refine x_getR fl_W_19 rfl dW_load_1 rfl rfl rfl ?_
  refine x_iload_n dW_load_4 rfl ?_
  -- at 5: .invokevirtual 143
  refine x_callV_1 c_Folk_has ok_Folk_has ml_W_143 dW_load_5 rfl rfl rfl rfl rfl ?_
  refine ⟨_, rfl, rfl, fun a1 => ?_, fun a1 => ?_⟩
  · have a1 : inR p 0 (cE I 29 1 - 1) := a1
    refine x_if_ne (tgt := 14) dW_load_8 (by decide) (fun _ => ?_) (fun h => absurd h (by decide))
    rw [loadS, if_neg (not_not_intro a1)] at h1
    rw [show cE I 29 1 = nI (pN (cE I)) from c1] at a1
    obtain ⟨i, hi, rfl⟩ := has_nat (by omega) a1
    rw [cl_nI (by omega)] at h1
    refine x_iload_n dW_load_14 rfl ?_
    refine x_iconst (v := 0) dW_load_15 rfl ?_
    refine x_iconst (v := 4) dW_load_16 rfl ?_
    -- at 17: .invokestatic 101
    refine x_callS_3 c_W_within ok_W_within ml_W_101 dW_load_17 rfl rfl ?_
    refine ⟨_, _, _, rfl, fun a2 => ?_, fun a2 => ?_⟩
    · have a2 : inR w 0 4 := a2
      refine x_if_ne (tgt := 26) dW_load_20 (by decide) (fun _ => ?_) (fun h => absurd h (by decide))
      rw [if_neg (not_not_intro a2)] at h1
      obtain ⟨j, hj, rfl⟩ := inR_of (n := 4) (by decide) a2
      refine x_aload_n dW_load_26 rfl ?_
      refine x_getR fl_W_56 rfl dW_load_27 rfl rfl rfl ?_
      refine x_aload_n dW_load_30 rfl ?_
      refine x_getR fl_W_47 rfl dW_load_31 rfl rfl rfl ?_
      refine x_getI fl_W_127 rfl dW_load_34 rfl rfl ?_
      -- at 37: .invokevirtual 213
      rw [l1]
      refine x_callV_1 cE_reckon ok_Ledger_reckon ml_W_213 dW_load_37 rfl rfl rfl rfl rfl ?_
      refine ⟨_, rfl, rfl, hok, l2, fun I' hF hl _ ho => ?_⟩
      obtain ⟨o1, o2, o3, o4⟩ := ho i hi
      refine x_iload_n dW_load_40 rfl ?_
      -- at 41: .tableswitch 70 0 3 #[31, 41, 51, 61]
      rcases (show j = 0 ∨ j = 1 ∨ j = 2 ∨ j = 3 ∨ j = 4 by omega) with rfl | rfl | rfl | rfl | rfl
      · rw [if_pos (show nI 0 = (0 : Int32) from rfl)] at h1
        refine x_tableIn (tgt := 72) dW_load_41 (by decide) (by decide) rfl (by decide) ?_
        refine x_aload_n dW_load_72 rfl ?_
        refine x_getR fl_W_56 rfl dW_load_73 rfl rfl rfl ?_
        refine x_getR fl_W_219 rfl dW_load_76 rfl rfl rfl ?_
        refine x_iload_n dW_load_79 rfl ?_
        refine x_ialdJ dW_load_80 rfl rfl rfl (by omega) ?_
        -- at 81: .ireturn
        refine x_ireturn dW_load_81 rfl rfl ?_
        rw [o4]
        exact h1 I' (kstay hF) (cE_k hF)
      · rw [if_neg (show ¬ nI 1 = (0 : Int32) by decide), if_pos (show nI 1 = (1 : Int32) from rfl)] at h1
        refine x_tableIn (tgt := 82) dW_load_41 (by decide) (by decide) rfl (by decide) ?_
        refine x_aload_n dW_load_82 rfl ?_
        refine x_getR fl_W_56 rfl dW_load_83 rfl rfl rfl ?_
        refine x_getR fl_W_222 rfl dW_load_86 rfl rfl rfl ?_
        refine x_iload_n dW_load_89 rfl ?_
        refine x_ialdJ dW_load_90 rfl rfl rfl (by omega) ?_
        -- at 91: .ireturn
        refine x_ireturn dW_load_91 rfl rfl ?_
        rw [o2]
        exact h1 I' (kstay hF) (cE_k hF)
      · rw [if_neg (show ¬ nI 2 = (0 : Int32) by decide), if_neg (show ¬ nI 2 = (1 : Int32) by decide), if_pos (show nI 2 = (2 : Int32) from rfl)] at h1
        refine x_tableIn (tgt := 92) dW_load_41 (by decide) (by decide) rfl (by decide) ?_
        refine x_aload_n dW_load_92 rfl ?_
        refine x_getR fl_W_56 rfl dW_load_93 rfl rfl rfl ?_
        refine x_getR fl_W_225 rfl dW_load_96 rfl rfl rfl ?_
        refine x_iload_n dW_load_99 rfl ?_
        refine x_ialdJ dW_load_100 rfl rfl rfl (by omega) ?_
        -- at 101: .ireturn
        refine x_ireturn dW_load_101 rfl rfl ?_
        rw [o3]
        exact h1 I' (kstay hF) (cE_k hF)
      · rw [if_neg (show ¬ nI 3 = (0 : Int32) by decide), if_neg (show ¬ nI 3 = (1 : Int32) by decide), if_neg (show ¬ nI 3 = (2 : Int32) by decide), if_pos (show nI 3 = (3 : Int32) from rfl)] at h1
        refine x_tableIn (tgt := 102) dW_load_41 (by decide) (by decide) rfl (by decide) ?_
        refine x_aload_n dW_load_102 rfl ?_
        refine x_getR fl_W_56 rfl dW_load_103 rfl rfl rfl ?_
        refine x_iload_n dW_load_106 rfl ?_
        -- at 107: .invokevirtual 228
        refine x_callV_1 c_Ledger_painOf ok_Ledger_painOf ml_W_228 dW_load_107 rfl rfl rfl rfl rfl ?_
        refine ⟨i, wN (cE I), PE (cE I), rfl, rfl, by omega, hl, (hok.txt l2).fr (hF _ (by decide)) (hF _ (by decide)), fun I2 hF2 => ?_⟩
        refine x_ireturn dW_load_110 rfl rfl ?_
        have e : painV (cV I') (PE (cE I)) (I' 40) i = painV (cE I) (PE (cE I)) (TT (cE I) (wN (cE I))) i := by
          rw [cV_k hF]
          unfold painV
          rw [ho.tot hi]
          rfl
        rw [e]
        have hF3 : Fr kScr I I2 := hF.tr (hF2.wk (by decide))
        exact h1 I2 (kstay hF3) (cE_k hF3)
      · rw [if_neg (show ¬ nI 4 = (0 : Int32) by decide), if_neg (show ¬ nI 4 = (1 : Int32) by decide), if_neg (show ¬ nI 4 = (2 : Int32) by decide), if_neg (show ¬ nI 4 = (3 : Int32) by decide)] at h1
        refine x_tableOut (tgt := 111) dW_load_41 (by decide) (by decide) ?_
        refine x_aload_n dW_load_111 rfl ?_
        refine x_getR fl_W_19 rfl dW_load_112 rfl rfl rfl ?_
        refine x_getR fl_W_167 rfl dW_load_115 rfl rfl rfl ?_
        refine x_iload_n dW_load_118 rfl ?_
        refine x_ialdJ dW_load_119 rfl rfl rfl (by omega) ?_
        refine x_aload_n dW_load_120 rfl ?_
        refine x_getR fl_W_56 rfl dW_load_121 rfl rfl rfl ?_
        refine x_getR fl_W_219 rfl dW_load_124 rfl rfl rfl ?_
        refine x_iload_n dW_load_127 rfl ?_
        refine x_ialdJ dW_load_128 rfl rfl rfl (by omega) ?_
        refine x_isub dW_load_129 ?_
        -- at 130: .ireturn
        refine x_ireturn dW_load_130 rfl rfl ?_
        rw [o4, hF 11 (by decide)]
        exact h1 I' (kstay hF) (cE_k hF)
    · have a2 : ¬ inR w 0 4 := a2
      refine x_if_ne (tgt := 26) dW_load_20 (by decide) (fun h => absurd (by decide) h) (fun _ => ?_)
      rw [if_pos a2] at h1
      refine x_bipush (v := -7) dW_load_23 rfl ?_
      -- at 25: .ireturn
      refine x_ireturn dW_load_25 rfl rfl ?_
      exact h1 I (fun _ _ => rfl) rfl
  · have a1 : ¬ inR p 0 (cE I 29 1 - 1) := a1
    refine x_if_ne (tgt := 14) dW_load_8 (by decide) (fun h => absurd (by decide) h) (fun _ => ?_)
    rw [loadS, if_pos a1] at h1
    refine x_bipush (v := -5) dW_load_11 rfl ?_
    -- at 13: .ireturn
    refine x_ireturn dW_load_13 rfl rfl ?_
    exact h1 I (fun _ _ => rfl) rfl
/-- the outcome w of what is owed (R), in all (T), by programs P -/
def outE (E : IM) (P : Nat → List Int32) (R : Nat → Nat → Int32) (T : Nat → Int32) (w : Int32) : Int32 := outV E P (pN E) (qN E) R T w
def sumS (E : IM) (w : Int32) : Int32 := if ¬ inR w 0 3 then -2 else if w = 3 then fullV E (TT E (wN E)) (pN E) else outE E (PE E) (RT E (wN E)) (TT E (wN E)) w
theorem out_eq {V E : IM} {n m : Nat} (h : VEq V E n m) (P : Nat → List Int32) {k nq : Nat} (hq : nq ≤ 8) {R R' : Nat → Nat → Int32} {T T' : Nat → Int32} (hR : ∀ p, p < k → ∀ q, q < 8 → R p q = R' p q) (hT : ∀ p, p < k → T p = T' p) (w : Int32) : outV V P k nq R T w = outV E P k nq R' T' w := by
  unfold outV
  rw [kept_eq h k nq hq hR, worth_eq h k hR nq hq, pain_eq h P k hT]
def sp_W_sum : SpT := fun as S I L Post => ∃ w : Int32, cSp [.int w] (fun E => .int (sumS E w)) (fun E => E) as S I L Post
set_option maxHeartbeats 4000000 in
set_option maxRecDepth 100000 in
theorem c_W_sum : Con mW_sum 8 0 0 sp_W_sum := by
  refine con_of_X rfl fun G as S I L Post hs => ?_
  obtain ⟨w, rfl, rfl, hok, h1⟩ := hs
  dsimp only at h1
  refine ⟨0, Nat.le_of_ble_eq_true rfl, ?_⟩
  show X mW_sum G _ S1 I L 0 [.ref 0, .int w] [] Post
  obtain ⟨c1, c2, -⟩ := hok.ppl
  obtain ⟨v1, v2, -⟩ := hok.vow
  obtain ⟨l1, l2⟩ := hok.law
  refine x_iload_n dW_sum_0 rfl ?_
  refine x_iconst (v := 0) dW_sum_1 rfl ?_
  refine x_iconst (v := 3) dW_sum_2 rfl ?_
  -- at 3: .invokestatic 101
  refine x_callS_3 c_W_within ok_W_within ml_W_101 dW_sum_3 rfl rfl ?_
  refine ⟨_, _, _, rfl, fun a1 => ?_, fun a1 => ?_⟩
  · have a1 : inR w 0 3 := a1
    refine x_if_ne (tgt := 12) dW_sum_6 (by decide) (fun _ => ?_) (fun h => absurd h (by decide))
    rw [sumS, if_neg (not_not_intro a1)] at h1
    refine x_aload_n dW_sum_12 rfl ?_
    refine x_getR fl_W_56 rfl dW_sum_13 rfl rfl rfl ?_
    refine x_aload_n dW_sum_16 rfl ?_
    refine x_getR fl_W_47 rfl dW_sum_17 rfl rfl rfl ?_
    refine x_getI fl_W_127 rfl dW_sum_20 rfl rfl ?_
    -- at 23: .invokevirtual 213
    rw [l1]
    refine x_callV_1 cE_reckon ok_Ledger_reckon ml_W_213 dW_sum_23 rfl rfl rfl rfl rfl ?_
    refine ⟨_, rfl, rfl, hok, l2, fun I' hF hl _ ho => ?_⟩
    refine x_iload_n dW_sum_26 rfl ?_
    refine x_iconst (v := 3) dW_sum_27 rfl ?_
    -- at 28: .if_icmp .ne 13
    refine x_icmp_ne (tgt := 41) dW_sum_28 (by decide) (fun c3 => ?_) (fun c3 => ?_)
    · rw [if_neg c3] at h1
      refine x_aload_n dW_sum_41 rfl ?_
      refine x_getR fl_W_56 rfl dW_sum_42 rfl rfl rfl ?_
      refine x_iload_n dW_sum_45 rfl ?_
      -- at 46: .invokevirtual 238
      refine x_callV_1 c_Ledger_outcome ok_Ledger_outcome ml_W_238 dW_sum_46 rfl rfl rfl rfl rfl ?_
      refine ⟨_, qN (cE I), wN (cE I), w, _, PE (cE I), rfl, rfl, ho.rows hok hF, by rw [hF 13 (by decide)]; exact v1, v2, hl, (hok.txt l2).fr (hF _ (by decide)) (hF _ (by decide)), fun I2 hF2 => ?_⟩
      rw [cV_k hF, out_eq (cVE I) (PE (cE I)) v2 (R' := RT (cE I) (wN (cE I))) (T' := TT (cE I) (wN (cE I))) (fun _ _ _ _ => rfl) (fun p hp => ho.tot hp)]
      have hF3 : Fr kScr I I2 := hF.tr (hF2.wk (by decide))
      refine x_ireturn dW_sum_49 rfl rfl ?_
      exact h1 I2 (kstay hF3) (cE_k hF3)
    · rw [if_pos c3] at h1
      refine x_aload_n dW_sum_31 rfl ?_
      refine x_getR fl_W_56 rfl dW_sum_32 rfl rfl rfl ?_
      -- at 35: .invokevirtual 235
      refine x_callV_0 c_Ledger_fullBits ok_Ledger_fullBits ml_W_235 dW_sum_35 rfl rfl rfl rfl rfl ?_
      refine ⟨pN (cE I), rfl, rfl, by rw [hF 4 (by decide)]; exact c1, c2, ?_⟩
      rw [cV_k hF, full_eq (cVE I) (pN (cE I)) (T' := TT (cE I) (wN (cE I))) (fun p hp => ho.tot hp)]
      refine x_goto (tgt := 49) dW_sum_38 (by decide) ?_
      -- at 49: .ireturn
      refine x_ireturn dW_sum_49 rfl rfl ?_
      exact h1 I' (kstay hF) (cE_k hF)
  · have a1 : ¬ inR w 0 3 := a1
    refine x_if_ne (tgt := 12) dW_sum_6 (by decide) (fun h => absurd (by decide) h) (fun _ => ?_)
    rw [sumS, if_pos a1] at h1
    refine x_bipush (v := -2) dW_sum_9 rfl ?_
    -- at 11: .ireturn
    refine x_ireturn dW_sum_11 rfl rfl ?_
    exact h1 I (fun _ _ => rfl) rfl
def wayV (E : IM) (s : Nat) : Int32 := E 0 (cl (E 15 (s - 1)) * 6 + cl (E 15 s))
def sp_W_wayTo : SpT := fun as S I L Post => ∃ s : Nat, as = [.ref 0, .int (nI s)] ∧ S = S1 ∧ cOk I ∧ 1 ≤ s ∧ s < sN (cE I) ∧ Post (some (.int (wayV (cE I) s))) S1 I L
set_option maxHeartbeats 4000000 in
set_option maxRecDepth 100000 in
theorem c_W_wayTo : Con mW_wayTo 3 0 0 sp_W_wayTo := by
  refine con_of_X rfl fun G as S I L Post hs => ?_
  obtain ⟨s, rfl, rfl, hok, hs1, hs2, h1⟩ := hs
  refine ⟨0, Nat.le_of_ble_eq_true rfl, ?_⟩
  show X mW_wayTo G _ S1 I L 0 [.ref 0, .int (nI s)] [] Post
  obtain ⟨b1, b2, b3⟩ := hok.say
  obtain ⟨-, ⟨u, hu, eu⟩, -⟩ := b3 s hs2
  obtain ⟨-, ⟨v, hv, ev⟩, -⟩ := b3 (s - 1) (by omega)
  have eu : I 20 s = nI u := eu
  have ev : I 20 (s - 1) = nI v := ev
  have e15 : cE I 15 s = nI u := (mk_lt hs2).trans eu
  have e15' : cE I 15 (s - 1) = nI v := (mk_lt (by rw [← cE_sN]; omega)).trans ev
  rw [wayV, e15, e15', cl_nI (by omega), cl_nI (by omega)] at h1
  refine x_aload_n dW_wayTo_0 rfl ?_
  refine x_getR fl_W_12 rfl dW_wayTo_1 rfl rfl rfl ?_
  refine x_aload_n dW_wayTo_4 rfl ?_
  refine x_getR fl_W_33 rfl dW_wayTo_5 rfl rfl rfl ?_
  refine x_getR fl_W_196 rfl dW_wayTo_8 rfl rfl rfl ?_
  refine x_iload_n dW_wayTo_11 rfl ?_
  refine x_iconst (v := 1) dW_wayTo_12 rfl ?_
  refine x_isub dW_wayTo_13 ?_
  refine x_ialdJ dW_wayTo_14 rfl rfl (pk_sub (b := 1) (by omega)) (by omega) ?_
  -- at 15: .aload_n 0
  rw [ev]
  refine x_aload_n dW_wayTo_15 rfl ?_
  refine x_getR fl_W_33 rfl dW_wayTo_16 rfl rfl rfl ?_
  refine x_getR fl_W_196 rfl dW_wayTo_19 rfl rfl rfl ?_
  refine x_iload_n dW_wayTo_22 rfl ?_
  refine x_ialdJ dW_wayTo_23 rfl rfl rfl (by omega) ?_
  -- at 24: .invokevirtual 105
  rw [eu]
  refine x_callV_2 c_Town_between ok_Town_between ml_W_105 dW_wayTo_24 rfl rfl rfl rfl rfl ?_
  refine ⟨v, u, rfl, rfl, hv, hu, ?_⟩
  refine x_ireturn dW_wayTo_27 rfl rfl ?_
  exact h1
abbrev lateV (E : IM) (s : Nat) : Prop := E 16 s - E 16 (s - 1) < 0 ∨ E 29 0 * (E 16 s - E 16 (s - 1)) < wayV E s
def jR (E : IM) (k i : Nat) : Int32 := match k with
  | 0 => -1
  | j + 1 => if lateV E i then nI i else jR E j (i + 1)
def judgeS (E : IM) : Int32 := jR E (sN E - 1) 1
def sp_W_judge : SpT := cSp [] (fun E => .int (judgeS E)) (fun E => E)
set_option maxHeartbeats 4000000 in
set_option maxRecDepth 100000 in
theorem c_W_judge : Con mW_judge 4 0 0 sp_W_judge := by
  refine con_of_X rfl fun G as S I L Post hs => ?_
  obtain ⟨rfl, rfl, hok, h1⟩ := hs
  dsimp only at h1
  have h1 := h1 I (fun _ _ => rfl) rfl
  refine ⟨2, Nat.le_of_ble_eq_true rfl, ?_⟩
  show X mW_judge G _ S1 I L 0 [.ref 0, .null, .null] [] Post
  obtain ⟨b1, b2, -⟩ := hok.say
  refine x_iconst (v := 1) dW_judge_0 rfl ?_
  refine x_istoren_1 dW_judge_1 rfl rfl ?_
  -- at 2: .iload_n 1
  have loop : ∀ (k i : Nat) (a2 : Value), (i + k = sN (cE I) ∨ (k = 0 ∧ sN (cE I) ≤ i ∧ i < 100)) → 1 ≤ i → Post (some (.int (jR (cE I) k i))) S1 I L → X mW_judge G (4, 0, 0) S1 I L 2 [.ref 0, .int (nI i), a2] [] Post := by
    intro k
    induction k with
    | zero =>
      intro i a2 hi hi1 hp
      refine x_iload_n dW_judge_2 rfl ?_
      refine x_aload_n dW_judge_3 rfl ?_
      refine x_getR fl_W_33 rfl dW_judge_4 rfl rfl rfl ?_
      refine x_getI fl_W_125 rfl dW_judge_7 rfl rfl ?_
      -- at 10: .if_icmp .ge 54
      rw [b1]
      refine x_icmp_ge (tgt := 64) dW_judge_10 (by decide) (fun _ => ?_) (fun h => absurd (nI_le (by omega) (by omega)) h)
      refine x_iconst (v := -1) dW_judge_64 rfl ?_
      -- at 65: .ireturn
      refine x_ireturn dW_judge_65 rfl rfl ?_
      exact hp
    | succ k ih =>
      intro i a2 hi hi1 hp
      have hi2 : i < sN (cE I) := by omega
      have e16 : I 21 i = cE I 16 i := (mk_lt hi2).symm
      have e16' : I 21 (i - 1) = cE I 16 (i - 1) := (mk_lt (by rw [← cE_sN]; omega)).symm
      rw [jR] at hp
      refine x_iload_n dW_judge_2 rfl ?_
      refine x_aload_n dW_judge_3 rfl ?_
      refine x_getR fl_W_33 rfl dW_judge_4 rfl rfl rfl ?_
      refine x_getI fl_W_125 rfl dW_judge_7 rfl rfl ?_
      -- at 10: .if_icmp .ge 54
      rw [b1]
      refine x_icmp_ge (tgt := 64) dW_judge_10 (by decide) (fun h => absurd h (nI_ge (by omega) (by omega))) (fun _ => ?_)
      refine x_aload_n dW_judge_13 rfl ?_
      refine x_getR fl_W_33 rfl dW_judge_14 rfl rfl rfl ?_
      refine x_getR fl_W_199 rfl dW_judge_17 rfl rfl rfl ?_
      refine x_iload_n dW_judge_20 rfl ?_
      refine x_ialdJ (j := i) dW_judge_21 rfl rfl (by first | rfl | (simp only [← nI_add, ← pk_mul]; rfl)) (by omega) ?_
      refine x_aload_n dW_judge_22 rfl ?_
      refine x_getR fl_W_33 rfl dW_judge_23 rfl rfl rfl ?_
      refine x_getR fl_W_199 rfl dW_judge_26 rfl rfl rfl ?_
      refine x_iload_n dW_judge_29 rfl ?_
      refine x_iconst (v := 1) dW_judge_30 rfl ?_
      refine x_isub dW_judge_31 ?_
      refine x_ialdJ dW_judge_32 rfl rfl (pk_sub (b := 1) (by omega)) (by omega) ?_
      -- at 33: .isub
      rw [e16, e16']
      refine x_isub dW_judge_33 ?_
      refine x_istoren_2 dW_judge_34 rfl rfl ?_
      refine x_iload_n dW_judge_35 rfl ?_
      -- at 36: .ifCond .lt 20
      refine x_if_lt (tgt := 56) dW_judge_36 (by decide) (fun c1 => ?_) (fun c1 => ?_)
      · rw [if_pos (show lateV (cE I) i from Or.inl c1)] at hp
        refine x_iload_n dW_judge_56 rfl ?_
        -- at 57: .ireturn
        refine x_ireturn dW_judge_57 rfl rfl ?_
        exact hp
      · refine x_aload_n dW_judge_39 rfl ?_
        refine x_iload_n dW_judge_40 rfl ?_
        -- at 41: .invokevirtual 241
        refine x_callV_1 c_W_wayTo ok_W_wayTo ml_W_241 dW_judge_41 rfl rfl rfl rfl rfl ?_
        refine ⟨i, rfl, rfl, hok, hi1, hi2, ?_⟩
        refine x_aload_n dW_judge_44 rfl ?_
        refine x_getR fl_W_12 rfl dW_judge_45 rfl rfl rfl ?_
        refine x_getI fl_W_117 rfl dW_judge_48 rfl rfl ?_
        refine x_iload_n dW_judge_51 rfl ?_
        refine x_imul dW_judge_52 ?_
        -- at 53: .if_icmp .le 5
        refine x_icmp_le (tgt := 58) dW_judge_53 (by decide) (fun c2 => ?_) (fun c2 => ?_)
        · rw [if_neg (show ¬ lateV (cE I) i from fun z => z.elim c1 (fun y => absurd y (Int32.not_lt.mpr c2)))] at hp
          refine x_iincp_1 dW_judge_58 rfl rfl ?_
          refine x_goto (tgt := 2) dW_judge_61 (by decide) ?_
          -- at 2: .iload_n 1
          rw [nI_1]
          exact ih (i + 1) _ (by omega) (by omega) hp
        · rw [if_pos (show lateV (cE I) i from Or.inr (Int32.not_le.mp c2))] at hp
          refine x_iload_n dW_judge_56 rfl ?_
          -- at 57: .ireturn
          refine x_ireturn dW_judge_57 rfl rfl ?_
          exact hp
  exact loop (sN (cE I) - 1) 1 .null (by omega) (by omega) h1
def wkR (E : IM) (k : Nat) : Int32 := match k with
  | 0 => 0
  | j + 1 => wkR E j + wayV E (j + 1)
def walkS (E : IM) : Int32 := wkR E (sN E - 1)
def sp_W_walk : SpT := cSp [] (fun E => .int (walkS E)) (fun E => E)
set_option maxHeartbeats 4000000 in
set_option maxRecDepth 100000 in
theorem c_W_walk : Con mW_walk 4 0 0 sp_W_walk := by
  refine con_of_X rfl fun G as S I L Post hs => ?_
  obtain ⟨rfl, rfl, hok, h1⟩ := hs
  dsimp only at h1
  have h1 := h1 I (fun _ _ => rfl) rfl
  refine ⟨2, Nat.le_of_ble_eq_true rfl, ?_⟩
  show X mW_walk G _ S1 I L 0 [.ref 0, .null, .null] [] Post
  obtain ⟨b1, b2, -⟩ := hok.say
  refine x_iconst (v := 0) dW_walk_0 rfl ?_
  refine x_istoren_1 dW_walk_1 rfl rfl ?_
  refine x_iconst (v := 1) dW_walk_2 rfl ?_
  refine x_istoren_2 dW_walk_3 rfl rfl ?_
  -- at 4: .iload_n 2
  have loop : ∀ (k i : Nat) (acc : Int32), i + k = sN (cE I) - 1 → acc = wkR (cE I) i → X mW_walk G (4, 0, 0) S1 I L 4 [.ref 0, .int acc, .int (nI (i + 1))] [] Post := by
    intro k
    induction k with
    | zero =>
      intro i acc hi ha
      obtain rfl : i = sN (cE I) - 1 := by omega
      refine x_iload_n dW_walk_4 rfl ?_
      refine x_aload_n dW_walk_5 rfl ?_
      refine x_getR fl_W_33 rfl dW_walk_6 rfl rfl rfl ?_
      refine x_getI fl_W_125 rfl dW_walk_9 rfl rfl ?_
      -- at 12: .if_icmp .ge 17
      rw [b1]
      refine x_icmp_ge (tgt := 29) dW_walk_12 (by decide) (fun _ => ?_) (fun h => absurd (nI_le (by omega) (by omega)) h)
      refine x_iload_n dW_walk_29 rfl ?_
      -- at 30: .ireturn
      refine x_ireturn dW_walk_30 rfl rfl ?_
      rw [ha]
      exact h1
    | succ k ih =>
      intro i acc hi ha
      refine x_iload_n dW_walk_4 rfl ?_
      refine x_aload_n dW_walk_5 rfl ?_
      refine x_getR fl_W_33 rfl dW_walk_6 rfl rfl rfl ?_
      refine x_getI fl_W_125 rfl dW_walk_9 rfl rfl ?_
      -- at 12: .if_icmp .ge 17
      rw [b1]
      refine x_icmp_ge (tgt := 29) dW_walk_12 (by decide) (fun h => absurd h (nI_ge (by omega) (by omega))) (fun _ => ?_)
      refine x_iload_n dW_walk_15 rfl ?_
      refine x_aload_n dW_walk_16 rfl ?_
      refine x_iload_n dW_walk_17 rfl ?_
      -- at 18: .invokevirtual 241
      refine x_callV_1 c_W_wayTo ok_W_wayTo ml_W_241 dW_walk_18 rfl rfl rfl rfl rfl ?_
      refine ⟨i + 1, rfl, rfl, hok, by omega, by omega, ?_⟩
      refine x_iadd dW_walk_21 ?_
      refine x_istoren_1 dW_walk_22 rfl rfl ?_
      refine x_iincp_2 dW_walk_23 rfl rfl ?_
      refine x_goto (tgt := 4) dW_walk_26 (by decide) ?_
      -- at 4: .iload_n 2
      rw [nI_1]
      refine ih (i + 1) _ (by omega) ?_
      rw [wkR, ha]
  exact loop (sN (cE I) - 1) 0 0 (by omega) rfl
end
section
-- 37.more
/-! one saying more: in the state's words -/
def M1 (E : IM) (q : Nat) (h : Int32) : IM := sputV E (sN E) (nI q) h
def C1 (E : IM) (t q : Nat) (h : Int32) : Nat → Int32 := CC (M1 E q h) (prog E t) (pN E)
def D1 (E : IM) (t q : Nat) (h : Int32) : Nat → Nat → Int32 := DD (M1 E q h) (prog E t) (C1 E t q h)
def R1 (E : IM) (t q : Nat) (h : Int32) : Nat → Nat → Int32 := fun p => (fin1 (M1 E q h) (D1 E t q h p) (qN E) (-1) (sN E + 1) p).1
def T1 (E : IM) (t q : Nat) (h : Int32) : Nat → Int32 := fun p => tot1 (M1 E q h) (D1 E t q h p) (qN E) (-1) (sN E + 1) p
def keep1 (E : IM) (t q : Nat) (h : Int32) : Bool := keepsV (M1 E q h) (pN E) (R1 E t q h) q
def pain1 (E : IM) (t q : Nat) (h : Int32) : Int32 := painA (M1 E q h) (prog E t) (T1 E t q h) (pN E)
theorem how_ok {h : Int32} (hh : isHowP h) : rng (h / 100) 6 ∧ rng (rem (h / 10) 10) 6 ∧ ∃ k, 1 ≤ k ∧ k < 10 ∧ rem h 10 = nI k := by
  obtain ⟨h0, h1, h2⟩ := hh
  obtain ⟨n, hn, rfl⟩ := inR_of (n := 599) (by decide) h0
  have e1 : nI n / 100 = nI (n / 100) := pk_div (d := 100) (by omega) (by omega) (by omega)
  have e2 : nI n / 10 = nI (n / 10) := pk_div (d := 10) (by omega) (by omega) (by omega)
  have e3 : rem (nI n / 10) 10 = nI (n / 10 % 10) := by
    rw [e2]
    exact pk_rem (d := 10) (by omega) (by omega) (by omega)
  have e4 : rem (nI n) 10 = nI (n % 10) := pk_rem (d := 10) (by omega) (by omega) (by omega)
  rw [e3] at h1 ⊢
  rw [e4] at h2 ⊢
  rw [e1]
  have h1' := (nI_ltI (b := 6) (by omega) (by omega)).mp h1
  have h2' := (nI_ltI (a := 0) (by omega) (by omega)).mp h2
  exact ⟨⟨n / 100, by omega, rfl⟩, ⟨n / 10 % 10, h1', rfl⟩, ⟨n % 10, by omega, by omega, rfl⟩⟩
theorem sput_sput (V : IM) (m : Nat) (a b q h : Int32) : sputV (sputV V m a b) m q h = sputV V m q h := by
  have u : ∀ (f : Nat → Int32) (x y : Int32), up1 (up1 f m x) m y = up1 f m y := fun f x y => by
    funext i
    unfold up1
    by_cases e : i = m <;> simp [e]
  unfold sputV
  funext i
  by_cases h17 : i = 17
  · subst h17
    simp only [up2_n, up2_s, ne_eq, Nat.reduceEqDiff, not_false_eq_true, u]
  by_cases h16 : i = 16
  · subst h16
    simp only [up2_n, up2_s, ne_eq, Nat.reduceEqDiff, not_false_eq_true, u]
  by_cases h15 : i = 15
  · subst h15
    simp only [up2_n, up2_s, ne_eq, Nat.reduceEqDiff, not_false_eq_true, u]
  by_cases h14 : i = 14
  · subst h14
    simp only [up2_n, up2_s, ne_eq, Nat.reduceEqDiff, not_false_eq_true, u]
  rw [up2_n _ _ _ h17, up2_n _ _ _ h16, up2_n _ _ _ h15, up2_n _ _ _ h14, up2_n _ _ _ h17, up2_n _ _ _ h16, up2_n _ _ _ h15, up2_n _ _ _ h14, up2_n _ _ _ h17, up2_n _ _ _ h16, up2_n _ _ _ h15, up2_n _ _ _ h14]
theorem VEq.put {V E : IM} {n m : Nat} (h : VEq V E n m) (q hh : Int32) : VEq (sputV V m q hh) (sputV E m q hh) n (m + 1) := by
  obtain ⟨h1, h2, h3⟩ := h
  refine ⟨fun a ha h9 => ?_, fun p hp => ?_, fun s hs => ?_⟩
  · unfold sputV
    rw [up2_n _ _ _ (by omega), up2_n _ _ _ (by omega), up2_n _ _ _ (by omega), up2_n _ _ _ (by omega), up2_n _ _ _ (by omega), up2_n _ _ _ (by omega), up2_n _ _ _ (by omega), up2_n _ _ _ (by omega)]
    exact h1 a ha h9
  · unfold sputV
    simp only [up2_n, up2_s, ne_eq, Nat.reduceEqDiff, not_false_eq_true]
    exact h2 p hp
  · unfold sputV
    simp only [up2_n, up2_s, ne_eq, Nat.reduceEqDiff, not_false_eq_true]
    unfold up1
    by_cases e : s = m
    · simp [e]
    · obtain ⟨a, b, c, d⟩ := h3 s (by omega)
      simp [e, a, b, c, d]
abbrev cEst (I : IM) : IM := cE I
/-- reckoned, and perhaps with one saying more behind -/
def SM (t : Nat) (I I' : IM) : Prop := Fr (19 :: 20 :: 21 :: 22 :: kScr) I I' ∧ (cV I' = cV I ∨ ∃ a b, cV I' = sputV (cV I) (sN (cE I)) a b) ∧ RK (cV I') (prog (cE I) t) (pN (cE I)) (sN (cE I)) I' ∧ I' 35 5 = nI t
def Owes1T (E : IM) (t q : Nat) (h : Int32) (I' : IM) : Prop := OwesN (M1 E q h) (D1 E t q h) (pN E) (qN E) (-1) (sN E + 1) I'
theorem SM.stay {t : Nat} {I I' : IM} (h : SM t I I') : ∀ k, 59 ≤ k → I' k = I k := fun k hk => h.1 k (by simp; omega)
theorem SM.row {t : Nat} {I I' : IM} (h : SM t I I') {s : Nat} (hs : s < sN (cE I)) : I' 19 s = I 19 s ∧ I' 20 s = I 20 s ∧ I' 21 s = I 21 s ∧ I' 22 s = I 22 s := by
  have e14 : ∀ J : IM, J 19 s = cV J 14 s := fun _ => rfl
  have e15 : ∀ J : IM, J 20 s = cV J 15 s := fun _ => rfl
  have e16 : ∀ J : IM, J 21 s = cV J 16 s := fun _ => rfl
  have e17 : ∀ J : IM, J 22 s = cV J 17 s := fun _ => rfl
  rw [e14 I', e15 I', e16 I', e17 I', e14 I, e15 I, e16 I, e17 I]
  rcases h.2.1 with e | ⟨a, b, e⟩
  · rw [e]
    exact ⟨rfl, rfl, rfl, rfl⟩
  · rw [e]
    unfold sputV
    simp only [up2_n, up2_s, ne_eq, Nat.reduceEqDiff, not_false_eq_true]
    have : s ≠ sN (cE I) := by omega
    simp [up1, this]
theorem SM.eqE {t : Nat} {I I' : IM} (h : SM t I I') : cE I' = cE I := by
  have hF := h.1
  have e18 : I' 18 = I 18 := hF 18 (by decide)
  have hc : ∀ (f g : Nat → Int32), (∀ s, s < cl (I 18 4) → f s = g s) → mk (cl (I 18 4)) f = mk (cl (I 18 4)) g := fun f g hfg => by
    funext s
    unfold mk
    split
    · exact hfg s (by assumption)
    · rfl
  have hF2 : Fr kScr I (upr (upr (upr (upr I' 19 (I 19)) 20 (I 20)) 21 (I 21)) 22 (I 22)) := by
    intro k hk
    by_cases k22 : k = 22
    · subst k22; rw [upr_s]
    by_cases k21 : k = 21
    · subst k21; rw [upr_n _ _ k22, upr_s]
    by_cases k20 : k = 20
    · subst k20; rw [upr_n _ _ k22, upr_n _ _ k21, upr_s]
    by_cases k19 : k = 19
    · subst k19; rw [upr_n _ _ k22, upr_n _ _ k21, upr_n _ _ k20, upr_s]
    rw [upr_n _ _ k22, upr_n _ _ k21, upr_n _ _ k20, upr_n _ _ k19]
    exact hF k (by simp only [List.mem_cons, List.not_mem_nil, or_false, not_or] at hk ⊢; omega)
  have e2 := cE_k hF2
  rw [cE_17, cE_16, cE_15, cE_14] at e2
  rw [← e2]
  have s4 : (upr (upr (upr I' 19 (I 19)) 20 (I 20)) 21 (I 21)) 18 4 = I 18 4 := by simp only [upr_n, ne_eq, Nat.reduceEqDiff, not_false_eq_true]; rw [e18]
  have s3 : (upr (upr I' 19 (I 19)) 20 (I 20)) 18 4 = I 18 4 := by simp only [upr_n, ne_eq, Nat.reduceEqDiff, not_false_eq_true]; rw [e18]
  have s2 : (upr I' 19 (I 19)) 18 4 = I 18 4 := by simp only [upr_n, ne_eq, Nat.reduceEqDiff, not_false_eq_true]; rw [e18]
  rw [s4, s3, s2, e18]
  rw [← hc (I' 22) (I 22) (fun s hs => (h.row hs).2.2.2), ← hc (I' 21) (I 21) (fun s hs => (h.row hs).2.2.1), ← hc (I' 20) (I 20) (fun s hs => (h.row hs).2.1), ← hc (I' 19) (I 19) (fun s hs => (h.row hs).1)]
  have c14 : cEst I' 14 = mk (cl (I 18 4)) (I' 19) := by rw [← e18]; rfl
  have c15 : cEst I' 15 = mk (cl (I 18 4)) (I' 20) := by rw [← e18]; rfl
  have c16 : cEst I' 16 = mk (cl (I 18 4)) (I' 21) := by rw [← e18]; rfl
  have c17 : cEst I' 17 = mk (cl (I 18 4)) (I' 22) := by rw [← e18]; rfl
  rw [← c14, ← c15, ← c16, ← c17]
  funext a
  by_cases a17 : a = 17
  · subst a17; rw [upr_s]
  by_cases a16 : a = 16
  · subst a16; rw [upr_n _ _ a17, upr_s]
  by_cases a15 : a = 15
  · subst a15; rw [upr_n _ _ a17, upr_n _ _ a16, upr_s]
  by_cases a14 : a = 14
  · subst a14; rw [upr_n _ _ a17, upr_n _ _ a16, upr_n _ _ a15, upr_s]
  rw [upr_n _ _ a17, upr_n _ _ a16, upr_n _ _ a15, upr_n _ _ a14]
theorem SM.same {t : Nat} {I I' : IM} (h : SM t I I') (a : Nat) (h14 : a ≠ 14) (h15 : a ≠ 15) (h16 : a ≠ 16) (h17 : a ≠ 17) : cV I' a = cV I a := by
  rcases h.2.1 with e | ⟨x, y, e⟩
  · rw [e]
  · rw [e]
    unfold sputV
    rw [up2_n _ _ _ h17, up2_n _ _ _ h16, up2_n _ _ _ h15, up2_n _ _ _ h14]
def spE_sayMore : SpT := fun as S I L Post => ∃ (t q : Nat) (h : Int32) (I0 : IM), as = [.ref 35, .int (nI q), .int h] ∧ S = S1 ∧ cOk I0 ∧ t < tN (cE I0) ∧ q < qN (cE I0) ∧ isHowP h ∧ SM t I0 I ∧
  ∀ I' : IM, SM t I0 I' → VEq (cV I') (M1 (cE I0) q h) (pN (cE I0)) (sN (cE I0) + 1) → Owes1T (cE I0) t q h I' → Post none S1 I' L
theorem cE_sayMore : Con mLedger_sayMore 6 0 0 spE_sayMore := c_Ledger_sayMore.imp fun as S I L Post hs => by
  obtain ⟨t, q, h, I0, rfl, rfl, hok, ht, hq, hh, hsm, h1⟩ := hs
  obtain ⟨b1, b2, b3⟩ := hok.say
  obtain ⟨c1, c2, c3⟩ := hok.ppl
  obtain ⟨v1, v2, v3⟩ := hok.vow
  have hF := hsm.1
  have hT := hok.txt ht
  refine ⟨t, sN (cE I0), pN (cE I0), qN (cE I0), q, h, prog (cE I0) t, rfl, rfl, by rw [hF 18 (by decide)]; exact b1, b2, fun s hs => ?_, ?_, ⟨by rw [hF 4 (by decide)]; exact c1, c2, fun p hp => ?_⟩, hsm.2.2.2, hT.fr (hF _ (by decide)) (hF _ (by decide)), ⟨by rw [hF 13 (by decide)]; exact v1, v2, by rw [hF 17 (by decide)]; exact v3⟩, hsm.2.2.1, fun I' hF2 hV hrk ho => ?_⟩
  · obtain ⟨r1, r2, r3, r4⟩ := hsm.row hs
    obtain ⟨x1, x2, x3⟩ := b3 s hs
    refine ⟨?_, ?_, ?_⟩
    · rw [show cV I 14 s = cV I0 14 s from r1]; exact x1
    · rw [show cV I 15 s = cV I0 15 s from r2]; exact x2
    · rw [show cV I 16 s = cV I0 16 s from r3]; exact x3
  · obtain ⟨y1, y2, -⟩ := how_ok hh
    unfold SayV sputV
    simp only [up2_n, up2_s, ne_eq, Nat.reduceEqDiff, not_false_eq_true]
    simp only [up1, if_true]
    exact ⟨⟨q, by omega, rfl⟩, y1, y2⟩
  · obtain ⟨x1, x2, x3, x4⟩ := c3 p hp
    unfold PerV
    rw [hsm.same 2 (by omega) (by omega) (by omega) (by omega), hsm.same 3 (by omega) (by omega) (by omega) (by omega), hsm.same 5 (by omega) (by omega) (by omega) (by omega), hsm.same 9 (by omega) (by omega) (by omega) (by omega)]
    exact ⟨x1, x2, x3, x4⟩
  · have hV' : cV I' = sputV (cV I0) (sN (cE I0)) (nI q) h := by
      rcases hsm.2.1 with e | ⟨x, y, e⟩
      · rw [hV, e]
      · rw [hV, e, sput_sput]
    have hveq : VEq (cV I') (M1 (cE I0) q h) (pN (cE I0)) (sN (cE I0) + 1) := by
      rw [hV']
      exact (cVE I0).put (nI q) h
    refine h1 I' ⟨hF.tr (hF2.wk (by decide)), Or.inr ⟨_, _, hV'⟩, hrk, ?_⟩ hveq ?_
    · rw [hF2 35 (by decide)]
      exact hsm.2.2.2
    · exact owes_eq hveq (Nat.le_refl _) (fun p hp s hs => by unfold D1 DD C1; rw [share_eq hveq _ hs, CC_eq hveq _ hs]) ho
theorem SM.of {t : Nat} {I I' : IM} (hF : Fr kScr I I') (hl : I' 35 5 = nI t) (hrk : RK (cV I) (prog (cE I) t) (pN (cE I)) (sN (cE I)) I') : SM t I I' :=
  ⟨hF.wk (by decide), Or.inl (cV_k hF), by rw [cV_k hF]; exact hrk, hl⟩
theorem SM.u {t : Nat} {I I' I2 : IM} (h : SM t I I') (hF : Fr uScr I' I2) : SM t I I2 := by
  obtain ⟨h1, h2, h3, h4⟩ := h
  have e : cV I2 = cV I' := cV_fr (hF.wk (by decide))
  refine ⟨h1.tr (hF.wk (by decide)), by rw [e]; exact h2, ?_, by rw [hF 35 (by decide)]; exact h4⟩
  rw [e]
  refine ⟨fun s hs => ?_, fun s hs p hp => ?_⟩
  · unfold HrdRow
    rw [hF 36 (by decide), hF 37 (by decide)]
    exact h3.1 s hs
  · rw [hF 38 (by decide)]
    exact h3.2 s hs p hp
/-- behind sayMore: is it kept, the pain, in all -/
def spE_keeps1 : SpT := fun as S I L Post => ∃ (t q : Nat) (h : Int32) (I0 : IM), as = [.ref 35, .int (nI q)] ∧ S = S1 ∧ cOk I0 ∧ q < qN (cE I0) ∧ SM t I0 I ∧ VEq (cV I) (M1 (cE I0) q h) (pN (cE I0)) (sN (cE I0) + 1) ∧ Owes1T (cE I0) t q h I ∧ bPost (keep1 (cE I0) t q h = true) S1 I L Post
theorem cE_keeps1 : Con mLedger_keeps 4 0 0 spE_keeps1 := c_Ledger_keeps.imp fun as S I L Post hs => by
  obtain ⟨t, q, h, I0, rfl, rfl, hok, hq, hsm, hve, ho, h1⟩ := hs
  obtain ⟨c1, c2, c3⟩ := hok.ppl
  obtain ⟨v1, v2, v3⟩ := hok.vow
  refine ⟨q, pN (cE I0), R1 (cE I0) t q h, rfl, rfl, by omega, ⟨by rw [hsm.1 4 (by decide)]; exact c1, c2, fun p hp => (ho p hp).1⟩, ?_⟩
  rw [keeps_eq hve (pN (cE I0)) (R' := R1 (cE I0) t q h) (fun _ _ => rfl)]
  exact h1
def spE_pain1 : SpT := fun as S I L Post => ∃ (t q : Nat) (h : Int32) (I0 : IM), as = [.ref 35] ∧ S = S1 ∧ cOk I0 ∧ t < tN (cE I0) ∧ SM t I0 I ∧ VEq (cV I) (M1 (cE I0) q h) (pN (cE I0)) (sN (cE I0) + 1) ∧ Owes1T (cE I0) t q h I ∧ ∀ I' : IM, SM t I0 I' → Post (some (.int (pain1 (cE I0) t q h))) S1 I' L
theorem cE_pain1 : Con mLedger_painOfAll 5 0 0 spE_pain1 := c_Ledger_painOfAll.imp fun as S I L Post hs => by
  obtain ⟨t, q, h, I0, rfl, rfl, hok, ht, hsm, hve, ho, h1⟩ := hs
  obtain ⟨c1, c2, c3⟩ := hok.ppl
  refine ⟨pN (cE I0), t, prog (cE I0) t, rfl, rfl, by rw [hsm.1 4 (by decide)]; exact c1, c2, hsm.2.2.2, (hok.txt ht).fr (hsm.1 _ (by decide)) (hsm.1 _ (by decide)), fun I' hF => ?_⟩
  rw [pain_eq hve _ (T' := T1 (cE I0) t q h) (pN (cE I0)) (fun p hp => (ho p hp).2.2.2)]
  exact h1 I' (hsm.u hF)
end
