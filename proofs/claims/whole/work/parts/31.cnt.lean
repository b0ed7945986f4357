/-! counts, which show or hide rows -/
theorem cE_n1 (I : IM) (x : Int32) : cE (up2 I 4 8 x) = upr (up2 (cE I) 29 1 x) 9 (mk (cl x) (I 12)) := by
  have q : ∀ (f : Nat → Int32) (j x) (i), i ≠ j → up1 f j x i = f i := fun f j x i h => by simp [up1, h]
  funext a
  by_cases h9 : a = 9
  · subst h9
    simp only [upr_n, upr_s, ne_eq, Nat.reduceEqDiff, not_false_eq_true]
    unfold cE
    simp [up2_n, up2_s, up1]
  rw [upr_n _ _ h9]
  by_cases h : a = 29
  · subst h
    rw [up2_s]
    have e29 : ∀ I' : IM, cE I' 29 = cSc I' := fun _ => rfl
    rw [e29, e29]
    funext j
    by_cases hj : j = 1
    · subst hj
      simp [cSc, up2_s, up1]
    · rw [q _ _ _ _ hj]
      unfold cSc
      split <;> first | rfl | (exfalso; omega) | (simp [up2_n, up2_s, up1])
  · rw [up2_n _ _ _ h]
    unfold cE
    split <;> first | rfl | (exfalso; omega) | (simp [up2_n, up2_s, up1])
theorem cE_n3 (I : IM) (x : Int32) : cE (up2 I 18 4 x) = upr (upr (upr (upr (up2 (cE I) 29 3 x) 14 (mk (cl x) (I 19))) 15 (mk (cl x) (I 20))) 16 (mk (cl x) (I 21))) 17 (mk (cl x) (I 22)) := by
  have q : ∀ (f : Nat → Int32) (j x) (i), i ≠ j → up1 f j x i = f i := fun f j x i h => by simp [up1, h]
  funext a
  by_cases h14 : a = 14
  · subst h14
    simp only [upr_n, upr_s, ne_eq, Nat.reduceEqDiff, not_false_eq_true]
    unfold cE
    simp [up2_n, up2_s, up1]
  by_cases h15 : a = 15
  · subst h15
    simp only [upr_n, upr_s, ne_eq, Nat.reduceEqDiff, not_false_eq_true]
    unfold cE
    simp [up2_n, up2_s, up1]
  by_cases h16 : a = 16
  · subst h16
    simp only [upr_n, upr_s, ne_eq, Nat.reduceEqDiff, not_false_eq_true]
    unfold cE
    simp [up2_n, up2_s, up1]
  by_cases h17 : a = 17
  · subst h17
    simp only [upr_n, upr_s, ne_eq, Nat.reduceEqDiff, not_false_eq_true]
    unfold cE
    simp [up2_n, up2_s, up1]
  rw [upr_n _ _ h17]
  rw [upr_n _ _ h16]
  rw [upr_n _ _ h15]
  rw [upr_n _ _ h14]
  by_cases h : a = 29
  · subst h
    rw [up2_s]
    have e29 : ∀ I' : IM, cE I' 29 = cSc I' := fun _ => rfl
    rw [e29, e29]
    funext j
    by_cases hj : j = 3
    · subst hj
      simp [cSc, up2_s, up1]
    · rw [q _ _ _ _ hj]
      unfold cSc
      split <;> first | rfl | (exfalso; omega) | (simp [up2_n, up2_s, up1])
  · rw [up2_n _ _ _ h]
    unfold cE
    split <;> first | rfl | (exfalso; omega) | (simp [up2_n, up2_s, up1])
theorem cE_n6 (I : IM) (x : Int32) : cE (up2 I 23 1 x) = upr (up2 (cE I) 29 6 x) 18 (mk (cl x) (I 24)) := by
  have q : ∀ (f : Nat → Int32) (j x) (i), i ≠ j → up1 f j x i = f i := fun f j x i h => by simp [up1, h]
  funext a
  by_cases h18 : a = 18
  · subst h18
    simp only [upr_n, upr_s, ne_eq, Nat.reduceEqDiff, not_false_eq_true]
    unfold cE
    simp [up2_n, up2_s, up1]
  rw [upr_n _ _ h18]
  by_cases h : a = 29
  · subst h
    rw [up2_s]
    have e29 : ∀ I' : IM, cE I' 29 = cSc I' := fun _ => rfl
    rw [e29, e29]
    funext j
    by_cases hj : j = 6
    · subst hj
      simp [cSc, up2_s, up1]
    · rw [q _ _ _ _ hj]
      unfold cSc
      split <;> first | rfl | (exfalso; omega) | (simp [up2_n, up2_s, up1])
  · rw [up2_n _ _ _ h]
    unfold cE
    split <;> first | rfl | (exfalso; omega) | (simp [up2_n, up2_s, up1])
theorem cE_n9 (I : IM) (x : Int32) : cE (up2 I 45 3 x) = upr (up2 (cE I) 29 9 x) 21 (mk (cl x) (I 54)) := by
  have q : ∀ (f : Nat → Int32) (j x) (i), i ≠ j → up1 f j x i = f i := fun f j x i h => by simp [up1, h]
  funext a
  by_cases h21 : a = 21
  · subst h21
    simp only [upr_n, upr_s, ne_eq, Nat.reduceEqDiff, not_false_eq_true]
    unfold cE
    simp [up2_n, up2_s, up1]
  rw [upr_n _ _ h21]
  by_cases h : a = 29
  · subst h
    rw [up2_s]
    have e29 : ∀ I' : IM, cE I' 29 = cSc I' := fun _ => rfl
    rw [e29, e29]
    funext j
    by_cases hj : j = 9
    · subst hj
      simp [cSc, up2_s, up1]
    · rw [q _ _ _ _ hj]
      unfold cSc
      split <;> first | rfl | (exfalso; omega) | (simp [up2_n, up2_s, up1])
  · rw [up2_n _ _ _ h]
    unfold cE
    split <;> first | rfl | (exfalso; omega) | (simp [up2_n, up2_s, up1])
theorem cE_n10 (I : IM) (x : Int32) : cE (up2 I 49 4 x) = upr (upr (upr (upr (up2 (cE I) 29 10 x) 22 (mk (cl x) (I 50))) 23 (mk (cl x) (I 51))) 24 (mk (cl x) (I 52))) 25 (mk (cl x) (I 53)) := by
  have q : ∀ (f : Nat → Int32) (j x) (i), i ≠ j → up1 f j x i = f i := fun f j x i h => by simp [up1, h]
  funext a
  by_cases h22 : a = 22
  · subst h22
    simp only [upr_n, upr_s, ne_eq, Nat.reduceEqDiff, not_false_eq_true]
    unfold cE
    simp [up2_n, up2_s, up1]
  by_cases h23 : a = 23
  · subst h23
    simp only [upr_n, upr_s, ne_eq, Nat.reduceEqDiff, not_false_eq_true]
    unfold cE
    simp [up2_n, up2_s, up1]
  by_cases h24 : a = 24
  · subst h24
    simp only [upr_n, upr_s, ne_eq, Nat.reduceEqDiff, not_false_eq_true]
    unfold cE
    simp [up2_n, up2_s, up1]
  by_cases h25 : a = 25
  · subst h25
    simp only [upr_n, upr_s, ne_eq, Nat.reduceEqDiff, not_false_eq_true]
    unfold cE
    simp [up2_n, up2_s, up1]
  rw [upr_n _ _ h25]
  rw [upr_n _ _ h24]
  rw [upr_n _ _ h23]
  rw [upr_n _ _ h22]
  by_cases h : a = 29
  · subst h
    rw [up2_s]
    have e29 : ∀ I' : IM, cE I' 29 = cSc I' := fun _ => rfl
    rw [e29, e29]
    funext j
    by_cases hj : j = 10
    · subst hj
      simp [cSc, up2_s, up1]
    · rw [q _ _ _ _ hj]
      unfold cSc
      split <;> first | rfl | (exfalso; omega) | (simp [up2_n, up2_s, up1])
  · rw [up2_n _ _ _ h]
    unfold cE
    split <;> first | rfl | (exfalso; omega) | (simp [up2_n, up2_s, up1])
theorem rE_n1 (I : IM) (x : Int32) : rE (up2 I 59 3 x) = upr (up2 (rE I) 29 1 x) 9 (mk (cl x) (I 69)) := by
  have q : ∀ (f : Nat → Int32) (j x) (i), i ≠ j → up1 f j x i = f i := fun f j x i h => by simp [up1, h]
  funext a
  by_cases h9 : a = 9
  · subst h9
    simp only [upr_n, upr_s, ne_eq, Nat.reduceEqDiff, not_false_eq_true]
    unfold rE
    simp [up2_n, up2_s, up1]
  rw [upr_n _ _ h9]
  by_cases h : a = 29
  · subst h
    rw [up2_s]
    have e29 : ∀ I' : IM, rE I' 29 = rSc I' := fun _ => rfl
    rw [e29, e29]
    funext j
    by_cases hj : j = 1
    · subst hj
      simp [rSc, up2_s, up1]
    · rw [q _ _ _ _ hj]
      unfold rSc
      split <;> first | rfl | (exfalso; omega) | (simp [up2_n, up2_s, up1])
  · rw [up2_n _ _ _ h]
    unfold rE
    split <;> first | rfl | (exfalso; omega) | (simp [up2_n, up2_s, up1])
theorem rE_n3 (I : IM) (x : Int32) : rE (up2 I 59 17 x) = upr (upr (upr (upr (up2 (rE I) 29 3 x) 14 (mk (cl x) (I 74))) 15 (mk (cl x) (I 75))) 16 (mk (cl x) (I 76))) 17 (mk (cl x) (I 77)) := by
  have q : ∀ (f : Nat → Int32) (j x) (i), i ≠ j → up1 f j x i = f i := fun f j x i h => by simp [up1, h]
  funext a
  by_cases h14 : a = 14
  · subst h14
    simp only [upr_n, upr_s, ne_eq, Nat.reduceEqDiff, not_false_eq_true]
    unfold rE
    simp [up2_n, up2_s, up1]
  by_cases h15 : a = 15
  · subst h15
    simp only [upr_n, upr_s, ne_eq, Nat.reduceEqDiff, not_false_eq_true]
    unfold rE
    simp [up2_n, up2_s, up1]
  by_cases h16 : a = 16
  · subst h16
    simp only [upr_n, upr_s, ne_eq, Nat.reduceEqDiff, not_false_eq_true]
    unfold rE
    simp [up2_n, up2_s, up1]
  by_cases h17 : a = 17
  · subst h17
    simp only [upr_n, upr_s, ne_eq, Nat.reduceEqDiff, not_false_eq_true]
    unfold rE
    simp [up2_n, up2_s, up1]
  rw [upr_n _ _ h17]
  rw [upr_n _ _ h16]
  rw [upr_n _ _ h15]
  rw [upr_n _ _ h14]
  by_cases h : a = 29
  · subst h
    rw [up2_s]
    have e29 : ∀ I' : IM, rE I' 29 = rSc I' := fun _ => rfl
    rw [e29, e29]
    funext j
    by_cases hj : j = 3
    · subst hj
      simp [rSc, up2_s, up1]
    · rw [q _ _ _ _ hj]
      unfold rSc
      split <;> first | rfl | (exfalso; omega) | (simp [up2_n, up2_s, up1])
  · rw [up2_n _ _ _ h]
    unfold rE
    split <;> first | rfl | (exfalso; omega) | (simp [up2_n, up2_s, up1])
theorem rE_n6 (I : IM) (x : Int32) : rE (up2 I 59 23 x) = upr (up2 (rE I) 29 6 x) 18 (mk (cl x) (I 78)) := by
  have q : ∀ (f : Nat → Int32) (j x) (i), i ≠ j → up1 f j x i = f i := fun f j x i h => by simp [up1, h]
  funext a
  by_cases h18 : a = 18
  · subst h18
    simp only [upr_n, upr_s, ne_eq, Nat.reduceEqDiff, not_false_eq_true]
    unfold rE
    simp [up2_n, up2_s, up1]
  rw [upr_n _ _ h18]
  by_cases h : a = 29
  · subst h
    rw [up2_s]
    have e29 : ∀ I' : IM, rE I' 29 = rSc I' := fun _ => rfl
    rw [e29, e29]
    funext j
    by_cases hj : j = 6
    · subst hj
      simp [rSc, up2_s, up1]
    · rw [q _ _ _ _ hj]
      unfold rSc
      split <;> first | rfl | (exfalso; omega) | (simp [up2_n, up2_s, up1])
  · rw [up2_n _ _ _ h]
    unfold rE
    split <;> first | rfl | (exfalso; omega) | (simp [up2_n, up2_s, up1])
theorem rE_n9 (I : IM) (x : Int32) : rE (up2 I 59 30 x) = upr (up2 (rE I) 29 9 x) 21 (mk (cl x) (I 83)) := by
  have q : ∀ (f : Nat → Int32) (j x) (i), i ≠ j → up1 f j x i = f i := fun f j x i h => by simp [up1, h]
  funext a
  by_cases h21 : a = 21
  · subst h21
    simp only [upr_n, upr_s, ne_eq, Nat.reduceEqDiff, not_false_eq_true]
    unfold rE
    simp [up2_n, up2_s, up1]
  rw [upr_n _ _ h21]
  by_cases h : a = 29
  · subst h
    rw [up2_s]
    have e29 : ∀ I' : IM, rE I' 29 = rSc I' := fun _ => rfl
    rw [e29, e29]
    funext j
    by_cases hj : j = 9
    · subst hj
      simp [rSc, up2_s, up1]
    · rw [q _ _ _ _ hj]
      unfold rSc
      split <;> first | rfl | (exfalso; omega) | (simp [up2_n, up2_s, up1])
  · rw [up2_n _ _ _ h]
    unfold rE
    split <;> first | rfl | (exfalso; omega) | (simp [up2_n, up2_s, up1])
theorem rE_n10 (I : IM) (x : Int32) : rE (up2 I 59 31 x) = upr (upr (upr (upr (up2 (rE I) 29 10 x) 22 (mk (cl x) (I 84))) 23 (mk (cl x) (I 85))) 24 (mk (cl x) (I 86))) 25 (mk (cl x) (I 87)) := by
  have q : ∀ (f : Nat → Int32) (j x) (i), i ≠ j → up1 f j x i = f i := fun f j x i h => by simp [up1, h]
  funext a
  by_cases h22 : a = 22
  · subst h22
    simp only [upr_n, upr_s, ne_eq, Nat.reduceEqDiff, not_false_eq_true]
    unfold rE
    simp [up2_n, up2_s, up1]
  by_cases h23 : a = 23
  · subst h23
    simp only [upr_n, upr_s, ne_eq, Nat.reduceEqDiff, not_false_eq_true]
    unfold rE
    simp [up2_n, up2_s, up1]
  by_cases h24 : a = 24
  · subst h24
    simp only [upr_n, upr_s, ne_eq, Nat.reduceEqDiff, not_false_eq_true]
    unfold rE
    simp [up2_n, up2_s, up1]
  by_cases h25 : a = 25
  · subst h25
    simp only [upr_n, upr_s, ne_eq, Nat.reduceEqDiff, not_false_eq_true]
    unfold rE
    simp [up2_n, up2_s, up1]
  rw [upr_n _ _ h25]
  rw [upr_n _ _ h24]
  rw [upr_n _ _ h23]
  rw [upr_n _ _ h22]
  by_cases h : a = 29
  · subst h
    rw [up2_s]
    have e29 : ∀ I' : IM, rE I' 29 = rSc I' := fun _ => rfl
    rw [e29, e29]
    funext j
    by_cases hj : j = 10
    · subst hj
      simp [rSc, up2_s, up1]
    · rw [q _ _ _ _ hj]
      unfold rSc
      split <;> first | rfl | (exfalso; omega) | (simp [up2_n, up2_s, up1])
  · rw [up2_n _ _ _ h]
    unfold rE
    split <;> first | rfl | (exfalso; omega) | (simp [up2_n, up2_s, up1])
