/-! counts, which show or hide rows -/
theorem cE_n1 (I : IM) (x : Int32) : cE (up2 I 4 8 x) = upr (up2 (cE I) 29 1 x) 9 (mk (cl x) (I 12)) := by
  have q : ∀ (f : Nat → Int32) (j x) (i), i ≠ j → up1 f j x i = f i := fun f j x i h => by simp [up1, h]
  funext a
  by_cases h9 : a = 9
  · subst h9
    simp only [upr_n, upr_s, ne_eq, Nat.reduceEqDiff, not_false_eq_true]
    unfold cE
    simp [up2_n, up2_s, up1]
  rw [upr_n _ _ h9]
  by_cases h : a = 29
  · subst h
    rw [up2_s]
    have e29 : ∀ I' : IM, cE I' 29 = cSc I' := fun _ => rfl
    rw [e29, e29]
    funext j
    by_cases hj : j = 1
    · subst hj
      simp [cSc, up2_s, up1]
    · rw [q _ _ _ _ hj]
      unfold cSc
      split <;> first | rfl | (exfalso; omega) | (simp [up2_n, up2_s, up1])
  · rw [up2_n _ _ _ h]
    unfold cE
    split <;> first | rfl | (exfalso; omega) | (simp [up2_n, up2_s, up1])
theorem cE_n3 (I : IM) (x : Int32) : cE (up2 I 18 4 x) = upr (upr (upr (upr (up2 (cE I) 29 3 x) 14 (mk (cl x) (I 19))) 15 (mk (cl x) (I 20))) 16 (mk (cl x) (I 21))) 17 (mk (cl x) (I 22)) := by
  have q : ∀ (f : Nat → Int32) (j x) (i), i ≠ j → up1 f j x i = f i := fun f j x i h => by simp [up1, h]
  funext a
  by_cases h14 : a = 14
  · subst h14
    simp only [upr_n, upr_s, ne_eq, Nat.reduceEqDiff, not_false_eq_true]
    unfold cE
    simp [up2_n, up2_s, up1]
  by_cases h15 : a = 15
  · subst h15
    simp only [upr_n, upr_s, ne_eq, Nat.reduceEqDiff, not_false_eq_true]
    unfold cE
    simp [up2_n, up2_s, up1]
  by_cases h16 : a = 16
  · subst h16
    simp only [upr_n, upr_s, ne_eq, Nat.reduceEqDiff, not_false_eq_true]
    unfold cE
    simp [up2_n, up2_s, up1]
  by_cases h17 : a = 17
  · subst h17
    simp only [upr_n, upr_s, ne_eq, Nat.reduceEqDiff, not_false_eq_true]
    unfold cE
    simp [up2_n, up2_s, up1]
  rw [upr_n _ _ h17]
  rw [upr_n _ _ h16]
  rw [upr_n _ _ h15]
  rw [upr_n _ _ h14]
  by_cases h : a = 29
  · subst h
    rw [up2_s]
    have e29 : ∀ I' : IM, cE I' 29 = cSc I' := fun _ => rfl
    rw [e29, e29]
    funext j
    by_cases hj : j = 3
    · subst hj
      simp [cSc, up2_s, up1]
    · rw [q _ _ _ _ hj]
      unfold cSc
      split <;> first | rfl | (exfalso; omega) | (simp [up2_n, up2_s, up1])
  · rw [up2_n _ _ _ h]
    unfold cE
    split <;> first | rfl | (exfalso; omega) | (simp [up2_n, up2_s, up1])
theorem cE_n6 (I : IM) (x : Int32) : cE (up2 I 23 1 x) = upr (up2 (cE I) 29 6 x) 18 (mk (cl x) (I 24)) := by
  have q : ∀ (f : Nat → Int32) (j x) (i), i ≠ j → up1 f j x i = f i := fun f j x i h => by simp [up1, h]
  funext a
  by_cases h18 : a = 18
  · subst h18
    simp only [upr_n, upr_s, ne_eq, Nat.reduceEqDiff, not_false_eq_true]
    unfold cE
    simp [up2_n, up2_s, up1]
  rw [upr_n _ _ h18]
  by_cases h : a = 29
  · subst h
    rw [up2_s]
    have e29 : ∀ I' : IM, cE I' 29 = cSc I' := fun _ => rfl
    rw [e29, e29]
    funext j
    by_cases hj : j = 6
    · subst hj
      simp [cSc, up2_s, up1]
    · rw [q _ _ _ _ hj]
      unfold cSc
      split <;> first | rfl | (exfalso; omega) | (simp [up2_n, up2_s, up1])
  · rw [up2_n _ _ _ h]
    unfold cE
    split <;> first | rfl | (exfalso; omega) | (simp [up2_n, up2_s, up1])
theorem cE_n9 (I : IM) (x : Int32) : cE (up2 I 45 3 x) = upr (up2 (cE I) 29 9 x) 21 (mk (cl x) (I 54)) := by
  have q : ∀ (f : Nat → Int32) (j x) (i), i ≠ j → up1 f j x i = f i := fun f j x i h => by simp [up1, h]
  funext a
  by_cases h21 : a = 21
  · subst h21
    simp only [upr_n, upr_s, ne_eq, Nat.reduceEqDiff, not_false_eq_true]
    unfold cE
    simp [up2_n, up2_s, up1]
  rw [upr_n _ _ h21]
  by_cases h : a = 29
  · subst h
    rw [up2_s]
    have e29 : ∀ I' : IM, cE I' 29 = cSc I' := fun _ => rfl
    rw [e29, e29]
    funext j
    by_cases hj : j = 9
    · subst hj
      simp [cSc, up2_s, up1]
    · rw [q _ _ _ _ hj]
      unfold cSc
      split <;> first | rfl | (exfalso; omega) | (simp [up2_n, up2_s, up1])
  · rw [up2_n _ _ _ h]
    unfold cE
    split <;> first | rfl | (exfalso; omega) | (simp [up2_n, up2_s, up1])
theorem cE_n10 (I : IM) (x : Int32) : cE (up2 I 49 4 x) = upr (upr (upr (upr (up2 (cE I) 29 10 x) 22 (mk (cl x) (I 50))) 23 (mk (cl x) (I 51))) 24 (mk (cl x) (I 52))) 25 (mk (cl x) (I 53)) := by
  have q : ∀ (f : Nat → Int32) (j x) (i), i ≠ j → up1 f j x i = f i := fun f j x i h => by simp [up1, h]
  funext a
  by_cases h22 : a = 22
  · subst h22
    simp only [upr_n, upr_s, ne_eq, Nat.reduceEqDiff, not_false_eq_true]
    unfold cE
    simp [up2_n, up2_s, up1]
  by_cases h23 : a = 23
  · subst h23
    simp only [upr_n, upr_s, ne_eq, Nat.reduceEqDiff, not_false_eq_true]
    unfold cE
    simp [up2_n, up2_s, up1]
  by_cases h24 : a = 24
  · subst h24
    simp only [upr_n, upr_s, ne_eq, Nat.reduceEqDiff, not_false_eq_true]
    unfold cE
    simp [up2_n, up2_s, up1]
  by_cases h25 : a = 25
  · subst h25
    simp only [upr_n, upr_s, ne_eq, Nat.reduceEqDiff, not_false_eq_true]
    unfold cE
    simp [up2_n, up2_s, up1]
  rw [upr_n _ _ h25]
  rw [upr_n _ _ h24]
  rw [upr_n _ _ h23]
  rw [upr_n _ _ h22]
  by_cases h : a = 29
  · subst h
    rw [up2_s]
    have e29 : ∀ I' : IM, cE I' 29 = cSc I' := fun _ => rfl
    rw [e29, e29]
    funext j
    by_cases hj : j = 10
    · subst hj
      simp [cSc, up2_s, up1]
    · rw [q _ _ _ _ hj]
      unfold cSc
      split <;> first | rfl | (exfalso; omega) | (simp [up2_n, up2_s, up1])
  · rw [up2_n _ _ _ h]
    unfold cE
    split <;> first | rfl | (exfalso; omega) | (simp [up2_n, up2_s, up1])
theorem rE_n1 (I : IM) (x : Int32) : rE (up2 I 59 3 x) = upr (up2 (rE I) 29 1 x) 9 (mk (cl x) (I 69)) := by
  have q : ∀ (f : Nat → Int32) (j x) (i), i ≠ j → up1 f j x i = f i := fun f j x i h => by simp [up1, h]
  funext a
  by_cases h9 : a = 9
  · subst h9
    simp only [upr_n, upr_s, ne_eq, Nat.reduceEqDiff, not_false_eq_true]
    unfold rE
    simp [up2_n, up2_s, up1]
  rw [upr_n _ _ h9]
  by_cases h : a = 29
  · subst h
    rw [up2_s]
    have e29 : ∀ I' : IM, rE I' 29 = rSc I' := fun _ => rfl
    rw [e29, e29]
    funext j
    by_cases hj : j = 1
    · subst hj
      simp [rSc, up2_s, up1]
    · rw [q _ _ _ _ hj]
      unfold rSc
      split <;> first | rfl | (exfalso; omega) | (simp [up2_n, up2_s, up1])
  · rw [up2_n _ _ _ h]
    unfold rE
    split <;> first | rfl | (exfalso; omega) | (simp [up2_n, up2_s, up1])
theorem rE_n3 (I : IM) (x : Int32) : rE (up2 I 59 17 x) = upr (upr (upr (upr (up2 (rE I) 29 3 x) 14 (mk (cl x) (I 74))) 15 (mk (cl x) (I 75))) 16 (mk (cl x) (I 76))) 17 (mk (cl x) (I 77)) := by
  have q : ∀ (f : Nat → Int32) (j x) (i), i ≠ j → up1 f j x i = f i := fun f j x i h => by simp [up1, h]
  funext a
  by_cases h14 : a = 14
  · subst h14
    simp only [upr_n, upr_s, ne_eq, Nat.reduceEqDiff, not_false_eq_true]
    unfold rE
    simp [up2_n, up2_s, up1]
  by_cases h15 : a = 15
  · subst h15
    simp only [upr_n, upr_s, ne_eq, Nat.reduceEqDiff, not_false_eq_true]
    unfold rE
    simp [up2_n, up2_s, up1]
  by_cases h16 : a = 16
  · subst h16
    simp only [upr_n, upr_s, ne_eq, Nat.reduceEqDiff, not_false_eq_true]
    unfold rE
    simp [up2_n, up2_s, up1]
  by_cases h17 : a = 17
  · subst h17
    simp only [upr_n, upr_s, ne_eq, Nat.reduceEqDiff, not_false_eq_true]
    unfold rE
    simp [up2_n, up2_s, up1]
  rw [upr_n _ _ h17]
  rw [upr_n _ _ h16]
  rw [upr_n _ _ h15]
  rw [upr_n _ _ h14]
  by_cases h : a = 29
  · subst h
    rw [up2_s]
    have e29 : ∀ I' : IM, rE I' 29 = rSc I' := fun _ => rfl
    rw [e29, e29]
    funext j
    by_cases hj : j = 3
    · subst hj
      simp [rSc, up2_s, up1]
    · rw [q _ _ _ _ hj]
      unfold rSc
      split <;> first | rfl | (exfalso; omega) | (simp [up2_n, up2_s, up1])
  · rw [up2_n _ _ _ h]
    unfold rE
    split <;> first | rfl | (exfalso; omega) | (simp [up2_n, up2_s, up1])
theorem rE_n6 (I : IM) (x : Int32) : rE (up2 I 59 23 x) = upr (up2 (rE I) 29 6 x) 18 (mk (cl x) (I 78)) := by
  have q : ∀ (f : Nat → Int32) (j x) (i), i ≠ j → up1 f j x i = f i := fun f j x i h => by simp [up1, h]
  funext a
  by_cases h18 : a = 18
  · subst h18
    simp only [upr_n, upr_s, ne_eq, Nat.reduceEqDiff, not_false_eq_true]
    unfold rE
    simp [up2_n, up2_s, up1]
  rw [upr_n _ _ h18]
  by_cases h : a = 29
  · subst h
    rw [up2_s]
    have e29 : ∀ I' : IM, rE I' 29 = rSc I' := fun _ => rfl
    rw [e29, e29]
    funext j
    by_cases hj : j = 6
    · subst hj
      simp [rSc, up2_s, up1]
    · rw [q _ _ _ _ hj]
      unfold rSc
      split <;> first | rfl | (exfalso; omega) | (simp [up2_n, up2_s, up1])
  · rw [up2_n _ _ _ h]
    unfold rE
    split <;> first | rfl | (exfalso; omega) | (simp [up2_n, up2_s, up1])
theorem rE_n9 (I : IM) (x : Int32) : rE (up2 I 59 30 x) = upr (up2 (rE I) 29 9 x) 21 (mk (cl x) (I 83)) := by
  have q : ∀ (f : Nat → Int32) (j x) (i), i ≠ j → up1 f j x i = f i := fun f j x i h => by simp [up1, h]
  funext a
  by_cases h21 : a = 21
  · subst h21
    simp only [upr_n, upr_s, ne_eq, Nat.reduceEqDiff, not_false_eq_true]
    unfold rE
    simp [up2_n, up2_s, up1]
  rw [upr_n _ _ h21]
  by_cases h : a = 29
  · subst h
    rw [up2_s]
    have e29 : ∀ I' : IM, rE I' 29 = rSc I' := fun _ => rfl
    rw [e29, e29]
    funext j
    by_cases hj : j = 9
    · subst hj
      simp [rSc, up2_s, up1]
    · rw [q _ _ _ _ hj]
      unfold rSc
      split <;> first | rfl | (exfalso; omega) | (simp [up2_n, up2_s, up1])
  · rw [up2_n _ _ _ h]
    unfold rE
    split <;> first | rfl | (exfalso; omega) | (simp [up2_n, up2_s, up1])
theorem rE_n10 (I : IM) (x : Int32) : rE (up2 I 59 31 x) = upr (upr (upr (upr (up2 (rE I) 29 10 x) 22 (mk (cl x) (I 84))) 23 (mk (cl x) (I 85))) 24 (mk (cl x) (I 86))) 25 (mk (cl x) (I 87)) := by
  have q : ∀ (f : Nat → Int32) (j x) (i), i ≠ j → up1 f j x i = f i := fun f j x i h => by simp [up1, h]
  funext a
  by_cases h22 : a = 22
  · subst h22
    simp only [upr_n, upr_s, ne_eq, Nat.reduceEqDiff, not_false_eq_true]
    unfold rE
    simp [up2_n, up2_s, up1]
  by_cases h23 : a = 23
  · subst h23
    simp only [upr_n, upr_s, ne_eq, Nat.reduceEqDiff, not_false_eq_true]
    unfold rE
    simp [up2_n, up2_s, up1]
  by_cases h24 : a = 24
  · subst h24
    simp only [upr_n, upr_s, ne_eq, Nat.reduceEqDiff, not_false_eq_true]
    unfold rE
    simp [up2_n, up2_s, up1]
  by_cases h25 : a = 25
  · subst h25
    simp only [upr_n, upr_s, ne_eq, Nat.reduceEqDiff, not_false_eq_true]
    unfold rE
    simp [up2_n, up2_s, up1]
  rw [upr_n _ _ h25]
  rw [upr_n _ _ h24]
  rw [upr_n _ _ h23]
  rw [upr_n _ _ h22]
  by_cases h : a = 29
  · subst h
    rw [up2_s]
    have e29 : ∀ I' : IM, rE I' 29 = rSc I' := fun _ => rfl
    rw [e29, e29]
    funext j
    by_cases hj : j = 10
    · subst hj
      simp [rSc, up2_s, up1]
    · rw [q _ _ _ _ hj]
      unfold rSc
      split <;> first | rfl | (exfalso; omega) | (simp [up2_n, up2_s, up1])
  · rw [up2_n _ _ _ h]
    unfold rE
    split <;> first | rfl | (exfalso; omega) | (simp [up2_n, up2_s, up1])
theorem cE_u0 (I : IM) (j : Nat) (x : Int32) : cE (up2 I 2 j x) = up2 (cE I) 0 j x := cE_0 I _
theorem cE_u1 (I : IM) (j : Nat) (x : Int32) : cE (up2 I 3 j x) = up2 (cE I) 1 j x := cE_1 I _
theorem cE_u2 (I : IM) (j : Nat) (x : Int32) : cE (up2 I 5 j x) = up2 (cE I) 2 j x := cE_2 I _
theorem cE_u3 (I : IM) (j : Nat) (x : Int32) : cE (up2 I 6 j x) = up2 (cE I) 3 j x := cE_3 I _
theorem cE_u4 (I : IM) (j : Nat) (x : Int32) : cE (up2 I 7 j x) = up2 (cE I) 4 j x := cE_4 I _
theorem cE_u5 (I : IM) (j : Nat) (x : Int32) : cE (up2 I 8 j x) = up2 (cE I) 5 j x := cE_5 I _
theorem cE_u6 (I : IM) (j : Nat) (x : Int32) : cE (up2 I 9 j x) = up2 (cE I) 6 j x := cE_6 I _
theorem cE_u7 (I : IM) (j : Nat) (x : Int32) : cE (up2 I 10 j x) = up2 (cE I) 7 j x := cE_7 I _
theorem cE_u8 (I : IM) (j : Nat) (x : Int32) : cE (up2 I 11 j x) = up2 (cE I) 8 j x := cE_8 I _
theorem cE_u10 (I : IM) (j : Nat) (x : Int32) : cE (up2 I 14 j x) = up2 (cE I) 10 j x := cE_10 I _
theorem cE_u11 (I : IM) (j : Nat) (x : Int32) : cE (up2 I 15 j x) = up2 (cE I) 11 j x := cE_11 I _
theorem cE_u12 (I : IM) (j : Nat) (x : Int32) : cE (up2 I 16 j x) = up2 (cE I) 12 j x := cE_12 I _
theorem cE_u13 (I : IM) (j : Nat) (x : Int32) : cE (up2 I 17 j x) = up2 (cE I) 13 j x := cE_13 I _
theorem cE_u19 (I : IM) (j : Nat) (x : Int32) : cE (up2 I 47 j x) = up2 (cE I) 19 j x := cE_19 I _
theorem cE_u20 (I : IM) (j : Nat) (x : Int32) : cE (up2 I 48 j x) = up2 (cE I) 20 j x := cE_20 I _
theorem cE_u26 (I : IM) (j : Nat) (x : Int32) : cE (up2 I 56 j x) = up2 (cE I) 26 j x := cE_26 I _
theorem cE_u27 (I : IM) (j : Nat) (x : Int32) : cE (up2 I 57 j x) = up2 (cE I) 27 j x := cE_27 I _
theorem cE_u28 (I : IM) (j : Nat) (x : Int32) : cE (up2 I 58 j x) = up2 (cE I) 28 j x := cE_28 I _
theorem cE_u9 (I : IM) {j : Nat} (x : Int32) (h : j < cl (I 4 8)) : cE (up2 I 12 j x) = up2 (cE I) 9 j x := (cE_9 I _).trans (by rw [mk_up2 h]; rfl)
theorem cE_u14 (I : IM) {j : Nat} (x : Int32) (h : j < cl (I 18 4)) : cE (up2 I 19 j x) = up2 (cE I) 14 j x := (cE_14 I _).trans (by rw [mk_up2 h]; rfl)
theorem cE_u15 (I : IM) {j : Nat} (x : Int32) (h : j < cl (I 18 4)) : cE (up2 I 20 j x) = up2 (cE I) 15 j x := (cE_15 I _).trans (by rw [mk_up2 h]; rfl)
theorem cE_u16 (I : IM) {j : Nat} (x : Int32) (h : j < cl (I 18 4)) : cE (up2 I 21 j x) = up2 (cE I) 16 j x := (cE_16 I _).trans (by rw [mk_up2 h]; rfl)
theorem cE_u17 (I : IM) {j : Nat} (x : Int32) (h : j < cl (I 18 4)) : cE (up2 I 22 j x) = up2 (cE I) 17 j x := (cE_17 I _).trans (by rw [mk_up2 h]; rfl)
theorem cE_u18 (I : IM) {j : Nat} (x : Int32) (h : j < cl (I 23 1)) : cE (up2 I 24 j x) = up2 (cE I) 18 j x := (cE_18 I _).trans (by rw [mk_up2 h]; rfl)
theorem cE_u21 (I : IM) {j : Nat} (x : Int32) (h : j < cl (I 45 3)) : cE (up2 I 54 j x) = up2 (cE I) 21 j x := (cE_21 I _).trans (by rw [mk_up2 h]; rfl)
theorem cE_u22 (I : IM) {j : Nat} (x : Int32) (h : j < cl (I 49 4)) : cE (up2 I 50 j x) = up2 (cE I) 22 j x := (cE_22 I _).trans (by rw [mk_up2 h]; rfl)
theorem cE_u23 (I : IM) {j : Nat} (x : Int32) (h : j < cl (I 49 4)) : cE (up2 I 51 j x) = up2 (cE I) 23 j x := (cE_23 I _).trans (by rw [mk_up2 h]; rfl)
theorem cE_u24 (I : IM) {j : Nat} (x : Int32) (h : j < cl (I 49 4)) : cE (up2 I 52 j x) = up2 (cE I) 24 j x := (cE_24 I _).trans (by rw [mk_up2 h]; rfl)
theorem cE_u25 (I : IM) {j : Nat} (x : Int32) (h : j < cl (I 49 4)) : cE (up2 I 53 j x) = up2 (cE I) 25 j x := (cE_25 I _).trans (by rw [mk_up2 h]; rfl)
theorem rE_u0 (I : IM) (j : Nat) (x : Int32) : rE (up2 I 60 j x) = up2 (rE I) 0 j x := rE_0 I _
theorem rE_u1 (I : IM) (j : Nat) (x : Int32) : rE (up2 I 61 j x) = up2 (rE I) 1 j x := rE_1 I _
theorem rE_u2 (I : IM) (j : Nat) (x : Int32) : rE (up2 I 62 j x) = up2 (rE I) 2 j x := rE_2 I _
theorem rE_u3 (I : IM) (j : Nat) (x : Int32) : rE (up2 I 63 j x) = up2 (rE I) 3 j x := rE_3 I _
theorem rE_u4 (I : IM) (j : Nat) (x : Int32) : rE (up2 I 64 j x) = up2 (rE I) 4 j x := rE_4 I _
theorem rE_u5 (I : IM) (j : Nat) (x : Int32) : rE (up2 I 65 j x) = up2 (rE I) 5 j x := rE_5 I _
theorem rE_u6 (I : IM) (j : Nat) (x : Int32) : rE (up2 I 66 j x) = up2 (rE I) 6 j x := rE_6 I _
theorem rE_u7 (I : IM) (j : Nat) (x : Int32) : rE (up2 I 67 j x) = up2 (rE I) 7 j x := rE_7 I _
theorem rE_u8 (I : IM) (j : Nat) (x : Int32) : rE (up2 I 68 j x) = up2 (rE I) 8 j x := rE_8 I _
theorem rE_u10 (I : IM) (j : Nat) (x : Int32) : rE (up2 I 70 j x) = up2 (rE I) 10 j x := rE_10 I _
theorem rE_u11 (I : IM) (j : Nat) (x : Int32) : rE (up2 I 71 j x) = up2 (rE I) 11 j x := rE_11 I _
theorem rE_u12 (I : IM) (j : Nat) (x : Int32) : rE (up2 I 72 j x) = up2 (rE I) 12 j x := rE_12 I _
theorem rE_u13 (I : IM) (j : Nat) (x : Int32) : rE (up2 I 73 j x) = up2 (rE I) 13 j x := rE_13 I _
theorem rE_u20 (I : IM) (j : Nat) (x : Int32) : rE (up2 I 82 j x) = up2 (rE I) 20 j x := rE_20 I _
theorem rE_u26 (I : IM) (j : Nat) (x : Int32) : rE (up2 I 88 j x) = up2 (rE I) 26 j x := rE_26 I _
theorem rE_u27 (I : IM) (j : Nat) (x : Int32) : rE (up2 I 89 j x) = up2 (rE I) 27 j x := rE_27 I _
theorem rE_u28 (I : IM) (j : Nat) (x : Int32) : rE (up2 I 90 j x) = up2 (rE I) 28 j x := rE_28 I _
theorem rE_u9 (I : IM) {j : Nat} (x : Int32) (h : j < cl (I 59 3)) : rE (up2 I 69 j x) = up2 (rE I) 9 j x := (rE_9 I _).trans (by rw [mk_up2 h]; rfl)
theorem rE_u14 (I : IM) {j : Nat} (x : Int32) (h : j < cl (I 59 17)) : rE (up2 I 74 j x) = up2 (rE I) 14 j x := (rE_14 I _).trans (by rw [mk_up2 h]; rfl)
theorem rE_u15 (I : IM) {j : Nat} (x : Int32) (h : j < cl (I 59 17)) : rE (up2 I 75 j x) = up2 (rE I) 15 j x := (rE_15 I _).trans (by rw [mk_up2 h]; rfl)
theorem rE_u16 (I : IM) {j : Nat} (x : Int32) (h : j < cl (I 59 17)) : rE (up2 I 76 j x) = up2 (rE I) 16 j x := (rE_16 I _).trans (by rw [mk_up2 h]; rfl)
theorem rE_u17 (I : IM) {j : Nat} (x : Int32) (h : j < cl (I 59 17)) : rE (up2 I 77 j x) = up2 (rE I) 17 j x := (rE_17 I _).trans (by rw [mk_up2 h]; rfl)
theorem rE_u18 (I : IM) {j : Nat} (x : Int32) (h : j < cl (I 59 23)) : rE (up2 I 78 j x) = up2 (rE I) 18 j x := (rE_18 I _).trans (by rw [mk_up2 h]; rfl)
theorem rE_u21 (I : IM) {j : Nat} (x : Int32) (h : j < cl (I 59 30)) : rE (up2 I 83 j x) = up2 (rE I) 21 j x := (rE_21 I _).trans (by rw [mk_up2 h]; rfl)
theorem rE_u22 (I : IM) {j : Nat} (x : Int32) (h : j < cl (I 59 31)) : rE (up2 I 84 j x) = up2 (rE I) 22 j x := (rE_22 I _).trans (by rw [mk_up2 h]; rfl)
theorem rE_u23 (I : IM) {j : Nat} (x : Int32) (h : j < cl (I 59 31)) : rE (up2 I 85 j x) = up2 (rE I) 23 j x := (rE_23 I _).trans (by rw [mk_up2 h]; rfl)
theorem rE_u24 (I : IM) {j : Nat} (x : Int32) (h : j < cl (I 59 31)) : rE (up2 I 86 j x) = up2 (rE I) 24 j x := (rE_24 I _).trans (by rw [mk_up2 h]; rfl)
theorem rE_u25 (I : IM) {j : Nat} (x : Int32) (h : j < cl (I 59 31)) : rE (up2 I 87 j x) = up2 (rE I) 25 j x := (rE_25 I _).trans (by rw [mk_up2 h]; rfl)
