/-! the reference's calls: text -/
theorem rt_0 {s : Int32} (hs : srtP s) : rtok s = 0 ↔ s = 0 := srt_all hs (fun s => rtok s = 0 ↔ s = 0) (by decide) (by decide) (by decide) (by decide) (by decide) (by decide) (by decide) (by decide) (by decide) (by decide) (by decide) (by decide) (by decide) (by decide) (by decide) (by decide) (by decide) (by decide)
theorem rt_3 {s : Int32} (hs : srtP s) : rtok s = 3 ↔ (s = 4 ∨ s = 5 ∨ s = 6) := srt_all hs (fun s => rtok s = 3 ↔ (s = 4 ∨ s = 5 ∨ s = 6)) (by decide) (by decide) (by decide) (by decide) (by decide) (by decide) (by decide) (by decide) (by decide) (by decide) (by decide) (by decide) (by decide) (by decide) (by decide) (by decide) (by decide) (by decide)
/-- what a call of text may touch -/
def FrX (t : Nat) (I I' : IM) : Prop := (∀ k, k ∉ [59, 79, 80, 93] → I' k = I k) ∧ (∀ j, j ∉ [23, 26, 44, 45, 46, 47, 50, 51, 52] → I' 59 j = I 59 j) ∧ (∀ i, i < 200 * t → I' 79 i = I 79 i) ∧ ∀ i, i < 4 * t → I' 80 i = I 80 i
theorem mk_0 (f : Nat → Int32) : mk 0 f = fun _ => 0 := by
  funext i
  simp [mk]
/-- what the reference's state is then -/
theorem rE_frx {I I' : IM} {t : Nat} (ht : t = tN (rE I)) (hk : t ≤ 6) (h3 : ∀ q, q < t → cl (I 80 (4 * q + 3)) ≤ 160) (hF : FrX t I I') (h23 : I' 59 23 = 0) :
    (∀ x, x ≠ 29 → x ≠ 30 → x ≠ 31 → rE I' x = clr (rE I) x) ∧ (∀ j, j ≠ 4 → rE I' 29 j = clr (rE I) 29 j) ∧ (∀ j, j < 4 * t → I' 80 j = rE I 30 j) ∧ (∀ j, j / 200 < t → (if j % 200 < cl (I' 80 (4 * (j / 200) + 3)) then I' 79 j else 0) = rE I 31 j) ∧ (∀ j, 4 * t ≤ j → rE I 30 j = 0) ∧ (∀ j, t ≤ j / 200 → rE I 31 j = 0) := by
  obtain ⟨f1, f2, f3, f4⟩ := hF
  have e26 : cl (I 59 26) = t := ht.symm
  have g : ∀ j, j ∉ [23, 26, 44, 45, 46, 47, 50, 51, 52] → I' 59 j = I 59 j := f2
  have cz : cl (0 : Int32) = 0 := rfl
  refine ⟨fun x h29 h30 h31 => ?_, fun j hj => ?_, fun j hj => ?_, fun j hj => ?_, fun j hj => ?_, fun j hj => ?_⟩
  · unfold clr
    by_cases h18 : x = 18
    · subst h18
      rw [upr_s]
      show mk (cl (I' 59 23)) (I' 78) = _
      rw [h23, cz, mk_0]
    · rw [upr_n _ _ h18, up2_n _ _ _ h29]
      unfold rE
      rw [g 3 (by decide), g 17 (by decide), g 30 (by decide), g 31 (by decide), f1 60 (by decide), f1 61 (by decide), f1 62 (by decide), f1 63 (by decide), f1 64 (by decide), f1 65 (by decide), f1 66 (by decide), f1 67 (by decide), f1 68 (by decide), f1 69 (by decide), f1 70 (by decide), f1 71 (by decide), f1 72 (by decide), f1 73 (by decide), f1 74 (by decide), f1 75 (by decide), f1 76 (by decide), f1 77 (by decide), f1 81 (by decide), f1 82 (by decide), f1 83 (by decide), f1 84 (by decide), f1 85 (by decide), f1 86 (by decide), f1 87 (by decide), f1 88 (by decide), f1 89 (by decide), f1 90 (by decide)]
      split <;> first | rfl | (exfalso; omega)
  · unfold clr
    rw [upr_n _ _ (by decide), up2_s]
    show rSc I' j = up1 (rSc I) 6 0 j
    by_cases h6 : j = 6
    · subst h6
      rw [up1_s]
      exact h23
    · rw [up1_n _ _ h6]
      unfold rSc
      split <;> first | exact g _ (by decide) | rfl | (exfalso; omega)
  · rw [f4 j hj]
    exact (mk_lt (by rw [e26]; exact hj)).symm
  · rw [f4 _ (by omega)]
    show _ = if j / 200 < cl (I 59 26) ∧ j % 200 < cl (I 80 (4 * (j / 200) + 3)) then I 79 j else 0
    rw [e26]
    by_cases c : j % 200 < cl (I 80 (4 * (j / 200) + 3))
    · rw [if_pos c, if_pos ⟨hj, c⟩]
      exact f3 j (by omega)
    · rw [if_neg c, if_neg (fun y => c y.2)]
  · show mk (4 * cl (I 59 26)) (I 80) j = 0
    unfold mk
    rw [e26, if_neg (by omega)]
  · show (if j / 200 < cl (I 59 26) ∧ j % 200 < cl (I 80 (4 * (j / 200) + 3)) then I 79 j else 0) = 0
    rw [e26, if_neg (fun y => by omega)]
theorem rE_no {I I' : IM} {t : Nat} (ht : t = tN (rE I)) (hk : t ≤ 6) (h3 : ∀ q, q < t → cl (I 80 (4 * q + 3)) ≤ 160) (hF : FrX t I I') (h23 : I' 59 23 = 0) (h26 : I' 59 26 = nI t) (h4 : rE I 29 4 = nI t) : rE I' = clr (rE I) := by
  obtain ⟨a1, a2, a3, a4, a5, a6⟩ := rE_frx ht hk h3 hF h23
  have e26 : cl (I' 59 26) = t := by rw [h26]; exact cl_nI (by omega)
  have cq : ∀ x, x ≠ 29 → x ≠ 18 → clr (rE I) x = rE I x := fun x h1 h2 => by unfold clr; rw [upr_n _ _ h2, up2_n _ _ _ h1]
  funext x
  by_cases h29 : x = 29
  · subst h29
    funext j
    by_cases h : j = 4
    · subst h
      unfold clr
      rw [upr_n _ _ (by decide), up2_s, up1_n _ _ (by decide), h4]
      exact h26
    · exact a2 j h
  · by_cases h30 : x = 30
    · subst h30
      rw [cq 30 (by decide) (by decide)]
      funext j
      show mk (4 * cl (I' 59 26)) (I' 80) j = _
      rw [e26]
      by_cases h : j < 4 * t
      · rw [mk_lt h]; exact a3 j h
      · unfold mk
        rw [if_neg h, a5 j (by omega)]
    · by_cases h31 : x = 31
      · subst h31
        rw [cq 31 (by decide) (by decide)]
        funext j
        show (if j / 200 < cl (I' 59 26) ∧ j % 200 < cl (I' 80 (4 * (j / 200) + 3)) then I' 79 j else 0) = _
        rw [e26]
        by_cases h : j / 200 < t
        · rw [← a4 j h]
          by_cases c : j % 200 < cl (I' 80 (4 * (j / 200) + 3))
          · rw [if_pos c, if_pos ⟨h, c⟩]
          · rw [if_neg c, if_neg (fun y => c y.2)]
        · rw [if_neg (fun y => h y.1), a6 j (by omega)]
      · exact a1 x h29 h30 h31
theorem rE_yes {I I' : IM} {t : Nat} {a b c : List Int32} (ht : t = tN (rE I)) (hk : t < 6) (h3 : ∀ q, q < t → cl (I 80 (4 * q + 3)) ≤ 160) (hF : FrX t I I') (h23 : I' 59 23 = 0) (h26 : I' 59 26 = nI t + 1) (hs : ∀ r, r < 4 → I' 80 (4 * t + r) = txA a b c r) (hlen : a.length + b.length + c.length ≤ 160) (ho : ∀ i, i < a.length + b.length + c.length → I' 79 (200 * t + i) = (a ++ b ++ c).getD i 0) : rE I' = addT (clr (rE I)) t a b c := by
  obtain ⟨a1, a2, a3, a4, a5, a6⟩ := rE_frx ht (by omega) h3 hF h23
  have e26 : cl (I' 59 26) = t + 1 := by rw [h26, nI_1]; exact cl_nI (by omega)
  have cq : ∀ x, x ≠ 29 → x ≠ 18 → clr (rE I) x = rE I x := fun x h1 h2 => by unfold clr; rw [upr_n _ _ h2, up2_n _ _ _ h1]
  have e3 : cl (I' 80 (4 * t + 3)) = a.length + b.length + c.length := by
    rw [hs 3 (by omega)]
    exact cl_nI (by omega)
  funext x
  unfold addT
  by_cases h29 : x = 29
  · subst h29
    rw [up2_s, upr_n _ _ (by decide), upr_n _ _ (by decide)]
    funext j
    by_cases h : j = 4
    · subst h
      rw [up1_s]
      exact h26
    · rw [up1_n _ _ h]
      exact a2 j h
  · rw [up2_n _ _ _ h29]
    by_cases h31 : x = 31
    · subst h31
      rw [upr_s, cq 31 (by decide) (by decide)]
      funext j
      show (if j / 200 < cl (I' 59 26) ∧ j % 200 < cl (I' 80 (4 * (j / 200) + 3)) then I' 79 j else 0) = _
      rw [e26]
      by_cases h : j / 200 < t
      · rw [if_neg (c := j / 200 = t ∧ j % 200 < a.length + b.length + c.length) (fun y => by omega), ← a4 j h]
        by_cases d : j % 200 < cl (I' 80 (4 * (j / 200) + 3))
        · rw [if_pos d, if_pos ⟨by omega, d⟩]
        · rw [if_neg d, if_neg (fun y => d y.2)]
      · by_cases h2 : j / 200 = t
        · rw [h2, e3]
          by_cases d : j % 200 < a.length + b.length + c.length
          · rw [if_pos ⟨by omega, d⟩, if_pos ⟨rfl, d⟩]
            have := ho (j % 200) d
            rw [show 200 * t + j % 200 = j by omega] at this
            exact this
          · rw [if_neg (fun y => d y.2), if_neg (fun y => d y.2), a6 j (by omega)]
        · rw [if_neg (fun y => by omega), if_neg (fun y => h2 y.1), a6 j (by omega)]
    · rw [upr_n _ _ h31]
      by_cases h30 : x = 30
      · subst h30
        rw [upr_s, cq 30 (by decide) (by decide)]
        funext j
        show mk (4 * cl (I' 59 26)) (I' 80) j = _
        rw [e26]
        by_cases h : j < 4 * t
        · rw [mk_lt (by omega), if_neg (fun y => by omega)]
          exact a3 j h
        · by_cases h2 : j / 4 = t
          · rw [mk_lt (by omega), if_pos h2]
            have := hs (j % 4) (by omega)
            rw [show 4 * t + j % 4 = j by omega] at this
            exact this
          · unfold mk
            rw [if_neg (by omega), if_neg h2, a5 j (by omega)]
      · rw [upr_n _ _ h30]
        exact a1 x h29 h30 h31
