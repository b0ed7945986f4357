/-! the reference: image, back -/
theorem cpy_0 (f g : Nat → Int32) : va_cpy f g 0 0 0 = g := by
  funext j
  exact pk_cpy_out (Or.inr (by omega))
theorem cpy_1 (f g : Nat → Int32) (i : Nat) : up1 (va_cpy f g 0 0 i) i (f i) = va_cpy f g 0 0 (i + 1) := by
  funext j
  by_cases h : j = i
  · subst h
    rw [up1_s, sb_cpy0 (by omega)]
  · rw [up1_n _ _ h]
    by_cases h2 : j < i
    · rw [sb_cpy0 h2, sb_cpy0 (by omega)]
    · rw [pk_cpy_out (Or.inr (by omega)), pk_cpy_out (Or.inr (by omega))]
/-- rows copied so far -/
def cp1 (I : IM) (d s n : Nat) : IM := upr I d (va_cpy (I s) (I d) 0 0 n)
def cp4 (I : IM) (d s n : Nat) : IM := upr (upr (upr (upr I d (va_cpy (I s) (I d) 0 0 n)) (d + 1) (va_cpy (I (s + 1)) (I (d + 1)) 0 0 n)) (d + 2) (va_cpy (I (s + 2)) (I (d + 2)) 0 0 n)) (d + 3) (va_cpy (I (s + 3)) (I (d + 3)) 0 0 n)
theorem upr_id (I : IM) (d : Nat) : upr I d (I d) = I := by
  funext k
  by_cases h : k = d
  · subst h; rw [upr_s]
  · rw [upr_n _ _ h]
theorem cp1_0 (I : IM) (d s : Nat) : cp1 I d s 0 = I := by
  unfold cp1
  rw [cpy_0, upr_id]
theorem cp4_0 (I : IM) (d s : Nat) : cp4 I d s 0 = I := by
  unfold cp4
  rw [cpy_0, cpy_0, cpy_0, cpy_0, upr_id, upr_id, upr_id, upr_id]
theorem cp1_1 (I : IM) {d s n : Nat} : up2 (cp1 I d s n) d n (I s n) = cp1 I d s (n + 1) := by
  unfold cp1 up2
  rw [upr_s, cpy_1]
  funext k
  by_cases h : k = d
  · subst h; rw [upr_s, upr_s]
  · rw [upr_n _ _ h, upr_n _ _ h, upr_n _ _ h]
theorem cp1_o (I : IM) {d s n k : Nat} (h : k ≠ d) : cp1 I d s n k = I k := upr_n _ _ h
theorem cp4_o (I : IM) {d s n k : Nat} (h : k < d ∨ d + 3 < k) : cp4 I d s n k = I k := by
  unfold cp4
  rw [upr_n _ _ (by omega), upr_n _ _ (by omega), upr_n _ _ (by omega), upr_n _ _ (by omega)]
theorem cp4_i (I : IM) {d s n q : Nat} (h : q < 4) : cp4 I d s n (d + q) = va_cpy (I (s + q)) (I (d + q)) 0 0 n := by
  unfold cp4
  rcases (show q = 0 ∨ q = 1 ∨ q = 2 ∨ q = 3 by omega) with rfl | rfl | rfl | rfl
  · rw [upr_n _ _ (by omega), upr_n _ _ (by omega), upr_n _ _ (by omega)]
    exact upr_s _ _ _
  · rw [upr_n _ _ (by omega), upr_n _ _ (by omega), upr_s]
  · rw [upr_n _ _ (by omega), upr_s]
  · rw [upr_s]
theorem cp4_1 (I : IM) {d s n : Nat} (hs : s + 3 < d ∨ d + 3 < s) : up2 (up2 (up2 (up2 (cp4 I d s n) d n (I s n)) (d + 1) n (I (s + 1) n)) (d + 2) n (I (s + 2) n)) (d + 3) n (I (s + 3) n) = cp4 I d s (n + 1) := by
  funext k
  by_cases h0 : k = d
  · subst h0
    rw [up2_n _ _ _ (by omega), up2_n _ _ _ (by omega), up2_n _ _ _ (by omega), up2_s]
    have e : cp4 I k s n k = va_cpy (I s) (I k) 0 0 n := cp4_i I (d := k) (s := s) (n := n) (q := 0) (by omega)
    have e' : cp4 I k s (n + 1) k = va_cpy (I s) (I k) 0 0 (n + 1) := cp4_i I (d := k) (s := s) (n := n + 1) (q := 0) (by omega)
    rw [e, e']
    exact cpy_1 _ _ _
  by_cases h1 : k = d + 1
  · subst h1
    rw [up2_n _ _ _ (by omega), up2_n _ _ _ (by omega), up2_s, up2_n _ _ _ (by omega), cp4_i I (by omega), cp4_i I (by omega)]
    exact cpy_1 _ _ _
  by_cases h2 : k = d + 2
  · subst h2
    rw [up2_n _ _ _ (by omega), up2_s, up2_n _ _ _ (by omega), up2_n _ _ _ (by omega), cp4_i I (by omega), cp4_i I (by omega)]
    exact cpy_1 _ _ _
  by_cases h3 : k = d + 3
  · subst h3
    rw [up2_s, up2_n _ _ _ (by omega), up2_n _ _ _ (by omega), up2_n _ _ _ (by omega), cp4_i I (by omega), cp4_i I (by omega)]
    exact cpy_1 _ _ _
  rw [up2_n _ _ _ h3, up2_n _ _ _ h2, up2_n _ _ _ h1, up2_n _ _ _ h0, cp4_o I (by omega), cp4_o I (by omega)]
def rimS (I : IM) : IM := up2 (up2 (up2 (up2 (up2 I 59 28 1) 59 29 (I 59 2)) 59 30 (I 59 3)) 59 31 (I 59 17)) 59 32 (I 59 27)
def rimU (I : IM) : IM := cp4 (cp1 (cp1 (cp1 (rimS I) 81 60 36) 82 61 6) 83 69 8) 84 74 11
theorem rim_rE (I : IM) (hok : rOk I) : rE (rimU I) = imageU (rE I) := by
  have h8 := hok.1.1.2.1
  have h10 := hok.1.2.2.1.2.1
  have hz := hok.1.z
  have en : pN (rE I) = cl (I 59 3) := rfl
  have es : sN (rE I) = cl (I 59 17) := rfl
  have s59 : ∀ k, k ≠ 59 → rimS I k = I k := fun k hk => by unfold rimS; rw [up2_n _ _ _ hk, up2_n _ _ _ hk, up2_n _ _ _ hk, up2_n _ _ _ hk, up2_n _ _ _ hk]
  generalize hJ : rimU I = J
  have ho : ∀ k, k ∉ [59, 81, 82, 83, 84, 85, 86, 87] → J k = I k := by
    intro k hk
    simp only [List.mem_cons, List.not_mem_nil, or_false, not_or] at hk
    subst hJ
    unfold rimU
    rw [cp4_o _ (by omega), cp1_o _ (by omega), cp1_o _ (by omega), cp1_o _ (by omega), s59 k (by omega)]
  have h59 : J 59 = rimS I 59 := by
    subst hJ
    unfold rimU
    rw [cp4_o _ (by omega), cp1_o _ (by omega), cp1_o _ (by omega), cp1_o _ (by omega)]
  have hsc : ∀ j, j ∉ [28, 29, 30, 31, 32] → J 59 j = I 59 j := by
    intro j hj
    simp only [List.mem_cons, List.not_mem_nil, or_false, not_or] at hj
    rw [h59]
    unfold rimS
    rw [up2_s, up1_n _ _ (by omega), up2_s, up1_n _ _ (by omega), up2_s, up1_n _ _ (by omega), up2_s, up1_n _ _ (by omega), up2_s, up1_n _ _ (by omega)]
  have c7 : J 59 28 = 1 := by rw [h59]; unfold rimS; rw [up2_s, up1_n _ _ (by omega), up2_s, up1_n _ _ (by omega), up2_s, up1_n _ _ (by omega), up2_s, up1_n _ _ (by omega), up2_s, up1_s]
  have c8 : J 59 29 = I 59 2 := by rw [h59]; unfold rimS; rw [up2_s, up1_n _ _ (by omega), up2_s, up1_n _ _ (by omega), up2_s, up1_n _ _ (by omega), up2_s, up1_s]
  have c9 : J 59 30 = I 59 3 := by rw [h59]; unfold rimS; rw [up2_s, up1_n _ _ (by omega), up2_s, up1_n _ _ (by omega), up2_s, up1_s]
  have c10 : J 59 31 = I 59 17 := by rw [h59]; unfold rimS; rw [up2_s, up1_n _ _ (by omega), up2_s, up1_s]
  have c11 : J 59 32 = I 59 27 := by rw [h59]; unfold rimS; rw [up2_s, up1_s]
  have e81 : J 81 = va_cpy (I 60) (I 81) 0 0 36 := by
    subst hJ
    unfold rimU
    rw [cp4_o _ (by omega), cp1_o _ (by omega), cp1_o _ (by omega), cp1, upr_s, s59 60 (by omega), s59 81 (by omega)]
  have e82 : J 82 = va_cpy (I 61) (I 82) 0 0 6 := by
    subst hJ
    unfold rimU
    rw [cp4_o _ (by omega), cp1_o _ (by omega), cp1, upr_s, cp1_o _ (by omega), cp1_o _ (by omega), s59 61 (by omega), s59 82 (by omega)]
  have e83 : J 83 = va_cpy (I 69) (I 83) 0 0 8 := by
    subst hJ
    unfold rimU
    rw [cp4_o _ (by omega), cp1, upr_s, cp1_o _ (by omega), cp1_o _ (by omega), cp1_o _ (by omega), cp1_o _ (by omega), s59 69 (by omega), s59 83 (by omega)]
  have e84 : ∀ q, q < 4 → J (84 + q) = va_cpy (I (74 + q)) (I (84 + q)) 0 0 11 := by
    intro q hq
    subst hJ
    unfold rimU
    rw [cp4_i _ hq, cp1_o _ (by omega), cp1_o _ (by omega), cp1_o _ (by omega), cp1_o _ (by omega), cp1_o _ (by omega), cp1_o _ (by omega), s59 (74 + q) (by omega), s59 (84 + q) (by omega)]
  have k22 : ∀ q, q < 4 → mk (cl (J 59 31)) (J (84 + q)) = mk (cl (I 59 17)) (I (74 + q)) := fun q hq => by
    rw [c10, e84 q hq]
    exact mk_cpy (by omega)
  funext a
  match a with
  | 0 => exact ho 60 (by decide)
  | 1 => exact ho 61 (by decide)
  | 2 => exact ho 62 (by decide)
  | 3 => exact ho 63 (by decide)
  | 4 => exact ho 64 (by decide)
  | 5 => exact ho 65 (by decide)
  | 6 => exact ho 66 (by decide)
  | 7 => exact ho 67 (by decide)
  | 8 => exact ho 68 (by decide)
  | 9 => show mk (cl (J 59 3)) (J 69) = mk (cl (I 59 3)) (I 69); rw [hsc 3 (by decide), ho 69 (by decide)]
  | 10 => exact ho 70 (by decide)
  | 11 => exact ho 71 (by decide)
  | 12 => exact ho 72 (by decide)
  | 13 => exact ho 73 (by decide)
  | 14 => show mk (cl (J 59 17)) (J 74) = mk (cl (I 59 17)) (I 74); rw [hsc 17 (by decide), ho 74 (by decide)]
  | 15 => show mk (cl (J 59 17)) (J 75) = mk (cl (I 59 17)) (I 75); rw [hsc 17 (by decide), ho 75 (by decide)]
  | 16 => show mk (cl (J 59 17)) (J 76) = mk (cl (I 59 17)) (I 76); rw [hsc 17 (by decide), ho 76 (by decide)]
  | 17 => show mk (cl (J 59 17)) (J 77) = mk (cl (I 59 17)) (I 77); rw [hsc 17 (by decide), ho 77 (by decide)]
  | 18 => show mk (cl (J 59 23)) (J 78) = mk (cl (I 59 23)) (I 78); rw [hsc 23 (by decide), ho 78 (by decide)]
  | 19 => exact (show img0 (J 59 28) (J 81) = I 60 by
      rw [img0_n (by rw [c7]; decide), e81, mk_cpy (Nat.le_refl _)]
      funext j
      unfold mk
      by_cases hj : j < 36
      · rw [if_pos hj]
      · rw [if_neg hj]; exact (((hz j).1 (by omega)).1).symm)
  | 20 => exact e82.trans (cpy_full (fun j hj => (hz j).2 hj))
  | 21 => exact (show mk (cl (J 59 30)) (J 83) = mk (cl (I 59 3)) (I 69) by rw [c9, e83]; exact mk_cpy (by omega))
  | 22 => exact k22 0 (by omega)
  | 23 => exact k22 1 (by omega)
  | 24 => exact k22 2 (by omega)
  | 25 => exact k22 3 (by omega)
  | 26 => exact ho 88 (by decide)
  | 27 => exact ho 89 (by decide)
  | 28 => exact ho 90 (by decide)
  | 29 =>
    funext j
    match j with
    | 0 => exact hsc 2 (by decide)
    | 1 => exact hsc 3 (by decide)
    | 2 => exact hsc 12 (by decide)
    | 3 => exact hsc 17 (by decide)
    | 4 => exact hsc 26 (by decide)
    | 5 => exact hsc 27 (by decide)
    | 6 => exact hsc 23 (by decide)
    | 7 => exact c7
    | 8 => exact (show img8 (J 59 28) (J 59 29) = I 59 2 by rw [img8_n (by rw [c7]; decide), c8])
    | 9 => exact c9
    | 10 => exact c10
    | 11 => exact c11
    | n + 12 => rfl
  | 30 => show mk (4 * cl (J 59 26)) (J 80) = mk (4 * cl (I 59 26)) (I 80); rw [hsc 26 (by decide), ho 80 (by decide)]
  | 31 => show (fun j => if j / 200 < cl (J 59 26) ∧ j % 200 < cl (J 80 (4 * (j / 200) + 3)) then J 79 j else 0) = (fun j => if j / 200 < cl (I 59 26) ∧ j % 200 < cl (I 80 (4 * (j / 200) + 3)) then I 79 j else 0); rw [hsc 26 (by decide), ho 80 (by decide), ho 79 (by decide)]
  | n + 32 => rfl
theorem cp_own {I : IM} (h : rOwn I) : rOwn (rimU I) := by
  unfold rimU cp4 cp1 rimS
  exact (((((((((((h.up (by decide) (Or.inr (by decide))).up (by decide) (Or.inr (by decide))).up (by decide) (Or.inr (by decide))).up (by decide) (Or.inr (by decide))).up (by decide) (Or.inr (by decide))).upr (by decide) (by decide)).upr (by decide) (by decide)).upr (by decide) (by decide)).upr (by decide) (by decide)).upr (by decide) (by decide)).upr (by decide) (by decide)).upr (by decide) (by decide)
def sp_R_image : SpT := rSp [] (fun E => .int (E 29 3)) imageU
set_option maxHeartbeats 4000000 in
set_option maxRecDepth 100000 in
theorem c_R_image : Con mR_image 2 0 0 sp_R_image := by
  refine con_of_X rfl fun G as S I L Post hs => ?_
  obtain ⟨rfl, rfl, hok, h1⟩ := hs
  dsimp only at h1
  refine ⟨1, Nat.le_of_ble_eq_true rfl, ?_⟩
  show X mR_image G _ S1 I L 0 [.ref 59, .null] [] Post
  have loop1 : ∀ (J : IM), (∀ a1 : Value, X mR_image G (2, 0, 0) S1 (cp1 J 81 60 36) L 63 [.ref 59, a1] [] Post) → ∀ (k i : Nat), i + k = 36 → X mR_image G (2, 0, 0) S1 (cp1 J 81 60 i) L 39 [.ref 59, .int (nI i)] [] Post := by
    intro J hc k
    induction k with
    | zero =>
      intro i hi
      obtain rfl : i = 36 := by omega
      refine x_iload_n dR_image_39 rfl ?_
      refine x_bipush (v := 36) dR_image_40 rfl ?_
      -- at 42: .if_icmp .ge 21
      refine x_icmp_ge (tgt := 63) dR_image_42 (by decide) (fun _ => ?_) (fun h => absurd (Int32.le_refl _) h)
      exact hc _
    | succ k ih =>
      intro i hi
      refine x_iload_n dR_image_39 rfl ?_
      refine x_bipush (v := 36) dR_image_40 rfl ?_
      -- at 42: .if_icmp .ge 21
      refine x_icmp_ge (tgt := 63) dR_image_42 (by decide) (fun h => absurd h (nI_ge (b := 36) (by omega) (by omega))) (fun _ => ?_)
      refine x_aload_n dR_image_45 rfl ?_
      refine x_getR fl_R_77 rfl dR_image_46 rfl rfl rfl ?_
      refine x_iload_n dR_image_49 rfl ?_
      refine x_aload_n dR_image_50 rfl ?_
      refine x_getR fl_R_7 rfl dR_image_51 rfl rfl rfl ?_
      refine x_iload_n dR_image_54 rfl ?_
      refine x_ialdJ (j := i) dR_image_55 rfl rfl (by first | rfl | (simp only [← nI_add, ← pk_mul]; rfl)) (by omega) ?_
      refine x_iastJ (j := i) dR_image_56 rfl rfl (by first | rfl | (simp only [← nI_add, ← pk_mul]; rfl)) (by omega) ?_
      -- at 57: .iinc 1 1
      refine x_iincp_1 dR_image_57 rfl rfl ?_
      refine x_goto (tgt := 39) dR_image_60 (by decide) ?_
      -- at 39: .iload_n 1
      rw [nI_1, cp1_o _ (show 60 ≠ 81 by decide), cp1_1]
      exact ih (i + 1) (by omega)
  have loop2 : ∀ (J : IM), (∀ a1 : Value, X mR_image G (2, 0, 0) S1 (cp1 J 82 61 6) L 89 [.ref 59, a1] [] Post) → ∀ (k i : Nat), i + k = 6 → X mR_image G (2, 0, 0) S1 (cp1 J 82 61 i) L 65 [.ref 59, .int (nI i)] [] Post := by
    intro J hc k
    induction k with
    | zero =>
      intro i hi
      obtain rfl : i = 6 := by omega
      refine x_iload_n dR_image_65 rfl ?_
      refine x_bipush (v := 6) dR_image_66 rfl ?_
      -- at 68: .if_icmp .ge 21
      refine x_icmp_ge (tgt := 89) dR_image_68 (by decide) (fun _ => ?_) (fun h => absurd (Int32.le_refl _) h)
      exact hc _
    | succ k ih =>
      intro i hi
      refine x_iload_n dR_image_65 rfl ?_
      refine x_bipush (v := 6) dR_image_66 rfl ?_
      -- at 68: .if_icmp .ge 21
      refine x_icmp_ge (tgt := 89) dR_image_68 (by decide) (fun h => absurd h (nI_ge (b := 6) (by omega) (by omega))) (fun _ => ?_)
      refine x_aload_n dR_image_71 rfl ?_
      refine x_getR fl_R_80 rfl dR_image_72 rfl rfl rfl ?_
      refine x_iload_n dR_image_75 rfl ?_
      refine x_aload_n dR_image_76 rfl ?_
      refine x_getR fl_R_13 rfl dR_image_77 rfl rfl rfl ?_
      refine x_iload_n dR_image_80 rfl ?_
      refine x_ialdJ (j := i) dR_image_81 rfl rfl (by first | rfl | (simp only [← nI_add, ← pk_mul]; rfl)) (by omega) ?_
      refine x_iastJ (j := i) dR_image_82 rfl rfl (by first | rfl | (simp only [← nI_add, ← pk_mul]; rfl)) (by omega) ?_
      -- at 83: .iinc 1 1
      refine x_iincp_1 dR_image_83 rfl rfl ?_
      refine x_goto (tgt := 65) dR_image_86 (by decide) ?_
      -- at 65: .iload_n 1
      rw [nI_1, cp1_o _ (show 61 ≠ 82 by decide), cp1_1]
      exact ih (i + 1) (by omega)
  have loop3 : ∀ (J : IM), (∀ a1 : Value, X mR_image G (2, 0, 0) S1 (cp1 J 83 69 8) L 115 [.ref 59, a1] [] Post) → ∀ (k i : Nat), i + k = 8 → X mR_image G (2, 0, 0) S1 (cp1 J 83 69 i) L 91 [.ref 59, .int (nI i)] [] Post := by
    intro J hc k
    induction k with
    | zero =>
      intro i hi
      obtain rfl : i = 8 := by omega
      refine x_iload_n dR_image_91 rfl ?_
      refine x_bipush (v := 8) dR_image_92 rfl ?_
      -- at 94: .if_icmp .ge 21
      refine x_icmp_ge (tgt := 115) dR_image_94 (by decide) (fun _ => ?_) (fun h => absurd (Int32.le_refl _) h)
      exact hc _
    | succ k ih =>
      intro i hi
      refine x_iload_n dR_image_91 rfl ?_
      refine x_bipush (v := 8) dR_image_92 rfl ?_
      -- at 94: .if_icmp .ge 21
      refine x_icmp_ge (tgt := 115) dR_image_94 (by decide) (fun h => absurd h (nI_ge (b := 8) (by omega) (by omega))) (fun _ => ?_)
      refine x_aload_n dR_image_97 rfl ?_
      refine x_getR fl_R_83 rfl dR_image_98 rfl rfl rfl ?_
      refine x_iload_n dR_image_101 rfl ?_
      refine x_aload_n dR_image_102 rfl ?_
      refine x_getR fl_R_41 rfl dR_image_103 rfl rfl rfl ?_
      refine x_iload_n dR_image_106 rfl ?_
      refine x_ialdJ (j := i) dR_image_107 rfl rfl (by first | rfl | (simp only [← nI_add, ← pk_mul]; rfl)) (by omega) ?_
      refine x_iastJ (j := i) dR_image_108 rfl rfl (by first | rfl | (simp only [← nI_add, ← pk_mul]; rfl)) (by omega) ?_
      -- at 109: .iinc 1 1
      refine x_iincp_1 dR_image_109 rfl rfl ?_
      refine x_goto (tgt := 91) dR_image_112 (by decide) ?_
      -- at 91: .iload_n 1
      rw [nI_1, cp1_o _ (show 69 ≠ 83 by decide), cp1_1]
      exact ih (i + 1) (by omega)
  have loop4 : ∀ (J : IM), (∀ a1 : Value, X mR_image G (2, 0, 0) S1 (cp4 J 84 74 11) L 177 [.ref 59, a1] [] Post) → ∀ (k i : Nat), i + k = 11 → X mR_image G (2, 0, 0) S1 (cp4 J 84 74 i) L 117 [.ref 59, .int (nI i)] [] Post := by
    intro J hc k
    induction k with
    | zero =>
      intro i hi
      obtain rfl : i = 11 := by omega
      refine x_iload_n dR_image_117 rfl ?_
      refine x_bipush (v := 11) dR_image_118 rfl ?_
      -- at 120: .if_icmp .ge 57
      refine x_icmp_ge (tgt := 177) dR_image_120 (by decide) (fun _ => ?_) (fun h => absurd (Int32.le_refl _) h)
      exact hc _
    | succ k ih =>
      intro i hi
      refine x_iload_n dR_image_117 rfl ?_
      refine x_bipush (v := 11) dR_image_118 rfl ?_
      -- at 120: .if_icmp .ge 57
      refine x_icmp_ge (tgt := 177) dR_image_120 (by decide) (fun h => absurd h (nI_ge (b := 11) (by omega) (by omega))) (fun _ => ?_)
      refine x_aload_n dR_image_123 rfl ?_
      refine x_getR fl_R_86 rfl dR_image_124 rfl rfl rfl ?_
      refine x_iload_n dR_image_127 rfl ?_
      refine x_aload_n dR_image_128 rfl ?_
      refine x_getR fl_R_56 rfl dR_image_129 rfl rfl rfl ?_
      refine x_iload_n dR_image_132 rfl ?_
      refine x_ialdJ (j := i) dR_image_133 rfl rfl (by first | rfl | (simp only [← nI_add, ← pk_mul]; rfl)) (by omega) ?_
      refine x_iastJ (j := i) dR_image_134 rfl rfl (by first | rfl | (simp only [← nI_add, ← pk_mul]; rfl)) (by omega) ?_
      refine x_aload_n dR_image_135 rfl ?_
      refine x_getR fl_R_89 rfl dR_image_136 rfl rfl rfl ?_
      refine x_iload_n dR_image_139 rfl ?_
      refine x_aload_n dR_image_140 rfl ?_
      refine x_getR fl_R_59 rfl dR_image_141 rfl rfl rfl ?_
      refine x_iload_n dR_image_144 rfl ?_
      refine x_ialdJ (j := i) dR_image_145 rfl rfl (by first | rfl | (simp only [← nI_add, ← pk_mul]; rfl)) (by omega) ?_
      refine x_iastJ (j := i) dR_image_146 rfl rfl (by first | rfl | (simp only [← nI_add, ← pk_mul]; rfl)) (by omega) ?_
      refine x_aload_n dR_image_147 rfl ?_
      refine x_getR fl_R_92 rfl dR_image_148 rfl rfl rfl ?_
      refine x_iload_n dR_image_151 rfl ?_
      refine x_aload_n dR_image_152 rfl ?_
      refine x_getR fl_R_62 rfl dR_image_153 rfl rfl rfl ?_
      refine x_iload_n dR_image_156 rfl ?_
      refine x_ialdJ (j := i) dR_image_157 rfl rfl (by first | rfl | (simp only [← nI_add, ← pk_mul]; rfl)) (by omega) ?_
      refine x_iastJ (j := i) dR_image_158 rfl rfl (by first | rfl | (simp only [← nI_add, ← pk_mul]; rfl)) (by omega) ?_
      refine x_aload_n dR_image_159 rfl ?_
      refine x_getR fl_R_95 rfl dR_image_160 rfl rfl rfl ?_
      refine x_iload_n dR_image_163 rfl ?_
      refine x_aload_n dR_image_164 rfl ?_
      refine x_getR fl_R_65 rfl dR_image_165 rfl rfl rfl ?_
      refine x_iload_n dR_image_168 rfl ?_
      refine x_ialdJ (j := i) dR_image_169 rfl rfl (by first | rfl | (simp only [← nI_add, ← pk_mul]; rfl)) (by omega) ?_
      refine x_iastJ (j := i) dR_image_170 rfl rfl (by first | rfl | (simp only [← nI_add, ← pk_mul]; rfl)) (by omega) ?_
      -- at 171: .iinc 1 1
      simp only [up2_n, up2_s, ne_eq, Nat.reduceEqDiff, not_false_eq_true]
      rw [cp4_o J (show 74 < 84 ∨ 84 + 3 < 74 by omega), cp4_o J (show 75 < 84 ∨ 84 + 3 < 75 by omega), cp4_o J (show 76 < 84 ∨ 84 + 3 < 76 by omega), cp4_o J (show 77 < 84 ∨ 84 + 3 < 77 by omega), cp4_1 J (d := 84) (s := 74) (n := i) (by omega)]
      refine x_iincp_1 dR_image_171 rfl rfl ?_
      refine x_goto (tgt := 117) dR_image_174 (by decide) ?_
      -- at 117: .iload_n 1
      rw [nI_1]
      exact ih (i + 1) (by omega)
  refine x_aload_n dR_image_0 rfl ?_
  refine x_iconst (v := 1) dR_image_1 rfl ?_
  refine x_putI fl_R_361 rfl dR_image_2 (by decide) rfl rfl rfl rfl ?_
  refine x_aload_n dR_image_5 rfl ?_
  refine x_aload_n dR_image_6 rfl ?_
  refine x_getI fl_R_16 rfl dR_image_7 rfl rfl ?_
  refine x_putI fl_R_364 rfl dR_image_10 (by decide) rfl rfl rfl rfl ?_
  refine x_aload_n dR_image_13 rfl ?_
  refine x_aload_n dR_image_14 rfl ?_
  refine x_getI fl_R_148 rfl dR_image_15 rfl rfl ?_
  refine x_putI fl_R_367 rfl dR_image_18 (by decide) rfl rfl rfl rfl ?_
  refine x_aload_n dR_image_21 rfl ?_
  refine x_aload_n dR_image_22 rfl ?_
  refine x_getI fl_R_158 rfl dR_image_23 rfl rfl ?_
  refine x_putI fl_R_370 rfl dR_image_26 (by decide) rfl rfl rfl rfl ?_
  refine x_aload_n dR_image_29 rfl ?_
  refine x_aload_n dR_image_30 rfl ?_
  refine x_getI fl_R_164 rfl dR_image_31 rfl rfl ?_
  refine x_putI fl_R_373 rfl dR_image_34 (by decide) rfl rfl rfl rfl ?_
  refine x_iconst (v := 0) dR_image_37 rfl ?_
  refine x_istoren_1 dR_image_38 rfl rfl ?_
  -- at 39: .iload_n 1
  have e1 := loop1 (rimS I) (fun a1 => by
    refine x_iconst (v := 0) dR_image_63 rfl ?_
    refine x_istoren_1 dR_image_64 rfl rfl ?_
    -- at 65: .iload_n 1
    have e2 := loop2 (cp1 (rimS I) 81 60 36) (fun a1 => by
      refine x_iconst (v := 0) dR_image_89 rfl ?_
      refine x_istoren_1 dR_image_90 rfl rfl ?_
      -- at 91: .iload_n 1
      have e3 := loop3 (cp1 (cp1 (rimS I) 81 60 36) 82 61 6) (fun a1 => by
        refine x_iconst (v := 0) dR_image_115 rfl ?_
        refine x_istoren_1 dR_image_116 rfl rfl ?_
        -- at 117: .iload_n 1
        have e4 := loop4 (cp1 (cp1 (cp1 (rimS I) 81 60 36) 82 61 6) 83 69 8) (fun a1 => by
          refine x_aload_n dR_image_177 rfl ?_
          refine x_getI fl_R_158 rfl dR_image_178 rfl rfl ?_
          -- at 181: .ireturn
          have es : rimU I 59 17 = I 59 17 := by
            unfold rimU
            rw [cp4_o _ (by omega), cp1_o _ (by omega), cp1_o _ (by omega), cp1_o _ (by omega)]
            unfold rimS
            rw [up2_s, up1_n _ _ (by omega), up2_s, up1_n _ _ (by omega), up2_s, up1_n _ _ (by omega), up2_s, up1_n _ _ (by omega), up2_s, up1_n _ _ (by omega)]
          refine x_eqi (y := I 59 17) es ?_
          refine x_ireturn dR_image_181 rfl rfl ?_
          exact h1 (rimU I) L (fun k hk => by
            unfold rimU
            rw [cp4_o _ (by omega), cp1_o _ (by omega), cp1_o _ (by omega), cp1_o _ (by omega)]
            unfold rimS
            rw [up2_n _ _ _ (by omega), up2_n _ _ _ (by omega), up2_n _ _ _ (by omega), up2_n _ _ _ (by omega), up2_n _ _ _ (by omega)]) (cp_own hok.2) (rim_rE I hok)) 11 0 rfl
        rw [cp4_0] at e4
        exact e4) 8 0 rfl
      rw [cp1_0] at e3
      exact e3) 6 0 rfl
    rw [cp1_0] at e2
    exact e2) 36 0 rfl
  rw [cp1_0] at e1
  simp only [up2_n, up2_s, ne_eq, Nat.reduceEqDiff, not_false_eq_true, up1, Nat.reduceEqDiff, if_true, if_false]
  exact e1
def rbkS (I : IM) : IM := up2 (up2 (up2 I 59 2 (I 59 29)) 59 17 (I 59 31)) 59 27 (I 59 32)
def rbkU (I : IM) (n : Nat) : IM := cp4 (cp1 (cp1 (cp1 (rbkS I) 60 81 36) 61 82 6) 69 83 n) 74 84 11
theorem rbk_rE (I : IM) (hok : rOk I) (hf : ¬ I 59 28 = 0) (n : Nat) (hn : I 59 30 = nI n) (hnp : n ≤ pN (rE I)) (h10 : cl (I 59 31) ≤ 10) : rE (rbkU I n) = backU0 (rE I) := by
  have h8 := hok.1.1.2.1
  have hz := hok.1.z
  have en : pN (rE I) = cl (I 59 3) := rfl
  have s59 : ∀ k, k ≠ 59 → rbkS I k = I k := fun k hk => by unfold rbkS; rw [up2_n _ _ _ hk, up2_n _ _ _ hk, up2_n _ _ _ hk]
  generalize hJ : rbkU I n = J
  have ho : ∀ k, k ∉ [59, 60, 61, 69, 74, 75, 76, 77] → J k = I k := by
    intro k hk
    simp only [List.mem_cons, List.not_mem_nil, or_false, not_or] at hk
    subst hJ
    unfold rbkU
    rw [cp4_o _ (by omega), cp1_o _ (by omega), cp1_o _ (by omega), cp1_o _ (by omega), s59 k (by omega)]
  have h59 : J 59 = rbkS I 59 := by
    subst hJ
    unfold rbkU
    rw [cp4_o _ (by omega), cp1_o _ (by omega), cp1_o _ (by omega), cp1_o _ (by omega)]
  have hsc : ∀ j, j ∉ [2, 17, 27] → J 59 j = I 59 j := by
    intro j hj
    simp only [List.mem_cons, List.not_mem_nil, or_false, not_or] at hj
    rw [h59]
    unfold rbkS
    rw [up2_s, up1_n _ _ (by omega), up2_s, up1_n _ _ (by omega), up2_s, up1_n _ _ (by omega)]
  have c0 : J 59 2 = I 59 29 := by rw [h59]; unfold rbkS; rw [up2_s, up1_n _ _ (by omega), up2_s, up1_n _ _ (by omega), up2_s, up1_s]
  have c3 : J 59 17 = I 59 31 := by rw [h59]; unfold rbkS; rw [up2_s, up1_n _ _ (by omega), up2_s, up1_s]
  have c5 : J 59 27 = I 59 32 := by rw [h59]; unfold rbkS; rw [up2_s, up1_s]
  have e60 : J 60 = va_cpy (I 81) (I 60) 0 0 36 := by
    subst hJ
    unfold rbkU
    rw [cp4_o _ (by omega), cp1_o _ (by omega), cp1_o _ (by omega), cp1, upr_s, s59 60 (by omega), s59 81 (by omega)]
  have e61 : J 61 = va_cpy (I 82) (I 61) 0 0 6 := by
    subst hJ
    unfold rbkU
    rw [cp4_o _ (by omega), cp1_o _ (by omega), cp1, upr_s, cp1_o _ (by omega), cp1_o _ (by omega), s59 61 (by omega), s59 82 (by omega)]
  have e69 : J 69 = va_cpy (I 83) (I 69) 0 0 n := by
    subst hJ
    unfold rbkU
    rw [cp4_o _ (by omega), cp1, upr_s, cp1_o _ (by omega), cp1_o _ (by omega), cp1_o _ (by omega), cp1_o _ (by omega), s59 69 (by omega), s59 83 (by omega)]
  have e74 : ∀ q, q < 4 → J (74 + q) = va_cpy (I (84 + q)) (I (74 + q)) 0 0 11 := by
    intro q hq
    subst hJ
    unfold rbkU
    rw [cp4_i _ hq, cp1_o _ (by omega), cp1_o _ (by omega), cp1_o _ (by omega), cp1_o _ (by omega), cp1_o _ (by omega), cp1_o _ (by omega), s59 (74 + q) (by omega), s59 (84 + q) (by omega)]
  have k22 : ∀ q, q < 4 → mk (cl (J 59 17)) (J (74 + q)) = mk (cl (I 59 31)) (I (84 + q)) := fun q hq => by
    rw [c3, e74 q hq]
    exact mk_cpy (by omega)
  funext a
  match a with
  | 0 => exact (show J 60 = img0 (I 59 28) (I 81) by
      rw [img0_n hf, e60]
      funext j
      unfold mk
      by_cases hj : j < 36
      · rw [if_pos hj, sb_cpy0 hj]
      · rw [if_neg hj, pk_cpy_out (Or.inr (by omega))]; exact ((hz j).1 (by omega)).1)
  | 1 => exact e61.trans (cpy_full (fun j hj => ((hz j).2 hj).symm))
  | 2 => exact ho 62 (by decide)
  | 3 => exact ho 63 (by decide)
  | 4 => exact ho 64 (by decide)
  | 5 => exact ho 65 (by decide)
  | 6 => exact ho 66 (by decide)
  | 7 => exact ho 67 (by decide)
  | 8 => exact ho 68 (by decide)
  | 9 => exact (show mk (cl (J 59 3)) (J 69) = (fun j => if j < cl (I 59 30) then mk (cl (I 59 30)) (I 83) j else mk (cl (I 59 3)) (I 69) j) by
      rw [hsc 3 (by decide), e69, show I 59 30 = nI n from hn, cl_nI (by omega), ← en]
      funext j
      by_cases hj : j < n
      · rw [if_pos hj, mk_lt (by omega), mk_lt hj, sb_cpy0 hj]
      · rw [if_neg hj]
        unfold mk
        by_cases h2 : j < pN (rE I)
        · rw [if_pos h2, if_pos h2, pk_cpy_out (Or.inr (by omega))]
        · rw [if_neg h2, if_neg h2])
  | 10 => exact ho 70 (by decide)
  | 11 => exact ho 71 (by decide)
  | 12 => exact ho 72 (by decide)
  | 13 => exact ho 73 (by decide)
  | 14 => exact k22 0 (by omega)
  | 15 => exact k22 1 (by omega)
  | 16 => exact k22 2 (by omega)
  | 17 => exact k22 3 (by omega)
  | 18 => show mk (cl (J 59 23)) (J 78) = mk (cl (I 59 23)) (I 78); rw [hsc 23 (by decide), ho 78 (by decide)]
  | 19 => exact (show img0 (J 59 28) (J 81) = img0 (I 59 28) (I 81) by rw [hsc 28 (by decide), ho 81 (by decide)])
  | 20 => exact ho 82 (by decide)
  | 21 => show mk (cl (J 59 30)) (J 83) = mk (cl (I 59 30)) (I 83); rw [hsc 30 (by decide), ho 83 (by decide)]
  | 22 => show mk (cl (J 59 31)) (J 84) = mk (cl (I 59 31)) (I 84); rw [hsc 31 (by decide), ho 84 (by decide)]
  | 23 => show mk (cl (J 59 31)) (J 85) = mk (cl (I 59 31)) (I 85); rw [hsc 31 (by decide), ho 85 (by decide)]
  | 24 => show mk (cl (J 59 31)) (J 86) = mk (cl (I 59 31)) (I 86); rw [hsc 31 (by decide), ho 86 (by decide)]
  | 25 => show mk (cl (J 59 31)) (J 87) = mk (cl (I 59 31)) (I 87); rw [hsc 31 (by decide), ho 87 (by decide)]
  | 26 => exact ho 88 (by decide)
  | 27 => exact ho 89 (by decide)
  | 28 => exact ho 90 (by decide)
  | 29 =>
    funext j
    match j with
    | 0 => exact (show J 59 2 = img8 (I 59 28) (I 59 29) by rw [img8_n hf, c0])
    | 1 => exact hsc 3 (by decide)
    | 2 => exact hsc 12 (by decide)
    | 3 => exact c3
    | 4 => exact hsc 26 (by decide)
    | 5 => exact c5
    | 6 => exact hsc 23 (by decide)
    | 7 => exact hsc 28 (by decide)
    | 8 => exact (show img8 (J 59 28) (J 59 29) = img8 (I 59 28) (I 59 29) by rw [hsc 28 (by decide), hsc 29 (by decide)])
    | 9 => exact hsc 30 (by decide)
    | 10 => exact hsc 31 (by decide)
    | 11 => exact hsc 32 (by decide)
    | n + 12 => rfl
  | 30 => show mk (4 * cl (J 59 26)) (J 80) = mk (4 * cl (I 59 26)) (I 80); rw [hsc 26 (by decide), ho 80 (by decide)]
  | 31 => show (fun j => if j / 200 < cl (J 59 26) ∧ j % 200 < cl (J 80 (4 * (j / 200) + 3)) then J 79 j else 0) = (fun j => if j / 200 < cl (I 59 26) ∧ j % 200 < cl (I 80 (4 * (j / 200) + 3)) then I 79 j else 0); rw [hsc 26 (by decide), ho 80 (by decide), ho 79 (by decide)]
  | n + 32 => rfl
theorem bk_own {I : IM} (h : rOwn I) (n : Nat) : rOwn (rbkU I n) := by
  unfold rbkU cp4 cp1 rbkS
  exact (((((((((h.up (by decide) (Or.inr (by decide))).up (by decide) (Or.inr (by decide))).up (by decide) (Or.inr (by decide))).upr (by decide) (by decide)).upr (by decide) (by decide)).upr (by decide) (by decide)).upr (by decide) (by decide)).upr (by decide) (by decide)).upr (by decide) (by decide)).upr (by decide) (by decide)
def sp_R_back : SpT := rSp [] (fun E => .int (backS E)) backU
set_option maxHeartbeats 4000000 in
set_option maxRecDepth 100000 in
theorem c_R_back : Con mR_back 2 0 0 sp_R_back := by
  refine con_of_X rfl fun G as S I L Post hs => ?_
  obtain ⟨rfl, rfl, hok, h1⟩ := hs
  dsimp only at h1
  refine ⟨1, Nat.le_of_ble_eq_true rfl, ?_⟩
  show X mR_back G _ S1 I L 0 [.ref 59, .null] [] Post
  obtain ⟨-, ⟨n, hnp, hn, -⟩, ⟨m, hm, em, -⟩, -⟩ := hok.1.h
  have h8 := hok.1.1.2.1
  have hn : I 59 30 = nI n := hn
  have em : I 59 31 = nI m := em
  refine x_aload_n dR_back_0 rfl ?_
  refine x_getI fl_R_361 rfl dR_back_1 rfl rfl ?_
  -- at 4: .ifCond .ne 6
  refine x_if_ne (tgt := 10) dR_back_4 (by decide) (fun c1 => ?_) (fun c1 => ?_)
  · rw [backS, backU, if_pos (show ¬ rE I 29 7 = 0 from c1), if_pos (show ¬ rE I 29 7 = 0 from c1)] at h1
    have loop1 : ∀ (J : IM), (∀ a1 : Value, X mR_back G (2, 0, 0) S1 (cp1 J 60 81 36) L 60 [.ref 59, a1] [] Post) → ∀ (k i : Nat), i + k = 36 → X mR_back G (2, 0, 0) S1 (cp1 J 60 81 i) L 36 [.ref 59, .int (nI i)] [] Post := by
      intro J hc k
      induction k with
      | zero =>
        intro i hi
        obtain rfl : i = 36 := by omega
        refine x_iload_n dR_back_36 rfl ?_
        refine x_bipush (v := 36) dR_back_37 rfl ?_
        -- at 39: .if_icmp .ge 21
        refine x_icmp_ge (tgt := 60) dR_back_39 (by decide) (fun _ => ?_) (fun h => absurd (Int32.le_refl _) h)
        exact hc _
      | succ k ih =>
        intro i hi
        refine x_iload_n dR_back_36 rfl ?_
        refine x_bipush (v := 36) dR_back_37 rfl ?_
        -- at 39: .if_icmp .ge 21
        refine x_icmp_ge (tgt := 60) dR_back_39 (by decide) (fun h => absurd h (nI_ge (b := 36) (by omega) (by omega))) (fun _ => ?_)
        refine x_aload_n dR_back_42 rfl ?_
        refine x_getR fl_R_7 rfl dR_back_43 rfl rfl rfl ?_
        refine x_iload_n dR_back_46 rfl ?_
        refine x_aload_n dR_back_47 rfl ?_
        refine x_getR fl_R_77 rfl dR_back_48 rfl rfl rfl ?_
        refine x_iload_n dR_back_51 rfl ?_
        refine x_ialdJ (j := i) dR_back_52 rfl rfl (by first | rfl | (simp only [← nI_add, ← pk_mul]; rfl)) (by omega) ?_
        refine x_iastJ (j := i) dR_back_53 rfl rfl (by first | rfl | (simp only [← nI_add, ← pk_mul]; rfl)) (by omega) ?_
        -- at 54: .iinc 1 1
        refine x_iincp_1 dR_back_54 rfl rfl ?_
        refine x_goto (tgt := 36) dR_back_57 (by decide) ?_
        -- at 36: .iload_n 1
        rw [nI_1, cp1_o _ (show 81 ≠ 60 by decide), cp1_1]
        exact ih (i + 1) (by omega)
    have loop2 : ∀ (J : IM), (∀ a1 : Value, X mR_back G (2, 0, 0) S1 (cp1 J 61 82 6) L 86 [.ref 59, a1] [] Post) → ∀ (k i : Nat), i + k = 6 → X mR_back G (2, 0, 0) S1 (cp1 J 61 82 i) L 62 [.ref 59, .int (nI i)] [] Post := by
      intro J hc k
      induction k with
      | zero =>
        intro i hi
        obtain rfl : i = 6 := by omega
        refine x_iload_n dR_back_62 rfl ?_
        refine x_bipush (v := 6) dR_back_63 rfl ?_
        -- at 65: .if_icmp .ge 21
        refine x_icmp_ge (tgt := 86) dR_back_65 (by decide) (fun _ => ?_) (fun h => absurd (Int32.le_refl _) h)
        exact hc _
      | succ k ih =>
        intro i hi
        refine x_iload_n dR_back_62 rfl ?_
        refine x_bipush (v := 6) dR_back_63 rfl ?_
        -- at 65: .if_icmp .ge 21
        refine x_icmp_ge (tgt := 86) dR_back_65 (by decide) (fun h => absurd h (nI_ge (b := 6) (by omega) (by omega))) (fun _ => ?_)
        refine x_aload_n dR_back_68 rfl ?_
        refine x_getR fl_R_13 rfl dR_back_69 rfl rfl rfl ?_
        refine x_iload_n dR_back_72 rfl ?_
        refine x_aload_n dR_back_73 rfl ?_
        refine x_getR fl_R_80 rfl dR_back_74 rfl rfl rfl ?_
        refine x_iload_n dR_back_77 rfl ?_
        refine x_ialdJ (j := i) dR_back_78 rfl rfl (by first | rfl | (simp only [← nI_add, ← pk_mul]; rfl)) (by omega) ?_
        refine x_iastJ (j := i) dR_back_79 rfl rfl (by first | rfl | (simp only [← nI_add, ← pk_mul]; rfl)) (by omega) ?_
        -- at 80: .iinc 1 1
        refine x_iincp_1 dR_back_80 rfl rfl ?_
        refine x_goto (tgt := 62) dR_back_83 (by decide) ?_
        -- at 62: .iload_n 1
        rw [nI_1, cp1_o _ (show 82 ≠ 61 by decide), cp1_1]
        exact ih (i + 1) (by omega)
    have loop3 : ∀ (J : IM), J 59 30 = nI n → (∀ a1 : Value, X mR_back G (2, 0, 0) S1 (cp1 J 69 83 n) L 114 [.ref 59, a1] [] Post) → ∀ (k i : Nat), i + k = n → X mR_back G (2, 0, 0) S1 (cp1 J 69 83 i) L 88 [.ref 59, .int (nI i)] [] Post := by
      intro J hJ hc k
      induction k with
      | zero =>
        intro i hi
        obtain rfl : i = n := by omega
        refine x_iload_n dR_back_88 rfl ?_
        refine x_aload_n dR_back_89 rfl ?_
        refine x_getI fl_R_367 rfl dR_back_90 rfl rfl ?_
        -- at 93: .if_icmp .ge 21
        rw [cp1_o _ (show 59 ≠ 69 by decide), hJ]
        refine x_icmp_ge (tgt := 114) dR_back_93 (by decide) (fun _ => ?_) (fun h => absurd (Int32.le_refl _) h)
        exact hc _
      | succ k ih =>
        intro i hi
        refine x_iload_n dR_back_88 rfl ?_
        refine x_aload_n dR_back_89 rfl ?_
        refine x_getI fl_R_367 rfl dR_back_90 rfl rfl ?_
        -- at 93: .if_icmp .ge 21
        rw [cp1_o _ (show 59 ≠ 69 by decide), hJ]
        refine x_icmp_ge (tgt := 114) dR_back_93 (by decide) (fun h => absurd h (nI_ge (by omega) (by omega))) (fun _ => ?_)
        refine x_aload_n dR_back_96 rfl ?_
        refine x_getR fl_R_41 rfl dR_back_97 rfl rfl rfl ?_
        refine x_iload_n dR_back_100 rfl ?_
        refine x_aload_n dR_back_101 rfl ?_
        refine x_getR fl_R_83 rfl dR_back_102 rfl rfl rfl ?_
        refine x_iload_n dR_back_105 rfl ?_
        refine x_ialdJ (j := i) dR_back_106 rfl rfl (by first | rfl | (simp only [← nI_add, ← pk_mul]; rfl)) (by omega) ?_
        refine x_iastJ (j := i) dR_back_107 rfl rfl (by first | rfl | (simp only [← nI_add, ← pk_mul]; rfl)) (by omega) ?_
        -- at 108: .iinc 1 1
        refine x_iincp_1 dR_back_108 rfl rfl ?_
        refine x_goto (tgt := 88) dR_back_111 (by decide) ?_
        -- at 88: .iload_n 1
        rw [nI_1, cp1_o _ (show 83 ≠ 69 by decide), cp1_1]
        exact ih (i + 1) (by omega)
    have loop4 : ∀ (J : IM), (∀ a1 : Value, X mR_back G (2, 0, 0) S1 (cp4 J 74 84 11) L 176 [.ref 59, a1] [] Post) → ∀ (k i : Nat), i + k = 11 → X mR_back G (2, 0, 0) S1 (cp4 J 74 84 i) L 116 [.ref 59, .int (nI i)] [] Post := by
      intro J hc k
      induction k with
      | zero =>
        intro i hi
        obtain rfl : i = 11 := by omega
        refine x_iload_n dR_back_116 rfl ?_
        refine x_bipush (v := 11) dR_back_117 rfl ?_
        -- at 119: .if_icmp .ge 57
        refine x_icmp_ge (tgt := 176) dR_back_119 (by decide) (fun _ => ?_) (fun h => absurd (Int32.le_refl _) h)
        exact hc _
      | succ k ih =>
        intro i hi
        refine x_iload_n dR_back_116 rfl ?_
        refine x_bipush (v := 11) dR_back_117 rfl ?_
        -- at 119: .if_icmp .ge 57
        refine x_icmp_ge (tgt := 176) dR_back_119 (by decide) (fun h => absurd h (nI_ge (b := 11) (by omega) (by omega))) (fun _ => ?_)
        refine x_aload_n dR_back_122 rfl ?_
        refine x_getR fl_R_56 rfl dR_back_123 rfl rfl rfl ?_
        refine x_iload_n dR_back_126 rfl ?_
        refine x_aload_n dR_back_127 rfl ?_
        refine x_getR fl_R_86 rfl dR_back_128 rfl rfl rfl ?_
        refine x_iload_n dR_back_131 rfl ?_
        refine x_ialdJ (j := i) dR_back_132 rfl rfl (by first | rfl | (simp only [← nI_add, ← pk_mul]; rfl)) (by omega) ?_
        refine x_iastJ (j := i) dR_back_133 rfl rfl (by first | rfl | (simp only [← nI_add, ← pk_mul]; rfl)) (by omega) ?_
        refine x_aload_n dR_back_134 rfl ?_
        refine x_getR fl_R_59 rfl dR_back_135 rfl rfl rfl ?_
        refine x_iload_n dR_back_138 rfl ?_
        refine x_aload_n dR_back_139 rfl ?_
        refine x_getR fl_R_89 rfl dR_back_140 rfl rfl rfl ?_
        refine x_iload_n dR_back_143 rfl ?_
        refine x_ialdJ (j := i) dR_back_144 rfl rfl (by first | rfl | (simp only [← nI_add, ← pk_mul]; rfl)) (by omega) ?_
        refine x_iastJ (j := i) dR_back_145 rfl rfl (by first | rfl | (simp only [← nI_add, ← pk_mul]; rfl)) (by omega) ?_
        refine x_aload_n dR_back_146 rfl ?_
        refine x_getR fl_R_62 rfl dR_back_147 rfl rfl rfl ?_
        refine x_iload_n dR_back_150 rfl ?_
        refine x_aload_n dR_back_151 rfl ?_
        refine x_getR fl_R_92 rfl dR_back_152 rfl rfl rfl ?_
        refine x_iload_n dR_back_155 rfl ?_
        refine x_ialdJ (j := i) dR_back_156 rfl rfl (by first | rfl | (simp only [← nI_add, ← pk_mul]; rfl)) (by omega) ?_
        refine x_iastJ (j := i) dR_back_157 rfl rfl (by first | rfl | (simp only [← nI_add, ← pk_mul]; rfl)) (by omega) ?_
        refine x_aload_n dR_back_158 rfl ?_
        refine x_getR fl_R_65 rfl dR_back_159 rfl rfl rfl ?_
        refine x_iload_n dR_back_162 rfl ?_
        refine x_aload_n dR_back_163 rfl ?_
        refine x_getR fl_R_95 rfl dR_back_164 rfl rfl rfl ?_
        refine x_iload_n dR_back_167 rfl ?_
        refine x_ialdJ (j := i) dR_back_168 rfl rfl (by first | rfl | (simp only [← nI_add, ← pk_mul]; rfl)) (by omega) ?_
        refine x_iastJ (j := i) dR_back_169 rfl rfl (by first | rfl | (simp only [← nI_add, ← pk_mul]; rfl)) (by omega) ?_
        -- at 170: .iinc 1 1
        simp only [up2_n, up2_s, ne_eq, Nat.reduceEqDiff, not_false_eq_true]
        rw [cp4_o J (show 84 < 74 ∨ 74 + 3 < 84 by omega), cp4_o J (show 85 < 74 ∨ 74 + 3 < 85 by omega), cp4_o J (show 86 < 74 ∨ 74 + 3 < 86 by omega), cp4_o J (show 87 < 74 ∨ 74 + 3 < 87 by omega), cp4_1 J (d := 74) (s := 84) (n := i) (by omega)]
        refine x_iincp_1 dR_back_170 rfl rfl ?_
        refine x_goto (tgt := 116) dR_back_173 (by decide) ?_
        -- at 116: .iload_n 1
        rw [nI_1]
        exact ih (i + 1) (by omega)
    refine x_aload_n dR_back_10 rfl ?_
    refine x_aload_n dR_back_11 rfl ?_
    refine x_getI fl_R_364 rfl dR_back_12 rfl rfl ?_
    refine x_putI fl_R_16 rfl dR_back_15 (by decide) rfl rfl rfl rfl ?_
    refine x_aload_n dR_back_18 rfl ?_
    refine x_aload_n dR_back_19 rfl ?_
    refine x_getI fl_R_370 rfl dR_back_20 rfl rfl ?_
    refine x_putI fl_R_158 rfl dR_back_23 (by decide) rfl rfl rfl rfl ?_
    refine x_aload_n dR_back_26 rfl ?_
    refine x_aload_n dR_back_27 rfl ?_
    refine x_getI fl_R_373 rfl dR_back_28 rfl rfl ?_
    refine x_putI fl_R_164 rfl dR_back_31 (by decide) rfl rfl rfl rfl ?_
    refine x_iconst (v := 0) dR_back_34 rfl ?_
    refine x_istoren_1 dR_back_35 rfl rfl ?_
    -- at 36: .iload_n 1
    have e1 := loop1 (rbkS I) (fun a1 => by
      refine x_iconst (v := 0) dR_back_60 rfl ?_
      refine x_istoren_1 dR_back_61 rfl rfl ?_
      -- at 62: .iload_n 1
      have e2 := loop2 (cp1 (rbkS I) 60 81 36) (fun a1 => by
        refine x_iconst (v := 0) dR_back_86 rfl ?_
        refine x_istoren_1 dR_back_87 rfl rfl ?_
        -- at 88: .iload_n 1
        have e3 := loop3 (cp1 (cp1 (rbkS I) 60 81 36) 61 82 6) (by
          rw [cp1_o _ (by omega), cp1_o _ (by omega)]
          unfold rbkS
          rw [up2_s, up1_n _ _ (by omega), up2_s, up1_n _ _ (by omega), up2_s, up1_n _ _ (by omega)]
          exact hn) (fun a1 => by
          refine x_iconst (v := 0) dR_back_114 rfl ?_
          refine x_istoren_1 dR_back_115 rfl rfl ?_
          -- at 116: .iload_n 1
          have e4 := loop4 (cp1 (cp1 (cp1 (rbkS I) 60 81 36) 61 82 6) 69 83 n) (fun a1 => by
            refine x_aload_n dR_back_176 rfl ?_
            refine x_getI fl_R_158 rfl dR_back_177 rfl rfl ?_
            -- at 180: .ireturn
            have es : rbkU I n 59 17 = I 59 31 := by
              unfold rbkU
              rw [cp4_o _ (by omega), cp1_o _ (by omega), cp1_o _ (by omega), cp1_o _ (by omega)]
              unfold rbkS
              rw [up2_s, up1_n _ _ (by omega), up2_s, up1_s]
            refine x_eqi (y := I 59 31) es ?_
            refine x_ireturn dR_back_180 rfl rfl ?_
            exact h1 (rbkU I n) L (fun k hk => by
              unfold rbkU
              rw [cp4_o _ (by omega), cp1_o _ (by omega), cp1_o _ (by omega), cp1_o _ (by omega)]
              unfold rbkS
              rw [up2_n _ _ _ (by omega), up2_n _ _ _ (by omega), up2_n _ _ _ (by omega)]) (bk_own hok.2 n) (rbk_rE I hok c1 n hn hnp (by rw [show I 59 31 = nI m from em, cl_nI (by omega)]; exact hm))) 11 0 rfl
          rw [cp4_0] at e4
          exact e4) n 0 (by omega)
        rw [cp1_0] at e3
        exact e3) 6 0 rfl
      rw [cp1_0] at e2
      exact e2) 36 0 rfl
    rw [cp1_0] at e1
    simp only [up2_n, up2_s, ne_eq, Nat.reduceEqDiff, not_false_eq_true, up1, Nat.reduceEqDiff, if_true, if_false]
    exact e1
  · rw [backS, backU, if_neg (show ¬ ¬ rE I 29 7 = 0 from fun z => z c1), if_neg (show ¬ ¬ rE I 29 7 = 0 from fun z => z c1)] at h1
    refine x_bipush (v := -3) dR_back_7 rfl ?_
    -- at 9: .ireturn
    refine x_ireturn dR_back_9 rfl rfl ?_
    exact h1 I L (fun _ _ => rfl) hok.2 rfl
