/-! the reference: struck out, cut to ROOM, what is owed in all -/
theorem imin_alt (x y : Int32) : imin x y = if x < y then x else y := by
  unfold imin
  by_cases h : x < y
  · rw [if_pos h, if_neg (Int32.not_lt.mpr (Int32.le_of_lt h))]
  · rw [if_neg h]
    by_cases h2 : y < x
    · rw [if_pos h2]
    · rw [if_neg h2]
      exact Int32.le_antisymm (Int32.not_lt.mp h2) (Int32.not_lt.mp h)
def sp_R_strikes : SpT := fun as S I L Post => ∃ (q n : Nat) (O : Nat → Nat → Int32) (T : Nat → Int32), as = [.ref 59, .int (nI q)] ∧ S = S1 ∧ q < 8 ∧ I 59 3 = nI n ∧ n ≤ 8 ∧ rng1 (rV I 13 q) q ∧ RowR I n O ∧ (∀ p, p < n → I 97 p = T p) ∧
  ∀ I' : IM, Fr [96, 97] I I' → RowR I' n (fun p => (strS (rV I) q (O p, T p)).1) → (∀ p, p < n → I' 97 p = (strS (rV I) q (O p, T p)).2) → Post none S1 I' L
set_option maxHeartbeats 4000000 in
set_option maxRecDepth 100000 in
theorem c_R_strikes : Con mR_strikes 2 0 0 sp_R_strikes := by
  refine con_of_X rfl fun G as S I L Post hs => ?_
  obtain ⟨q, n, O, T, rfl, rfl, hq, hn, hn8, hc, hO, hT, h1⟩ := hs
  refine ⟨3, Nat.le_of_ble_eq_true rfl, ?_⟩
  show X mR_strikes G _ S1 I L 0 [.ref 59, .int (nI q), .null, .null, .null] [] Post
  refine x_aload_n dR_strikes_0 rfl ?_
  refine x_getR fl_R_53 rfl dR_strikes_1 rfl rfl rfl ?_
  refine x_iload_n dR_strikes_4 rfl ?_
  refine x_ialdJ (j := q) dR_strikes_5 rfl rfl (by first | rfl | (simp only [← nI_add, ← pk_mul]; rfl)) (by omega) ?_
  refine x_istoren_2 dR_strikes_6 rfl rfl ?_
  refine x_iconst (v := 0) dR_strikes_7 rfl ?_
  refine x_istoren_3 dR_strikes_8 rfl rfl ?_
  -- at 9: .iload_n 3
  have hc' : rng1 (I 73 q) q := hc
  rcases hc' with e | ⟨c, hc, e⟩
  · have es : ∀ p, strS (rV I) q (O p, T p) = (O p, T p) := fun p => by rw [strS, if_pos (show rV I 13 q = -1 from e)]
    have done : Post none S1 I L := by
      refine h1 I Fr.rfl (fun p hp k hk => ?_) (fun p hp => ?_)
      · dsimp only
        rw [es]
        exact hO p hp k hk
      · rw [es]
        exact hT p hp
    rw [e]
    refine x_iload_n dR_strikes_9 rfl ?_
    refine x_aload_n dR_strikes_10 rfl ?_
    refine x_getI fl_R_148 rfl dR_strikes_11 rfl rfl ?_
    -- at 14: .if_icmp .ge 109
    refine x_icmp_ge (tgt := 123) dR_strikes_14 (by decide) (fun c1 => ?_) (fun c1 => ?_)
    · refine x_return dR_strikes_123 rfl ?_
      exact done
    · refine x_iload_n dR_strikes_17 rfl ?_
      refine x_iconst (v := -1) dR_strikes_18 rfl ?_
      -- at 19: .if_icmp .eq 104
      refine x_icmp_eq (tgt := 123) dR_strikes_19 (by decide) (fun _ => ?_) (fun h => absurd rfl h)
      refine x_return dR_strikes_123 rfl ?_
      exact done
  · have hne : ¬ nI c = -1 := fun z => by
      have := nI_pos' (n := c) (by omega)
      rw [z] at this
      exact absurd this (by decide)
    have ec : cl (rV I 13 q) = c := by rw [show rV I 13 q = nI c from e]; exact cl_nI (by omega)
    have es : ∀ p, strS (rV I) q (O p, T p) = (up1 (up1 (O p) q (O p q - imin (O p q) (O p c))) c (O p c - imin (O p q) (O p c)), T p + imin (O p q) (O p c)) := fun p => by
      rw [strS, if_neg (by rw [show rV I 13 q = nI c from e]; exact hne), ec]
      dsimp only
      rw [up1_n (O p) (O p q - imin (O p q) (O p c)) (show c ≠ q by omega)]
    rw [e]
    have loop : ∀ (k i : Nat) (I' : IM) (a4 : Value), i + k = n → cat1at [a4] 1 = true → Fr [96, 97] I I' → RowR I' n (fun p => if p < i then (strS (rV I) q (O p, T p)).1 else O p) → (∀ p, p < n → I' 97 p = if p < i then (strS (rV I) q (O p, T p)).2 else T p) →
        X mR_strikes G (2, 0, 0) S1 I' L 9 [.ref 59, .int (nI q), .int (nI c), .int (nI i), a4] [] Post := by
      intro k
      induction k with
      | zero =>
        intro i I' a4 hi h4 hF hr ht
        obtain rfl : i = n := by omega
        refine x_iload_n dR_strikes_9 rfl ?_
        refine x_aload_n dR_strikes_10 rfl ?_
        refine x_getI fl_R_148 rfl dR_strikes_11 rfl rfl ?_
        -- at 14: .if_icmp .ge 109
        rw [hF 59 (by decide), hn]
        refine x_icmp_ge (tgt := 123) dR_strikes_14 (by decide) (fun _ => ?_) (fun h => absurd (Int32.le_refl _) h)
        refine x_return dR_strikes_123 rfl ?_
        refine h1 I' hF (fun p hp k hk => ?_) (fun p hp => ?_)
        · have := hr p hp k hk
          dsimp only at this
          rw [if_pos hp] at this
          exact this
        · have := ht p hp
          rw [if_pos hp] at this
          exact this
      | succ k ih =>
        intro i I' a4 hi h4 hF hr ht
        have hrow : ∀ q, q < 8 → I' 96 (i * 8 + q) = O i q := fun q hq => by
          have := hr i (by omega) q hq
          dsimp only at this
          rw [if_neg (Nat.lt_irrefl i)] at this
          exact this
        have htt : I' 97 i = T i := by
          have := ht i (by omega)
          rw [if_neg (Nat.lt_irrefl i)] at this
          exact this
        refine x_iload_n dR_strikes_9 rfl ?_
        refine x_aload_n dR_strikes_10 rfl ?_
        refine x_getI fl_R_148 rfl dR_strikes_11 rfl rfl ?_
        -- at 14: .if_icmp .ge 109
        rw [hF 59 (by decide), hn]
        refine x_icmp_ge (tgt := 123) dR_strikes_14 (by decide) (fun h => absurd h (nI_ge (by omega) (by omega))) (fun _ => ?_)
        refine x_iload_n dR_strikes_17 rfl ?_
        refine x_iconst (v := -1) dR_strikes_18 rfl ?_
        -- at 19: .if_icmp .eq 104
        refine x_icmp_eq (tgt := 123) dR_strikes_19 (by decide) (fun h => absurd h hne) (fun _ => ?_)
        have tail : ∀ l : Int32, l = imin (O i q) (O i c) → X mR_strikes G (2, 0, 0) S1 I' L 72 [.ref 59, .int (nI q), .int (nI c), .int (nI i), a4] [.int l] Post := by
          intro l hl
          refine x_istore_4 dR_strikes_72 rfl rfl ?_
          refine x_aload_n dR_strikes_74 rfl ?_
          refine x_getR fl_R_122 rfl dR_strikes_75 rfl rfl rfl ?_
          refine x_bipush (v := 8) dR_strikes_78 rfl ?_
          refine x_iload_n dR_strikes_80 rfl ?_
          refine x_imul dR_strikes_81 ?_
          refine x_iload_n dR_strikes_82 rfl ?_
          refine x_iadd dR_strikes_83 ?_
          refine x_dup2 dR_strikes_84 rfl rfl ?_
          refine x_ialdJ dR_strikes_85 rfl rfl (r8 i q) (by omega) ?_
          -- at 86: .iload 4
          rw [hrow q hq]
          refine x_iload dR_strikes_86 rfl ?_
          refine x_isub dR_strikes_88 ?_
          refine x_iastJ dR_strikes_89 rfl rfl (r8 i q) (by omega) ?_
          -- at 90: .aload_n 0
          refine x_aload_n dR_strikes_90 rfl ?_
          refine x_getR fl_R_122 rfl dR_strikes_91 rfl rfl rfl ?_
          refine x_bipush (v := 8) dR_strikes_94 rfl ?_
          refine x_iload_n dR_strikes_96 rfl ?_
          refine x_imul dR_strikes_97 ?_
          refine x_iload_n dR_strikes_98 rfl ?_
          refine x_iadd dR_strikes_99 ?_
          refine x_dup2 dR_strikes_100 rfl rfl ?_
          refine x_ialdJ dR_strikes_101 rfl rfl (r8 i c) (by omega) ?_
          -- at 102: .iload 4
          simp only [up2_n, up2_s, ne_eq, Nat.reduceEqDiff, not_false_eq_true]
          rw [up1_n _ _ (by omega), hrow c (by omega)]
          refine x_iload dR_strikes_102 rfl ?_
          refine x_isub dR_strikes_104 ?_
          refine x_iastJ dR_strikes_105 rfl rfl (r8 i c) (by omega) ?_
          -- at 106: .aload_n 0
          refine x_aload_n dR_strikes_106 rfl ?_
          refine x_getR fl_R_125 rfl dR_strikes_107 rfl rfl rfl ?_
          refine x_iload_n dR_strikes_110 rfl ?_
          refine x_dup2 dR_strikes_111 rfl rfl ?_
          refine x_ialdJ (j := i) dR_strikes_112 rfl rfl (by first | rfl | (simp only [← nI_add, ← pk_mul]; rfl)) (by omega) ?_
          -- at 113: .iload 4
          simp only [up2_n, up2_s, ne_eq, Nat.reduceEqDiff, not_false_eq_true]
          rw [htt]
          refine x_iload dR_strikes_113 rfl ?_
          refine x_iadd dR_strikes_115 ?_
          refine x_iastJ (j := i) dR_strikes_116 rfl rfl (by first | rfl | (simp only [← nI_add, ← pk_mul]; rfl)) (by omega) ?_
          -- at 117: .iinc 3 1
          refine x_iincp_3 dR_strikes_117 rfl rfl ?_
          refine x_goto (tgt := 9) dR_strikes_120 (by decide) ?_
          -- at 9: .iload_n 3
          rw [nI_1]
          have hes := es i
          rw [← hl] at hes
          refine ih (i + 1) _ _ (by omega) rfl (((hF.up (by decide) _ _).up (by decide) _ _).up (by decide) _ _) (fun p hp k hk => ?_) (fun p hp => ?_)
          · rw [up2_n _ _ _ (by decide), (hr.up (by omega) hq).up (by omega) (by omega) p hp k hk]
            dsimp only
            by_cases e2 : p = i
            · subst e2
              rw [if_pos rfl, if_pos rfl, if_neg (Nat.lt_irrefl p), if_pos (Nat.lt_succ_self p), hes]
            · rw [if_neg e2, if_neg e2]
              by_cases e3 : p < i
              · rw [if_pos e3, if_pos (by omega)]
              · rw [if_neg e3, if_neg (by omega)]
          · simp only [up2_n, up2_s, ne_eq, Nat.reduceEqDiff, not_false_eq_true]
            by_cases e2 : p = i
            · subst e2
              rw [up1_s, if_pos (Nat.lt_succ_self p), hes]
            · rw [up1_n _ _ e2, ht p hp]
              by_cases e3 : p < i
              · rw [if_pos e3, if_pos (by omega)]
              · rw [if_neg e3, if_neg (by omega)]
        refine x_aload_n dR_strikes_22 rfl ?_
        refine x_getR fl_R_122 rfl dR_strikes_23 rfl rfl rfl ?_
        refine x_bipush (v := 8) dR_strikes_26 rfl ?_
        refine x_iload_n dR_strikes_28 rfl ?_
        refine x_imul dR_strikes_29 ?_
        refine x_iload_n dR_strikes_30 rfl ?_
        refine x_iadd dR_strikes_31 ?_
        refine x_ialdJ dR_strikes_32 rfl rfl (r8 i q) (by omega) ?_
        refine x_aload_n dR_strikes_33 rfl ?_
        refine x_getR fl_R_122 rfl dR_strikes_34 rfl rfl rfl ?_
        refine x_bipush (v := 8) dR_strikes_37 rfl ?_
        refine x_iload_n dR_strikes_39 rfl ?_
        refine x_imul dR_strikes_40 ?_
        refine x_iload_n dR_strikes_41 rfl ?_
        refine x_iadd dR_strikes_42 ?_
        refine x_ialdJ dR_strikes_43 rfl rfl (r8 i c) (by omega) ?_
        -- at 44: .if_icmp .ge 17
        rw [hrow q hq, hrow c (by omega)]
        refine x_icmp_ge (tgt := 61) dR_strikes_44 (by decide) (fun c1 => ?_) (fun c1 => ?_)
        · refine x_aload_n dR_strikes_61 rfl ?_
          refine x_getR fl_R_122 rfl dR_strikes_62 rfl rfl rfl ?_
          refine x_bipush (v := 8) dR_strikes_65 rfl ?_
          refine x_iload_n dR_strikes_67 rfl ?_
          refine x_imul dR_strikes_68 ?_
          refine x_iload_n dR_strikes_69 rfl ?_
          refine x_iadd dR_strikes_70 ?_
          refine x_ialdJ dR_strikes_71 rfl rfl (r8 i c) (by omega) ?_
          -- at 72: .istore 4
          rw [hrow c (by omega)]
          exact tail _ (by rw [imin_alt, if_neg (Int32.not_lt.mpr c1)])
        · refine x_aload_n dR_strikes_47 rfl ?_
          refine x_getR fl_R_122 rfl dR_strikes_48 rfl rfl rfl ?_
          refine x_bipush (v := 8) dR_strikes_51 rfl ?_
          refine x_iload_n dR_strikes_53 rfl ?_
          refine x_imul dR_strikes_54 ?_
          refine x_iload_n dR_strikes_55 rfl ?_
          refine x_iadd dR_strikes_56 ?_
          refine x_ialdJ dR_strikes_57 rfl rfl (r8 i q) (by omega) ?_
          refine x_goto (tgt := 72) dR_strikes_58 (by decide) ?_
          -- at 72: .istore 4
          rw [hrow q hq]
          exact tail _ (by rw [imin_alt, if_pos (Int32.not_le.mp c1)])
    refine loop n 0 I .null (by omega) rfl Fr.rfl (fun p hp k hk => ?_) (fun p hp => ?_)
    · dsimp only
      rw [if_neg (Nat.not_lt_zero p)]
      exact hO p hp k hk
    · rw [if_neg (Nat.not_lt_zero p)]
      exact hT p hp
/-- numbers of 0 to 99 -/
def r99 (o : Nat → Int32) : Prop := ∀ q, rng (o q) 100
theorem fit99 : ∀ a, a < 100 → ∀ b, b < 100 → nI a - imax 0 (nI a - nI b) = (if nI a < nI b then nI a else nI b) ∧ (nI b - (if nI a < nI b then nI a else nI b)) = nI (b - a) ∧ (if nI a < nI b then nI a else nI b) = nI (min a b) := by
  decide +kernel
theorem min99 : ∀ a, a < 100 → ∀ b, b < 100 → imin (nI a) (nI b) = nI (min a b) ∧ nI a - nI (min a b) = nI (a - b) ∧ imax (nI a) (nI b) = nI (max a b) := by
  decide +kernel
theorem cut99 {o l : Int32} (ho : rng o 100) (hl : rng l 100) : o - imax 0 (o - l) = (if o < l then o else l) ∧ rng (if o < l then o else l) 100 ∧ rng (l - (if o < l then o else l)) 100 := by
  obtain ⟨a, ha, rfl⟩ := ho
  obtain ⟨b, hb, rfl⟩ := hl
  obtain ⟨h1, h2, h3⟩ := fit99 a ha b hb
  exact ⟨h1, ⟨min a b, by omega, h3⟩, ⟨b - a, by omega, h2⟩⟩
theorem sub_sub_me (x y : Int32) : x - (x - y) = y := by grind
theorem cut_keep {o : Nat → Int32} (h : r99 o) {r : Int32} (hr : rng r 100) : ∀ j, r99 (cutR r o j).1 ∧ rng (cutR r o j).2.1 100 := by
  intro j
  induction j with
  | zero => exact ⟨h, hr⟩
  | succ k ih =>
    obtain ⟨h1, h2⟩ := ih
    rw [cutR, cutS]
    dsimp only
    obtain ⟨e1, e2, e3⟩ := cut99 (h1 k) h2
    rw [e1]
    refine ⟨fun q => ?_, e3⟩
    unfold up1
    split
    · exact e2
    · exact h1 q
theorem str_keep {V : IM} {o : Nat → Int32} (h : r99 o) : ∀ j, (∀ i, i < j → rng1 (V 13 i) i) → j ≤ 8 → r99 (strR V o j).1 := by
  intro j
  induction j with
  | zero => intro _ _; exact h
  | succ k ih =>
    intro hv hj
    have h1 := ih (fun i hi => hv i (by omega)) (by omega)
    rw [strR, strS]
    split
    · exact h1
    · rename_i hne
      rcases hv k (by omega) with e | ⟨c, hc, e⟩
      · exact absurd e hne
      · rw [e, cl_nI (by omega)]
        dsimp only
        rw [up1_n _ _ (show c ≠ k by omega)]
        obtain ⟨a, ha, ea⟩ := h1 k
        obtain ⟨b, hb, eb⟩ := h1 c
        obtain ⟨m1, m2, -⟩ := min99 a ha b hb
        obtain ⟨-, m4, -⟩ := min99 b hb a ha
        rw [ea, eb, m1, m2, Nat.min_comm, m4]
        intro q
        unfold up1
        split
        · exact ⟨b - a, by omega, rfl⟩
        · split
          · exact ⟨a - b, by omega, rfl⟩
          · exact h1 q
theorem bnd_rng (x : Int32) : rng (bnd x 99) 100 := by
  have h0 := bnd_nn x 99
  refine rng_of (M := 100) rfl (by omega) h0 ?_
  unfold bnd
  have hm : imin x 99 ≤ 99 := by
    unfold imin
    split
    · exact Int32.le_refl _
    · rename_i h; exact Int32.not_lt.mp h
  unfold imax
  split
  · exact Int32.lt_of_le_of_lt hm (by decide)
  · decide
theorem share_rng (V : IM) (P : Nat → List Int32) (c : Int32) (s p : Nat) : rng (shareV V P c s p) 100 := by
  unfold shareV
  split
  · exact bnd_rng _
  · exact ⟨0, by omega, rfl⟩
theorem max_keep {V : IM} {D : Nat → Int32} {w : Int32} (h : ∀ s, rng (D s) 100) : ∀ m, r99 (maxR V D w m) := by
  intro m
  induction m with
  | zero => exact fun q => ⟨0, by omega, rfl⟩
  | succ k ih =>
    rw [maxR]
    split
    · exact ih
    · intro q
      unfold up1
      split
      · obtain ⟨a, ha, ea⟩ := ih (cl (V 14 k))
        obtain ⟨b, hb, eb⟩ := h k
        rw [ea, eb, (min99 a ha b hb).2.2]
        exact ⟨max a b, by omega, rfl⟩
      · exact ih q
theorem rng_nn {x : Int32} {n : Nat} (h : rng x n) (hn : n < 2 ^ 31) : 0 ≤ x := by
  obtain ⟨k, hk, rfl⟩ := h
  exact nI_pos' (by omega)
def sp_R_fits : SpT := fun as S I L Post => ∃ (p n nq : Nat) (O : Nat → Nat → Int32), as = [.ref 59, .int (nI p)] ∧ S = S1 ∧ p < n ∧ n ≤ 8 ∧ I 59 12 = nI nq ∧ nq ≤ 8 ∧ rng (rV I 8 p) 100 ∧ RowR I n O ∧ r99 (O p) ∧ I 98 p = 0 ∧
  ∀ I' : IM, Fr [96, 98] I I' → RowR I' n (fun i => if i = p then (cutR (rV I 8 p) (O p) nq).1 else O i) → (∀ i, i ≠ p → I' 98 i = I 98 i) → I' 98 p = (cutR (rV I 8 p) (O p) nq).2.2 → Post none S1 I' L
set_option maxHeartbeats 4000000 in
set_option maxRecDepth 100000 in
theorem c_R_fits : Con mR_fits 2 0 0 sp_R_fits := by
  refine con_of_X rfl fun G as S I L Post hs => ?_
  obtain ⟨p, n, nq, O, rfl, rfl, hp, hn8, hnq, hq8, hroom, hO, h99, hb0, h1⟩ := hs
  have hroom' : rng (I 68 p) 100 := hroom
  have h1 : ∀ I' : IM, Fr [96, 98] I I' → RowR I' n (fun i => if i = p then (cutR (I 68 p) (O p) nq).1 else O i) → (∀ i, i ≠ p → I' 98 i = I 98 i) → I' 98 p = (cutR (I 68 p) (O p) nq).2.2 → Post none S1 I' L := h1
  refine ⟨3, Nat.le_of_ble_eq_true rfl, ?_⟩
  show X mR_fits G _ S1 I L 0 [.ref 59, .int (nI p), .null, .null, .null] [] Post
  refine x_aload_n dR_fits_0 rfl ?_
  refine x_getR fl_R_38 rfl dR_fits_1 rfl rfl rfl ?_
  refine x_iload_n dR_fits_4 rfl ?_
  refine x_ialdJ (j := p) dR_fits_5 rfl rfl (by first | rfl | (simp only [← nI_add, ← pk_mul]; rfl)) (by omega) ?_
  refine x_istoren_2 dR_fits_6 rfl rfl ?_
  refine x_iconst (v := 0) dR_fits_7 rfl ?_
  refine x_istoren_3 dR_fits_8 rfl rfl ?_
  -- at 9: .iload_n 3
  have loop : ∀ (k i : Nat) (I' : IM) (lf : Int32) (a4 : Value), i + k = nq → cat1at [a4] 1 = true → Fr [96, 98] I I' → lf = (cutR (I 68 p) (O p) i).2.1 → RowR I' n (fun j => if j = p then (cutR (I 68 p) (O p) i).1 else O j) → (∀ i, i ≠ p → I' 98 i = I 98 i) → I' 98 p = (cutR (I 68 p) (O p) i).2.2 →
      X mR_fits G (2, 0, 0) S1 I' L 9 [.ref 59, .int (nI p), .int lf, .int (nI i), a4] [] Post := by
    intro k
    induction k with
    | zero =>
      intro i I' lf a4 hi h4 hF hl hr hb hbp
      obtain rfl : i = nq := by omega
      refine x_iload_n dR_fits_9 rfl ?_
      refine x_aload_n dR_fits_10 rfl ?_
      refine x_getI fl_R_155 rfl dR_fits_11 rfl rfl ?_
      -- at 14: .if_icmp .ge 82
      rw [hF 59 (by decide), hnq]
      refine x_icmp_ge (tgt := 96) dR_fits_14 (by decide) (fun _ => ?_) (fun h => absurd (Int32.le_refl _) h)
      refine x_return dR_fits_96 rfl ?_
      exact h1 I' hF hr hb hbp
    | succ k ih =>
      intro i I' lf a4 hi h4 hF hl hr hb hbp
      obtain ⟨k1, k2⟩ := cut_keep h99 hroom' i
      obtain ⟨e1, e2, e3⟩ := cut99 (k1 i) k2
      have hs : cutR (I 68 p) (O p) (i + 1) = cutS i (cutR (I 68 p) (O p) i) := rfl
      have hrow : I' 96 (p * 8 + i) = (cutR (I 68 p) (O p) i).1 i := by
        have := hr p hp i (by omega)
        dsimp only at this
        rw [if_pos rfl] at this
        exact this
      rw [cutS] at hs
      rw [e1] at hs
      have e4 : imax 0 ((cutR (I 68 p) (O p) i).1 i - (cutR (I 68 p) (O p) i).2.1) = (cutR (I 68 p) (O p) i).1 i - (if (cutR (I 68 p) (O p) i).1 i < (cutR (I 68 p) (O p) i).2.1 then (cutR (I 68 p) (O p) i).1 i else (cutR (I 68 p) (O p) i).2.1) := by
        rw [← e1, sub_sub_me]
      rw [e4] at hs
      rw [← hl] at hs
      generalize cutR (I 68 p) (O p) i = st at hr hl hbp hs hrow
      have tail : ∀ l : Int32, l = (if st.1 i < lf then st.1 i else lf) → X mR_fits G (2, 0, 0) S1 I' L 47 [.ref 59, .int (nI p), .int lf, .int (nI i), a4] [.int l] Post := by
        intro l he
        rw [← he] at hs
        refine x_istore_4 dR_fits_47 rfl rfl ?_
        refine x_aload_n dR_fits_49 rfl ?_
        refine x_getR fl_R_128 rfl dR_fits_50 rfl rfl rfl ?_
        refine x_iload_n dR_fits_53 rfl ?_
        refine x_dup2 dR_fits_54 rfl rfl ?_
        refine x_ialdJ (j := p) dR_fits_55 rfl rfl (by first | rfl | (simp only [← nI_add, ← pk_mul]; rfl)) (by omega) ?_
        refine x_aload_n dR_fits_56 rfl ?_
        refine x_getR fl_R_122 rfl dR_fits_57 rfl rfl rfl ?_
        refine x_bipush (v := 8) dR_fits_60 rfl ?_
        refine x_iload_n dR_fits_62 rfl ?_
        refine x_imul dR_fits_63 ?_
        refine x_iload_n dR_fits_64 rfl ?_
        refine x_iadd dR_fits_65 ?_
        refine x_ialdJ dR_fits_66 rfl rfl (r8 p i) (by omega) ?_
        -- at 67: .iload 4
        rw [hbp, hrow]
        refine x_iload dR_fits_67 rfl ?_
        refine x_isub dR_fits_69 ?_
        refine x_iadd dR_fits_70 ?_
        refine x_iastJ (j := p) dR_fits_71 rfl rfl (by first | rfl | (simp only [← nI_add, ← pk_mul]; rfl)) (by omega) ?_
        -- at 72: .aload_n 0
        refine x_aload_n dR_fits_72 rfl ?_
        refine x_getR fl_R_122 rfl dR_fits_73 rfl rfl rfl ?_
        refine x_bipush (v := 8) dR_fits_76 rfl ?_
        refine x_iload_n dR_fits_78 rfl ?_
        refine x_imul dR_fits_79 ?_
        refine x_iload_n dR_fits_80 rfl ?_
        refine x_iadd dR_fits_81 ?_
        refine x_iload dR_fits_82 rfl ?_
        refine x_iastJ dR_fits_84 rfl rfl (r8 p i) (by omega) ?_
        refine x_iload_n dR_fits_85 rfl ?_
        refine x_iload dR_fits_86 rfl ?_
        refine x_isub dR_fits_88 ?_
        refine x_istoren_2 dR_fits_89 rfl rfl ?_
        refine x_iincp_3 dR_fits_90 rfl rfl ?_
        refine x_goto (tgt := 9) dR_fits_93 (by decide) ?_
        -- at 9: .iload_n 3
        rw [nI_1]
        refine ih (i + 1) _ _ _ (by omega) rfl ((hF.up (by decide) _ _).up (by decide) _ _) ?_ (fun j hj k hk => ?_) (fun j hj => ?_) ?_
        · rw [hs]
        · rw [RowR.up (O := fun j => if j = p then st.1 else O j) (fun j hj k hk => by rw [up2_n _ _ _ (by decide)]; exact hr j hj k hk) hp (by omega) j hj k hk]
          dsimp only
          by_cases e5 : j = p
          · subst e5
            rw [if_pos rfl, if_pos rfl, if_pos rfl, hs]
          · rw [if_neg e5, if_neg e5, if_neg e5]
        · simp only [up2_n, up2_s, ne_eq, Nat.reduceEqDiff, not_false_eq_true]
          rw [up1_n _ _ hj]
          exact hb j hj
        · simp only [up2_n, up2_s, ne_eq, Nat.reduceEqDiff, not_false_eq_true]
          rw [up1_s, hs]
      refine x_iload_n dR_fits_9 rfl ?_
      refine x_aload_n dR_fits_10 rfl ?_
      refine x_getI fl_R_155 rfl dR_fits_11 rfl rfl ?_
      -- at 14: .if_icmp .ge 82
      rw [hF 59 (by decide), hnq]
      refine x_icmp_ge (tgt := 96) dR_fits_14 (by decide) (fun h => absurd h (nI_ge (by omega) (by omega))) (fun _ => ?_)
      refine x_aload_n dR_fits_17 rfl ?_
      refine x_getR fl_R_122 rfl dR_fits_18 rfl rfl rfl ?_
      refine x_bipush (v := 8) dR_fits_21 rfl ?_
      refine x_iload_n dR_fits_23 rfl ?_
      refine x_imul dR_fits_24 ?_
      refine x_iload_n dR_fits_25 rfl ?_
      refine x_iadd dR_fits_26 ?_
      refine x_ialdJ dR_fits_27 rfl rfl (r8 p i) (by omega) ?_
      refine x_iload_n dR_fits_28 rfl ?_
      -- at 29: .if_icmp .ge 17
      rw [hrow]
      refine x_icmp_ge (tgt := 46) dR_fits_29 (by decide) (fun c1 => ?_) (fun c1 => ?_)
      · refine x_iload_n dR_fits_46 rfl ?_
        -- at 47: .istore 4
        exact tail _ (by rw [if_neg (Int32.not_lt.mpr c1)])
      · refine x_aload_n dR_fits_32 rfl ?_
        refine x_getR fl_R_122 rfl dR_fits_33 rfl rfl rfl ?_
        refine x_bipush (v := 8) dR_fits_36 rfl ?_
        refine x_iload_n dR_fits_38 rfl ?_
        refine x_imul dR_fits_39 ?_
        refine x_iload_n dR_fits_40 rfl ?_
        refine x_iadd dR_fits_41 ?_
        refine x_ialdJ dR_fits_42 rfl rfl (r8 p i) (by omega) ?_
        refine x_goto (tgt := 47) dR_fits_43 (by decide) ?_
        -- at 47: .istore 4
        rw [hrow]
        exact tail _ (by rw [if_pos (Int32.not_le.mp c1)])
  refine loop nq 0 I _ .null (by omega) rfl Fr.rfl rfl (fun j hj k hk => ?_) (fun _ _ => rfl) hb0
  dsimp only
  by_cases e : j = p
  · subst e
    rw [if_pos rfl]
    exact hO j hj k hk
  · rw [if_neg e]
    exact hO j hj k hk

theorem owes_maxR_nn {V : IM} {P : Nat → List Int32} {C : Nat → Int32} {w : Int32} (p m q : Nat) : 0 ≤ maxR V (DD V P C p) w m q :=
  rng_nn (max_keep (fun s => share_rng V P (C s) s p) m q) (by omega)
/-- what is owed, struck, BEYOND, of each of PEOPLE -/
def OwesR (V : IM) (D : Nat → Nat → Int32) (n nq : Nat) (w : Int32) (m : Nat) (I' : IM) : Prop :=
  RowR I' n (fun p => (fin1 V (D p) nq w m p).1) ∧ ∀ p, p < n → I' 97 p = str1 V (D p) nq w m ∧ I' 98 p = (fin1 V (D p) nq w m p).2.2
theorem OwesR.fr {V : IM} {D : Nat → Nat → Int32} {n nq : Nat} {w : Int32} {m : Nat} {I I' : IM} (h : OwesR V D n nq w m I) (h1 : I' 96 = I 96) (h2 : I' 97 = I 97) (h3 : I' 98 = I 98) : OwesR V D n nq w m I' := by
  unfold OwesR RowR at h ⊢
  rw [h1, h2, h3]
  exact h
/-- the rest that what is owed rests on -/
def OwOk (I : IM) (n m nq : Nat) : Prop := I 59 12 = nI nq ∧ nq ≤ 8 ∧ (∀ j, j < nq → rng1 (rV I 13 j) j) ∧ ∀ p, p < n → rng (rV I 8 p) 100
def sp_R_owes : SpT := fun as S I L Post => ∃ (m n nq : Nat) (w : Int32) (P : Nat → List Int32) (C : Nat → Int32), as = [.ref 59, .int (nI m)] ∧ S = S1 ∧ RkOk I P n m ∧ OwOk I n m nq ∧ I 59 60 = w ∧ (w = -1 ∨ I 59 55 = 0) ∧ Md I L (rV I) P n C 0 ∧
  ∀ (I' : IM) (L' : LM), Fr [94, 95, 96, 97, 98] I I' → OwesR (rV I) (DD (rV I) P C) n nq w m I' → Post none S1 I' L'
set_option maxHeartbeats 4000000 in
set_option maxRecDepth 100000 in
theorem c_R_owes : Con mR_owes 8 0 0 sp_R_owes := by
  refine con_of_X rfl fun G as S I L Post hs => ?_
  obtain ⟨m, n, nq, w, P, C, rfl, rfl, hR, hW, hw, hwd, hM, h1⟩ := hs
  obtain ⟨hn, hn8, hm11, hper, hsay, hT⟩ := hR
  obtain ⟨hnq, hq8, hag, hroom⟩ := hW
  refine ⟨1, Nat.le_of_ble_eq_true rfl, ?_⟩
  show X mR_owes G _ S1 I L 0 [.ref 59, .int (nI m), .null] [] Post
  -- each is cut to ROOM
  have loop5 : ∀ (k i : Nat) (I' : IM) (L' : LM), i + k = n → Fr [94, 95, 96, 97, 98] I I' → RowR I' n (fun p => if p < i then (fin1 (rV I) (DD (rV I) P C p) nq w m p).1 else (strR (rV I) (maxR (rV I) (DD (rV I) P C p) w m) nq).1) → (∀ p, p < n → I' 97 p = str1 (rV I) (DD (rV I) P C p) nq w m) → (∀ p, p < n → I' 98 p = if p < i then (fin1 (rV I) (DD (rV I) P C p) nq w m p).2.2 else 0) →
      X mR_owes G (8, 0, 0) S1 I' L' 98 [.ref 59, .int (nI m), .int (nI i)] [] Post := by
    intro k
    induction k with
    | zero =>
      intro i I' L' hi hF hr hs hb
      obtain rfl : i = n := by omega
      refine x_iload_n dR_owes_98 rfl ?_
      refine x_aload_n dR_owes_99 rfl ?_
      refine x_getI fl_R_148 rfl dR_owes_100 rfl rfl ?_
      -- at 103: .if_icmp .ge 14
      rw [hF 59 (by decide), hn]
      refine x_icmp_ge (tgt := 117) dR_owes_103 (by decide) (fun _ => ?_) (fun h => absurd (Int32.le_refl _) h)
      refine x_return dR_owes_117 rfl ?_
      refine h1 I' L' hF ⟨fun p hp q hq => ?_, fun p hp => ⟨hs p hp, ?_⟩⟩
      · have := hr p hp q hq
        dsimp only at this
        rw [if_pos hp] at this
        exact this
      · have := hb p hp
        rw [if_pos hp] at this
        exact this
    | succ k ih =>
      intro i I' L' hi hF hr hs hb
      have hV : rV I' = rV I := rV_fr (hF.wk (by decide))
      refine x_iload_n dR_owes_98 rfl ?_
      refine x_aload_n dR_owes_99 rfl ?_
      refine x_getI fl_R_148 rfl dR_owes_100 rfl rfl ?_
      -- at 103: .if_icmp .ge 14
      rw [hF 59 (by decide), hn]
      refine x_icmp_ge (tgt := 117) dR_owes_103 (by decide) (fun h => absurd h (nI_ge (by omega) (by omega))) (fun _ => ?_)
      refine x_aload_n dR_owes_106 rfl ?_
      refine x_iload_n dR_owes_107 rfl ?_
      -- at 108: .invokevirtual 292
      refine x_callV_1 c_R_fits ok_R_fits ml_R_292 dR_owes_108 rfl rfl rfl rfl rfl ?_
      refine ⟨i, n, nq, _, rfl, rfl, by omega, hn8, by rw [hF 59 (by decide)]; exact hnq, hq8, by rw [hV]; exact hroom i (by omega), hr, ?_, by rw [hb i (by omega), if_neg (Nat.lt_irrefl i)], fun I2 hF2 hr2 ho2 hb2 => ?_⟩
      · rw [if_neg (Nat.lt_irrefl i)]
        exact str_keep (max_keep (fun s => share_rng _ _ _ _ _) m) nq hag hq8
      · rw [hV] at hr2 hb2
        rw [if_neg (Nat.lt_irrefl i)] at hr2 hb2
        refine x_iincp_2 dR_owes_111 rfl rfl ?_
        refine x_goto (tgt := 98) dR_owes_114 (by decide) ?_
        -- at 98: .iload_n 2
        rw [nI_1]
        refine ih (i + 1) I2 L' (by omega) (hF.tr (hF2.wk (by decide))) (fun p hp q hq => ?_) (fun p hp => ?_) (fun p hp => ?_)
        · rw [hr2 p hp q hq]
          dsimp only
          by_cases e : p = i
          · subst e
            rw [if_pos rfl, if_pos (Nat.lt_succ_self p)]
            rfl
          · rw [if_neg e]
            by_cases e2 : p < i
            · rw [if_pos e2, if_pos (by omega)]
            · rw [if_neg e2, if_neg (by omega)]
        · rw [hF2 97 (by decide)]
          exact hs p hp
        · by_cases e : p = i
          · subst e
            rw [hb2, if_pos (Nat.lt_succ_self p)]
            rfl
          · rw [ho2 p e, hb p hp]
            by_cases e2 : p < i
            · rw [if_pos e2, if_pos (by omega)]
            · rw [if_neg e2, if_neg (by omega)]
  -- what is against is struck out
  have loop4 : ∀ (k i : Nat) (I' : IM) (L' : LM), i + k = nq → Fr [94, 95, 96, 97, 98] I I' → RowR I' n (fun p => (strR (rV I) (maxR (rV I) (DD (rV I) P C p) w m) i).1) → (∀ p, p < n → I' 97 p = (strR (rV I) (maxR (rV I) (DD (rV I) P C p) w m) i).2) → (∀ p, p < n → I' 98 p = 0) →
      X mR_owes G (8, 0, 0) S1 I' L' 77 [.ref 59, .int (nI m), .int (nI i)] [] Post := by
    intro k
    induction k with
    | zero =>
      intro i I' L' hi hF hr hs hb
      obtain rfl : i = nq := by omega
      refine x_iload_n dR_owes_77 rfl ?_
      refine x_aload_n dR_owes_78 rfl ?_
      refine x_getI fl_R_155 rfl dR_owes_79 rfl rfl ?_
      -- at 82: .if_icmp .ge 14
      rw [hF 59 (by decide), hnq]
      refine x_icmp_ge (tgt := 96) dR_owes_82 (by decide) (fun _ => ?_) (fun h => absurd (Int32.le_refl _) h)
      refine x_iconst (v := 0) dR_owes_96 rfl ?_
      refine x_istoren_2 dR_owes_97 rfl rfl ?_
      -- at 98: .iload_n 2
      refine loop5 n 0 I' L' (by omega) hF (fun p hp q hq => ?_) hs (fun p hp => ?_)
      · dsimp only
        rw [if_neg (Nat.not_lt_zero p)]
        exact hr p hp q hq
      · rw [if_neg (Nat.not_lt_zero p)]
        exact hb p hp
    | succ k ih =>
      intro i I' L' hi hF hr hs hb
      have hV : rV I' = rV I := rV_fr (hF.wk (by decide))
      refine x_iload_n dR_owes_77 rfl ?_
      refine x_aload_n dR_owes_78 rfl ?_
      refine x_getI fl_R_155 rfl dR_owes_79 rfl rfl ?_
      -- at 82: .if_icmp .ge 14
      rw [hF 59 (by decide), hnq]
      refine x_icmp_ge (tgt := 96) dR_owes_82 (by decide) (fun h => absurd h (nI_ge (by omega) (by omega))) (fun _ => ?_)
      refine x_aload_n dR_owes_85 rfl ?_
      refine x_iload_n dR_owes_86 rfl ?_
      -- at 87: .invokevirtual 289
      refine x_callV_1 c_R_strikes ok_R_strikes ml_R_289 dR_owes_87 rfl rfl rfl rfl rfl ?_
      refine ⟨i, n, _, _, rfl, rfl, by omega, by rw [hF 59 (by decide)]; exact hn, hn8, by rw [hV]; exact hag i (by omega), hr, hs, fun I2 hF2 hr2 hs2 => ?_⟩
      rw [hV] at hr2 hs2
      refine x_iincp_2 dR_owes_90 rfl rfl ?_
      refine x_goto (tgt := 77) dR_owes_93 (by decide) ?_
      -- at 77: .iload_n 2
      rw [nI_1]
      refine ih (i + 1) I2 L' (by omega) (hF.tr (hF2.wk (by decide))) hr2 hs2 (fun p hp => ?_)
      rw [hF2 98 (by decide)]
      exact hb p hp
  -- each SAYING but one
  have loop3 : ∀ (k i : Nat) (I' : IM) (L' : LM), i + k = m → Fr [94, 95, 96, 97, 98] I I' → Md I' L' (rV I) P n C i → RowR I' n (fun p => maxR (rV I) (DD (rV I) P C p) w i) → (∀ p, p < n → I' 97 p = 0) → (∀ p, p < n → I' 98 p = 0) →
      X mR_owes G (8, 0, 0) S1 I' L' 51 [.ref 59, .int (nI m), .int (nI i)] [] Post := by
    intro k
    induction k with
    | zero =>
      intro i I' L' hi hF hm hr hs hb
      obtain rfl : i = m := by omega
      refine x_iload_n dR_owes_51 rfl ?_
      refine x_iload_n dR_owes_52 rfl ?_
      -- at 53: .if_icmp .ge 22
      refine x_icmp_ge (tgt := 75) dR_owes_53 (by decide) (fun _ => ?_) (fun h => absurd (Int32.le_refl _) h)
      refine x_iconst (v := 0) dR_owes_75 rfl ?_
      refine x_istoren_2 dR_owes_76 rfl rfl ?_
      -- at 77: .iload_n 2
      exact loop4 nq 0 I' L' (by omega) hF hr hs hb
    | succ k ih =>
      intro i I' L' hi hF hm hr hs hb
      have hV : rV I' = rV I := rV_fr (hF.wk (by decide))
      refine x_iload_n dR_owes_51 rfl ?_
      refine x_iload_n dR_owes_52 rfl ?_
      -- at 53: .if_icmp .ge 22
      refine x_icmp_ge (tgt := 75) dR_owes_53 (by decide) (fun h => absurd h (nI_ge (by omega) (by omega))) (fun _ => ?_)
      refine x_iload_n dR_owes_56 rfl ?_
      refine x_aload_n dR_owes_57 rfl ?_
      refine x_getI fl_R_131 rfl dR_owes_58 rfl rfl ?_
      -- at 61: .if_icmp .eq 8
      rw [hF 59 (by decide), hw]
      refine x_icmp_eq (tgt := 69) dR_owes_61 (by decide) (fun c1 => ?_) (fun c1 => ?_)
      · refine x_iincp_2 dR_owes_69 rfl rfl ?_
        refine x_goto (tgt := 51) dR_owes_72 (by decide) ?_
        -- at 51: .iload_n 2
        rw [nI_1]
        have hz : I' 59 55 = 0 := by
          rcases hwd with e | e
          · rw [e] at c1
            have := nI_pos' (n := i) (by omega)
            rw [c1] at this
            exact absurd this (by decide)
          · rw [hF 59 (by decide)]; exact e
        refine ih (i + 1) I' L' (by omega) hF (hm.any hz) (fun p hp q hq => ?_) hs hb
        rw [hr p hp q hq]
        dsimp only
        rw [maxR, if_pos c1]
      · obtain ⟨⟨q, hq, eq⟩, -, -⟩ := hsay i (by omega)
        refine x_aload_n dR_owes_64 rfl ?_
        refine x_iload_n dR_owes_65 rfl ?_
        -- at 66: .invokevirtual 286
        refine x_callV_1 c_R_owesBy ok_R_owesBy ml_R_286 dR_owes_66 rfl rfl rfl rfl rfl ?_
        refine ⟨i, n, q, P, C, _, rfl, rfl, by omega, ⟨by rw [hF 59 (by decide)]; exact hn, hn8, by omega, by rw [hV]; exact hper, fun s hs => absurd hs (Nat.not_lt_zero s), hT.fr (hF 59 (by decide)) (hF 79 (by decide)) (hF 80 (by decide))⟩, by rw [hV]; exact hsay i (by omega), by rw [hV]; exact hm, by rw [hV]; exact eq, hq, hr, fun p hp => owes_maxR_nn p i q, fun I2 L2 hF2 hm2 hr2 => ?_⟩
        rw [hV] at hm2 hr2
        refine x_iincp_2 dR_owes_69 rfl rfl ?_
        refine x_goto (tgt := 51) dR_owes_72 (by decide) ?_
        -- at 51: .iload_n 2
        rw [nI_1]
        refine ih (i + 1) I2 L2 (by omega) (hF.tr (hF2.wk (by decide))) hm2 (fun p hp k hk => ?_) (fun p hp => by rw [hF2 97 (by decide)]; exact hs p hp) (fun p hp => by rw [hF2 98 (by decide)]; exact hb p hp)
        rw [hr2 p hp k hk]
        dsimp only
        rw [maxR, if_neg c1, eq, cl_nI (by omega)]
        rfl
  have loop2 : ∀ (k i : Nat) (I' : IM) (L' : LM), i + k = 8 → Fr [94, 95, 96, 97, 98] I I' → Md I' L' (rV I) P n C 0 → RowR I' n (fun p => maxR (rV I) (DD (rV I) P C p) w 0) → (∀ p, p < i → I' 97 p = 0) → (∀ p, p < i → I' 98 p = 0) →
      X mR_owes G (8, 0, 0) S1 I' L' 23 [.ref 59, .int (nI m), .int (nI i)] [] Post := by
    intro k
    induction k with
    | zero =>
      intro i I' L' hi hF hm hr hs hb
      obtain rfl : i = 8 := by omega
      refine x_iload_n dR_owes_23 rfl ?_
      refine x_bipush (v := 8) dR_owes_24 rfl ?_
      -- at 26: .if_icmp .ge 23
      refine x_icmp_ge (tgt := 49) dR_owes_26 (by decide) (fun _ => ?_) (fun h => absurd (by decide) h)
      refine x_iconst (v := 0) dR_owes_49 rfl ?_
      refine x_istoren_2 dR_owes_50 rfl rfl ?_
      -- at 51: .iload_n 2
      exact loop3 m 0 I' L' (by omega) hF hm hr (fun p hp => hs p (by omega)) (fun p hp => hb p (by omega))
    | succ k ih =>
      intro i I' L' hi hF hm hr hs hb
      refine x_iload_n dR_owes_23 rfl ?_
      refine x_bipush (v := 8) dR_owes_24 rfl ?_
      -- at 26: .if_icmp .ge 23
      refine x_icmp_ge (tgt := 49) dR_owes_26 (by decide) (fun h => absurd h (nI_ge (b := 8) (by omega) (by omega))) (fun _ => ?_)
      refine x_aload_n dR_owes_29 rfl ?_
      refine x_getR fl_R_125 rfl dR_owes_30 rfl rfl rfl ?_
      refine x_iload_n dR_owes_33 rfl ?_
      refine x_iconst (v := 0) dR_owes_34 rfl ?_
      refine x_iastJ (j := i) dR_owes_35 rfl rfl (by first | rfl | (simp only [← nI_add, ← pk_mul]; rfl)) (by omega) ?_
      -- at 36: .aload_n 0
      refine x_aload_n dR_owes_36 rfl ?_
      refine x_getR fl_R_128 rfl dR_owes_37 rfl rfl rfl ?_
      refine x_iload_n dR_owes_40 rfl ?_
      refine x_iconst (v := 0) dR_owes_41 rfl ?_
      refine x_iastJ (j := i) dR_owes_42 rfl rfl (by first | rfl | (simp only [← nI_add, ← pk_mul]; rfl)) (by omega) ?_
      -- at 43: .iinc 2 1
      refine x_iincp_2 dR_owes_43 rfl rfl ?_
      refine x_goto (tgt := 23) dR_owes_46 (by decide) ?_
      -- at 23: .iload_n 2
      rw [nI_1]
      refine ih (i + 1) _ L' (by omega) ((hF.up (by decide) _ _).up (by decide) _ _) (hm.fr (by simp only [up2_n, up2_s, ne_eq, Nat.reduceEqDiff, not_false_eq_true])) (fun p hp k hk => by rw [up2_n _ _ _ (by decide), up2_n _ _ _ (by decide)]; exact hr p hp k hk) (fun p hp => ?_) (fun p hp => ?_)
      · simp only [up2_n, up2_s, ne_eq, Nat.reduceEqDiff, not_false_eq_true]
        by_cases e : p = i
        · subst e; rw [up1_s]
        · rw [up1_n _ _ e]; exact hs p (by omega)
      · simp only [up2_n, up2_s, ne_eq, Nat.reduceEqDiff, not_false_eq_true]
        by_cases e : p = i
        · subst e; rw [up1_s]
        · rw [up1_n _ _ e]; exact hb p (by omega)
  have loop1 : ∀ (k i : Nat) (I' : IM) (L' : LM), i + k = 64 → Fr [94, 95, 96, 97, 98] I I' → Md I' L' (rV I) P n C 0 → (∀ p, p < i → I' 96 p = 0) →
      X mR_owes G (8, 0, 0) S1 I' L' 2 [.ref 59, .int (nI m), .int (nI i)] [] Post := by
    intro k
    induction k with
    | zero =>
      intro i I' L' hi hF hm hr
      obtain rfl : i = 64 := by omega
      refine x_iload_n dR_owes_2 rfl ?_
      refine x_bipush (v := 64) dR_owes_3 rfl ?_
      -- at 5: .if_icmp .ge 16
      refine x_icmp_ge (tgt := 21) dR_owes_5 (by decide) (fun _ => ?_) (fun h => absurd (by decide) h)
      refine x_iconst (v := 0) dR_owes_21 rfl ?_
      refine x_istoren_2 dR_owes_22 rfl rfl ?_
      -- at 23: .iload_n 2
      exact loop2 8 0 I' L' (by omega) hF hm (fun p hp q hq => hr _ (by omega)) (fun p hp => absurd hp (Nat.not_lt_zero p)) (fun p hp => absurd hp (Nat.not_lt_zero p))
    | succ k ih =>
      intro i I' L' hi hF hm hr
      refine x_iload_n dR_owes_2 rfl ?_
      refine x_bipush (v := 64) dR_owes_3 rfl ?_
      -- at 5: .if_icmp .ge 16
      refine x_icmp_ge (tgt := 21) dR_owes_5 (by decide) (fun h => absurd h (nI_ge (b := 64) (by omega) (by omega))) (fun _ => ?_)
      refine x_aload_n dR_owes_8 rfl ?_
      refine x_getR fl_R_122 rfl dR_owes_9 rfl rfl rfl ?_
      refine x_iload_n dR_owes_12 rfl ?_
      refine x_iconst (v := 0) dR_owes_13 rfl ?_
      refine x_iastJ (j := i) dR_owes_14 rfl rfl (by first | rfl | (simp only [← nI_add, ← pk_mul]; rfl)) (by omega) ?_
      refine x_iincp_2 dR_owes_15 rfl rfl ?_
      refine x_goto (tgt := 2) dR_owes_18 (by decide) ?_
      -- at 2: .iload_n 2
      rw [nI_1]
      refine ih (i + 1) _ L' (by omega) (hF.up (by decide) _ _) (hm.fr (by simp only [up2_n, up2_s, ne_eq, Nat.reduceEqDiff, not_false_eq_true])) (fun p hp => ?_)
      simp only [up2_n, up2_s, ne_eq, Nat.reduceEqDiff, not_false_eq_true]
      by_cases e : p = i
      · subst e; rw [up1_s]
      · rw [up1_n _ _ e]; exact hr p (by omega)
  refine x_iconst (v := 0) dR_owes_0 rfl ?_
  refine x_istoren_2 dR_owes_1 rfl rfl ?_
  -- at 2: .iload_n 2
  exact loop1 64 0 I L (by omega) Fr.rfl hM (fun p hp => absurd hp (Nat.not_lt_zero p))
