section
-- 68.r8
/-! the reference: struck out, cut to ROOM, what is owed in all -/
theorem imin_alt (x y : Int32) : imin x y = if x < y then x else y := by
  unfold imin
  by_cases h : x < y
  · rw [if_pos h, if_neg (Int32.not_lt.mpr (Int32.le_of_lt h))]
  · rw [if_neg h]
    by_cases h2 : y < x
    · rw [if_pos h2]
    · rw [if_neg h2]
      exact Int32.le_antisymm (Int32.not_lt.mp h2) (Int32.not_lt.mp h)
def sp_R_strikes : SpT := fun as S I L Post => ∃ (q n : Nat) (O : Nat → Nat → Int32) (T : Nat → Int32), as = [.ref 59, .int (nI q)] ∧ S = S1 ∧ q < 8 ∧ I 59 3 = nI n ∧ n ≤ 8 ∧ rng1 (rV I 13 q) q ∧ RowR I n O ∧ (∀ p, p < n → I 97 p = T p) ∧
  ∀ I' : IM, Fr [96, 97] I I' → RowR I' n (fun p => (strS (rV I) q (O p, T p)).1) → (∀ p, p < n → I' 97 p = (strS (rV I) q (O p, T p)).2) → Post none S1 I' L
set_option maxHeartbeats 4000000 in
set_option maxRecDepth 100000 in
theorem c_R_strikes : Con mR_strikes 2 0 0 sp_R_strikes := by
  refine con_of_X rfl fun G as S I L Post hs => ?_
  obtain ⟨q, n, O, T, rfl, rfl, hq, hn, hn8, hc, hO, hT, h1⟩ := hs
  refine ⟨3, Nat.le_of_ble_eq_true rfl, ?_⟩
  show X mR_strikes G _ S1 I L 0 [.ref 59, .int (nI q), .null, .null, .null] [] Post
  refine x_aload_n dR_strikes_0 rfl ?_
  refine x_getR fl_R_53 rfl dR_strikes_1 rfl rfl rfl ?_
  refine x_iload_n dR_strikes_4 rfl ?_
  refine x_ialdJ (j := q) dR_strikes_5 rfl rfl (by first | rfl | (simp only [← nI_add, ← pk_mul]; rfl)) (by omega) ?_
  refine x_istoren_2 dR_strikes_6 rfl rfl ?_
  refine x_iconst (v := 0) dR_strikes_7 rfl ?_
  refine x_istoren_3 dR_strikes_8 rfl rfl ?_
  -- at 9: .iload_n 3
  have hc' : rng1 (I 73 q) q := hc
  rcases hc' with e | ⟨c, hc, e⟩
  · have es : ∀ p, strS (rV I) q (O p, T p) = (O p, T p) := fun p => by rw [strS, if_pos (show rV I 13 q = -1 from e)]
    have done : Post none S1 I L := by
      refine h1 I Fr.rfl (fun p hp k hk => ?_) (fun p hp => ?_)
      · dsimp only
        rw [es]
        exact hO p hp k hk
      · rw [es]
        exact hT p hp
    rw [e]
    refine x_iload_n dR_strikes_9 rfl ?_
    refine x_aload_n dR_strikes_10 rfl ?_
    refine x_getI fl_R_148 rfl dR_strikes_11 rfl rfl ?_
    -- at 14: .if_icmp .ge 109
    refine x_icmp_ge (tgt := 123) dR_strikes_14 (by decide) (fun c1 => ?_) (fun c1 => ?_)
    · refine x_return dR_strikes_123 rfl ?_
      exact done
    · refine x_iload_n dR_strikes_17 rfl ?_
      refine x_iconst (v := -1) dR_strikes_18 rfl ?_
      -- at 19: .if_icmp .eq 104
      refine x_icmp_eq (tgt := 123) dR_strikes_19 (by decide) (fun _ => ?_) (fun h => absurd rfl h)
      refine x_return dR_strikes_123 rfl ?_
      exact done
  · have hne : ¬ nI c = -1 := fun z => by
      have := nI_pos' (n := c) (by omega)
      rw [z] at this
      exact absurd this (by decide)
    have ec : cl (rV I 13 q) = c := by rw [show rV I 13 q = nI c from e]; exact cl_nI (by omega)
    have es : ∀ p, strS (rV I) q (O p, T p) = (up1 (up1 (O p) q (O p q - imin (O p q) (O p c))) c (O p c - imin (O p q) (O p c)), T p + imin (O p q) (O p c)) := fun p => by
      rw [strS, if_neg (by rw [show rV I 13 q = nI c from e]; exact hne), ec]
      dsimp only
      rw [up1_n (O p) (O p q - imin (O p q) (O p c)) (show c ≠ q by omega)]
    rw [e]
    have loop : ∀ (k i : Nat) (I' : IM) (a4 : Value), i + k = n → cat1at [a4] 1 = true → Fr [96, 97] I I' → RowR I' n (fun p => if p < i then (strS (rV I) q (O p, T p)).1 else O p) → (∀ p, p < n → I' 97 p = if p < i then (strS (rV I) q (O p, T p)).2 else T p) →
        X mR_strikes G (2, 0, 0) S1 I' L 9 [.ref 59, .int (nI q), .int (nI c), .int (nI i), a4] [] Post := by
      intro k
      induction k with
      | zero =>
        intro i I' a4 hi h4 hF hr ht
        obtain rfl : i = n := by omega
        refine x_iload_n dR_strikes_9 rfl ?_
        refine x_aload_n dR_strikes_10 rfl ?_
        refine x_getI fl_R_148 rfl dR_strikes_11 rfl rfl ?_
        -- at 14: .if_icmp .ge 109
        rw [hF 59 (by decide), hn]
        refine x_icmp_ge (tgt := 123) dR_strikes_14 (by decide) (fun _ => ?_) (fun h => absurd (Int32.le_refl _) h)
        refine x_return dR_strikes_123 rfl ?_
        refine h1 I' hF (fun p hp k hk => ?_) (fun p hp => ?_)
        · have := hr p hp k hk
          dsimp only at this
          rw [if_pos hp] at this
          exact this
        · have := ht p hp
          rw [if_pos hp] at this
          exact this
      | succ k ih =>
        intro i I' a4 hi h4 hF hr ht
        have hrow : ∀ q, q < 8 → I' 96 (i * 8 + q) = O i q := fun q hq => by
          have := hr i (by omega) q hq
          dsimp only at this
          rw [if_neg (Nat.lt_irrefl i)] at this
          exact this
        have htt : I' 97 i = T i := by
          have := ht i (by omega)
          rw [if_neg (Nat.lt_irrefl i)] at this
          exact this
        refine x_iload_n dR_strikes_9 rfl ?_
        refine x_aload_n dR_strikes_10 rfl ?_
        refine x_getI fl_R_148 rfl dR_strikes_11 rfl rfl ?_
        -- at 14: .if_icmp .ge 109
        rw [hF 59 (by decide), hn]
        refine x_icmp_ge (tgt := 123) dR_strikes_14 (by decide) (fun h => absurd h (nI_ge (by omega) (by omega))) (fun _ => ?_)
        refine x_iload_n dR_strikes_17 rfl ?_
        refine x_iconst (v := -1) dR_strikes_18 rfl ?_
        -- at 19: .if_icmp .eq 104
        refine x_icmp_eq (tgt := 123) dR_strikes_19 (by decide) (fun h => absurd h hne) (fun _ => ?_)
        have tail : ∀ l : Int32, l = imin (O i q) (O i c) → X mR_strikes G (2, 0, 0) S1 I' L 72 [.ref 59, .int (nI q), .int (nI c), .int (nI i), a4] [.int l] Post := by
          intro l hl
          refine x_istore_4 dR_strikes_72 rfl rfl ?_
          refine x_aload_n dR_strikes_74 rfl ?_
          refine x_getR fl_R_122 rfl dR_strikes_75 rfl rfl rfl ?_
          refine x_bipush (v := 8) dR_strikes_78 rfl ?_
          refine x_iload_n dR_strikes_80 rfl ?_
          refine x_imul dR_strikes_81 ?_
          refine x_iload_n dR_strikes_82 rfl ?_
          refine x_iadd dR_strikes_83 ?_
          refine x_dup2 dR_strikes_84 rfl rfl ?_
          refine x_ialdJ dR_strikes_85 rfl rfl (r8 i q) (by omega) ?_
          -- at 86: .iload 4
          rw [hrow q hq]
          refine x_iload dR_strikes_86 rfl ?_
          refine x_isub dR_strikes_88 ?_
          refine x_iastJ dR_strikes_89 rfl rfl (r8 i q) (by omega) ?_
          -- at 90: .aload_n 0
          refine x_aload_n dR_strikes_90 rfl ?_
          refine x_getR fl_R_122 rfl dR_strikes_91 rfl rfl rfl ?_
          refine x_bipush (v := 8) dR_strikes_94 rfl ?_
          refine x_iload_n dR_strikes_96 rfl ?_
          refine x_imul dR_strikes_97 ?_
          refine x_iload_n dR_strikes_98 rfl ?_
          refine x_iadd dR_strikes_99 ?_
          refine x_dup2 dR_strikes_100 rfl rfl ?_
          refine x_ialdJ dR_strikes_101 rfl rfl (r8 i c) (by omega) ?_
          -- at 102: .iload 4
          simp only [up2_n, up2_s, ne_eq, Nat.reduceEqDiff, not_false_eq_true]
          rw [up1_n _ _ (by omega), hrow c (by omega)]
          refine x_iload dR_strikes_102 rfl ?_
          refine x_isub dR_strikes_104 ?_
          refine x_iastJ dR_strikes_105 rfl rfl (r8 i c) (by omega) ?_
          -- at 106: .aload_n 0
          refine x_aload_n dR_strikes_106 rfl ?_
          refine x_getR fl_R_125 rfl dR_strikes_107 rfl rfl rfl ?_
          refine x_iload_n dR_strikes_110 rfl ?_
          refine x_dup2 dR_strikes_111 rfl rfl ?_
          refine x_ialdJ (j := i) dR_strikes_112 rfl rfl (by first | rfl | (simp only [← nI_add, ← pk_mul]; rfl)) (by omega) ?_
          -- at 113: .iload 4
          simp only [up2_n, up2_s, ne_eq, Nat.reduceEqDiff, not_false_eq_true]
          rw [htt]
          refine x_iload dR_strikes_113 rfl ?_
          refine x_iadd dR_strikes_115 ?_
          refine x_iastJ (j := i) dR_strikes_116 rfl rfl (by first | rfl | (simp only [← nI_add, ← pk_mul]; rfl)) (by omega) ?_
          -- at 117: .iinc 3 1
          refine x_iincp_3 dR_strikes_117 rfl rfl ?_
          refine x_goto (tgt := 9) dR_strikes_120 (by decide) ?_
          -- at 9: .iload_n 3
          rw [nI_1]
          have hes := es i
          rw [← hl] at hes
          refine ih (i + 1) _ _ (by omega) rfl (((hF.up (by decide) _ _).up (by decide) _ _).up (by decide) _ _) (fun p hp k hk => ?_) (fun p hp => ?_)
          · rw [up2_n _ _ _ (by decide), (hr.up (by omega) hq).up (by omega) (by omega) p hp k hk]
            dsimp only
            by_cases e2 : p = i
            · subst e2
              rw [if_pos rfl, if_pos rfl, if_neg (Nat.lt_irrefl p), if_pos (Nat.lt_succ_self p), hes]
            · rw [if_neg e2, if_neg e2]
              by_cases e3 : p < i
              · rw [if_pos e3, if_pos (by omega)]
              · rw [if_neg e3, if_neg (by omega)]
          · simp only [up2_n, up2_s, ne_eq, Nat.reduceEqDiff, not_false_eq_true]
            by_cases e2 : p = i
            · subst e2
              rw [up1_s, if_pos (Nat.lt_succ_self p), hes]
            · rw [up1_n _ _ e2, ht p hp]
              by_cases e3 : p < i
              · rw [if_pos e3, if_pos (by omega)]
              · rw [if_neg e3, if_neg (by omega)]
        refine x_aload_n dR_strikes_22 rfl ?_
        refine x_getR fl_R_122 rfl dR_strikes_23 rfl rfl rfl ?_
        refine x_bipush (v := 8) dR_strikes_26 rfl ?_
        refine x_iload_n dR_strikes_28 rfl ?_
        refine x_imul dR_strikes_29 ?_
        refine x_iload_n dR_strikes_30 rfl ?_
        refine x_iadd dR_strikes_31 ?_
        refine x_ialdJ dR_strikes_32 rfl rfl (r8 i q) (by omega) ?_
        refine x_aload_n dR_strikes_33 rfl ?_
        refine x_getR fl_R_122 rfl dR_strikes_34 rfl rfl rfl ?_
        refine x_bipush (v := 8) dR_strikes_37 rfl ?_
        refine x_iload_n dR_strikes_39 rfl ?_
        refine x_imul dR_strikes_40 ?_
        refine x_iload_n dR_strikes_41 rfl ?_
        refine x_iadd dR_strikes_42 ?_
        refine x_ialdJ dR_strikes_43 rfl rfl (r8 i c) (by omega) ?_
        -- at 44: .if_icmp .ge 17
        rw [hrow q hq, hrow c (by omega)]
        refine x_icmp_ge (tgt := 61) dR_strikes_44 (by decide) (fun c1 => ?_) (fun c1 => ?_)
        · refine x_aload_n dR_strikes_61 rfl ?_
          refine x_getR fl_R_122 rfl dR_strikes_62 rfl rfl rfl ?_
          refine x_bipush (v := 8) dR_strikes_65 rfl ?_
          refine x_iload_n dR_strikes_67 rfl ?_
          refine x_imul dR_strikes_68 ?_
          refine x_iload_n dR_strikes_69 rfl ?_
          refine x_iadd dR_strikes_70 ?_
          refine x_ialdJ dR_strikes_71 rfl rfl (r8 i c) (by omega) ?_
          -- at 72: .istore 4
          rw [hrow c (by omega)]
          exact tail _ (by rw [imin_alt, if_neg (Int32.not_lt.mpr c1)])
        · refine x_aload_n dR_strikes_47 rfl ?_
          refine x_getR fl_R_122 rfl dR_strikes_48 rfl rfl rfl ?_
          refine x_bipush (v := 8) dR_strikes_51 rfl ?_
          refine x_iload_n dR_strikes_53 rfl ?_
          refine x_imul dR_strikes_54 ?_
          refine x_iload_n dR_strikes_55 rfl ?_
          refine x_iadd dR_strikes_56 ?_
          refine x_ialdJ dR_strikes_57 rfl rfl (r8 i q) (by omega) ?_
          refine x_goto (tgt := 72) dR_strikes_58 (by decide) ?_
          -- at 72: .istore 4
          rw [hrow q hq]
          exact tail _ (by rw [imin_alt, if_pos (Int32.not_le.mp c1)])
    refine loop n 0 I .null (by omega) rfl Fr.rfl (fun p hp k hk => ?_) (fun p hp => ?_)
    · dsimp only
      rw [if_neg (Nat.not_lt_zero p)]
      exact hO p hp k hk
    · rw [if_neg (Nat.not_lt_zero p)]
      exact hT p hp
/-- numbers of 0 to 99 -/
def r99 (o : Nat → Int32) : Prop := ∀ q, rng (o q) 100
theorem r8_sub {a b : Nat} (h : b ≤ a) : nI a - nI b = nI (a - b) := by
  have e : nI a = nI (a - b) + nI b := by rw [nI_add, Nat.sub_add_cancel h]
  rw [e, Int32.add_sub_cancel]
theorem r8_neg {a b : Nat} (h : a < b) (hb : b < 100) : ¬ (0 : Int32) < nI a - nI b := by
  have e : nI a - nI b = -(nI (b - a)) := by rw [← r8_sub (Nat.le_of_lt h), Int32.neg_sub]
  rw [e]
  exact (show ∀ k, k < 100 → ¬ (0 : Int32) < -(nI k) by decide +kernel) (b - a) (by omega)
theorem fit99 : ∀ a, a < 100 → ∀ b, b < 100 → nI a - imax 0 (nI a - nI b) = (if nI a < nI b then nI a else nI b) ∧ (nI b - (if nI a < nI b then nI a else nI b)) = nI (b - a) ∧ (if nI a < nI b then nI a else nI b) = nI (min a b) := by
  intro a ha b hb
  by_cases c : a < b
  · have e : imax 0 (nI a - nI b) = 0 := by
      unfold imax
      exact if_neg (r8_neg c hb)
    have e2 : min a b = a := by omega
    rw [if_pos (nI_lt c (by omega)), e, e2, Int32.sub_zero]
    exact ⟨rfl, r8_sub (by omega), rfl⟩
  · have hba : b ≤ a := by omega
    have e : imax 0 (nI a - nI b) = nI (a - b) := by
      rw [r8_sub hba]
      unfold imax
      by_cases d : (0 : Int32) < nI (a - b)
      · exact if_pos d
      · rw [if_neg d]
        by_cases z : a - b = 0
        · rw [z, nI_0]
        · have w := nI_lt (a := 0) (b := a - b) (by omega) (by omega)
          rw [nI_0] at w
          exact absurd w d
    have e2 : min a b = b := by omega
    have e3 : b - a = b - b := by omega
    rw [if_neg (nI_nlt hba (by omega)), e, e2, e3]
    refine ⟨?_, r8_sub (Nat.le_refl _), rfl⟩
    rw [r8_sub (a := a) (b := a - b) (Nat.sub_le a b)]
    congr 1
    omega
theorem min99 : ∀ a, a < 100 → ∀ b, b < 100 → imin (nI a) (nI b) = nI (min a b) ∧ nI a - nI (min a b) = nI (a - b) ∧ imax (nI a) (nI b) = nI (max a b) := by
  intro a ha b hb
  have e1 : nI a - nI (min a b) = nI (a - b) := by
    rw [r8_sub (a := a) (b := min a b) (by omega)]
    congr 1
    omega
  by_cases c : b < a
  · have e2 : min a b = b := by omega
    have e3 : max a b = a := by omega
    refine ⟨?_, e1, ?_⟩
    · rw [e2]
      unfold imin
      exact if_pos (nI_lt c (by omega))
    · rw [e3]
      unfold imax
      exact if_neg (nI_nlt (by omega) (by omega))
  · have e2 : min a b = a := by omega
    have e3 : max a b = b := by omega
    refine ⟨?_, e1, ?_⟩
    · rw [e2]
      unfold imin
      exact if_neg (nI_nlt (by omega) (by omega))
    · rw [e3]
      unfold imax
      by_cases d : nI a < nI b
      · exact if_pos d
      · rw [if_neg d]
        by_cases z : a = b
        · rw [z]
        · exact absurd (nI_lt (a := a) (b := b) (by omega) (by omega)) d
theorem cut99 {o l : Int32} (ho : rng o 100) (hl : rng l 100) : o - imax 0 (o - l) = (if o < l then o else l) ∧ rng (if o < l then o else l) 100 ∧ rng (l - (if o < l then o else l)) 100 := by
  obtain ⟨a, ha, rfl⟩ := ho
  obtain ⟨b, hb, rfl⟩ := hl
  obtain ⟨h1, h2, h3⟩ := fit99 a ha b hb
  exact ⟨h1, ⟨min a b, by omega, h3⟩, ⟨b - a, by omega, h2⟩⟩
theorem sub_sub_me (x y : Int32) : x - (x - y) = y := by grind
theorem cut_keep {o : Nat → Int32} (h : r99 o) {r : Int32} (hr : rng r 100) : ∀ j, r99 (cutR r o j).1 ∧ rng (cutR r o j).2.1 100 := by
  intro j
  induction j with
  | zero => exact ⟨h, hr⟩
  | succ k ih =>
    obtain ⟨h1, h2⟩ := ih
    rw [cutR, cutS]
    dsimp only
    obtain ⟨e1, e2, e3⟩ := cut99 (h1 k) h2
    rw [e1]
    refine ⟨fun q => ?_, e3⟩
    unfold up1
    split
    · exact e2
    · exact h1 q
theorem str_keep {V : IM} {o : Nat → Int32} (h : r99 o) : ∀ j, (∀ i, i < j → rng1 (V 13 i) i) → j ≤ 8 → r99 (strR V o j).1 := by
  intro j
  induction j with
  | zero => intro _ _; exact h
  | succ k ih =>
    intro hv hj
    have h1 := ih (fun i hi => hv i (by omega)) (by omega)
    rw [strR, strS]
    split
    · exact h1
    · rename_i hne
      rcases hv k (by omega) with e | ⟨c, hc, e⟩
      · exact absurd e hne
      · rw [e, cl_nI (by omega)]
        dsimp only
        rw [up1_n _ _ (show c ≠ k by omega)]
        obtain ⟨a, ha, ea⟩ := h1 k
        obtain ⟨b, hb, eb⟩ := h1 c
        obtain ⟨m1, m2, -⟩ := min99 a ha b hb
        obtain ⟨-, m4, -⟩ := min99 b hb a ha
        rw [ea, eb, m1, m2, Nat.min_comm, m4]
        intro q
        unfold up1
        split
        · exact ⟨b - a, by omega, rfl⟩
        · split
          · exact ⟨a - b, by omega, rfl⟩
          · exact h1 q
theorem bnd_rng (x : Int32) : rng (bnd x 99) 100 := by
  have h0 := bnd_nn x 99
  refine rng_of (M := 100) rfl (by omega) h0 ?_
  unfold bnd
  have hm : imin x 99 ≤ 99 := by
    unfold imin
    split
    · exact Int32.le_refl _
    · rename_i h; exact Int32.not_lt.mp h
  unfold imax
  split
  · exact Int32.lt_of_le_of_lt hm (by decide)
  · decide
theorem share_rng (V : IM) (P : Nat → List Int32) (c : Int32) (s p : Nat) : rng (shareV V P c s p) 100 := by
  unfold shareV
  split
  · exact bnd_rng _
  · exact ⟨0, by omega, rfl⟩
theorem max_keep {V : IM} {D : Nat → Int32} {w : Int32} (h : ∀ s, rng (D s) 100) : ∀ m, r99 (maxR V D w m) := by
  intro m
  induction m with
  | zero => exact fun q => ⟨0, by omega, rfl⟩
  | succ k ih =>
    rw [maxR]
    split
    · exact ih
    · intro q
      unfold up1
      split
      · obtain ⟨a, ha, ea⟩ := ih (cl (V 14 k))
        obtain ⟨b, hb, eb⟩ := h k
        rw [ea, eb, (min99 a ha b hb).2.2]
        exact ⟨max a b, by omega, rfl⟩
      · exact ih q
theorem rng_nn {x : Int32} {n : Nat} (h : rng x n) (hn : n < 2 ^ 31) : 0 ≤ x := by
  obtain ⟨k, hk, rfl⟩ := h
  exact nI_pos' (by omega)
def sp_R_fits : SpT := fun as S I L Post => ∃ (p n nq : Nat) (O : Nat → Nat → Int32), as = [.ref 59, .int (nI p)] ∧ S = S1 ∧ p < n ∧ n ≤ 8 ∧ I 59 12 = nI nq ∧ nq ≤ 8 ∧ rng (rV I 8 p) 100 ∧ RowR I n O ∧ r99 (O p) ∧ I 98 p = 0 ∧
  ∀ I' : IM, Fr [96, 98] I I' → RowR I' n (fun i => if i = p then (cutR (rV I 8 p) (O p) nq).1 else O i) → (∀ i, i ≠ p → I' 98 i = I 98 i) → I' 98 p = (cutR (rV I 8 p) (O p) nq).2.2 → Post none S1 I' L
set_option maxHeartbeats 4000000 in
set_option maxRecDepth 100000 in
theorem c_R_fits : Con mR_fits 2 0 0 sp_R_fits := by
  refine con_of_X rfl fun G as S I L Post hs => ?_
  obtain ⟨p, n, nq, O, rfl, rfl, hp, hn8, hnq, hq8, hroom, hO, h99, hb0, h1⟩ := hs
  have hroom' : rng (I 68 p) 100 := hroom
  have h1 : ∀ I' : IM, Fr [96, 98] I I' → RowR I' n (fun i => if i = p then (cutR (I 68 p) (O p) nq).1 else O i) → (∀ i, i ≠ p → I' 98 i = I 98 i) → I' 98 p = (cutR (I 68 p) (O p) nq).2.2 → Post none S1 I' L := h1
  refine ⟨3, Nat.le_of_ble_eq_true rfl, ?_⟩
  show X mR_fits G _ S1 I L 0 [.ref 59, .int (nI p), .null, .null, .null] [] Post
  refine x_aload_n dR_fits_0 rfl ?_
  refine x_getR fl_R_38 rfl dR_fits_1 rfl rfl rfl ?_
  refine x_iload_n dR_fits_4 rfl ?_
  refine x_ialdJ (j := p) dR_fits_5 rfl rfl (by first | rfl | (simp only [← nI_add, ← pk_mul]; rfl)) (by omega) ?_
  refine x_istoren_2 dR_fits_6 rfl rfl ?_
  refine x_iconst (v := 0) dR_fits_7 rfl ?_
  refine x_istoren_3 dR_fits_8 rfl rfl ?_
  -- at 9: .iload_n 3
  have loop : ∀ (k i : Nat) (I' : IM) (lf : Int32) (a4 : Value), i + k = nq → cat1at [a4] 1 = true → Fr [96, 98] I I' → lf = (cutR (I 68 p) (O p) i).2.1 → RowR I' n (fun j => if j = p then (cutR (I 68 p) (O p) i).1 else O j) → (∀ i, i ≠ p → I' 98 i = I 98 i) → I' 98 p = (cutR (I 68 p) (O p) i).2.2 →
      X mR_fits G (2, 0, 0) S1 I' L 9 [.ref 59, .int (nI p), .int lf, .int (nI i), a4] [] Post := by
    intro k
    induction k with
    | zero =>
      intro i I' lf a4 hi h4 hF hl hr hb hbp
      obtain rfl : i = nq := by omega
      refine x_iload_n dR_fits_9 rfl ?_
      refine x_aload_n dR_fits_10 rfl ?_
      refine x_getI fl_R_155 rfl dR_fits_11 rfl rfl ?_
      -- at 14: .if_icmp .ge 82
      rw [hF 59 (by decide), hnq]
      refine x_icmp_ge (tgt := 96) dR_fits_14 (by decide) (fun _ => ?_) (fun h => absurd (Int32.le_refl _) h)
      refine x_return dR_fits_96 rfl ?_
      exact h1 I' hF hr hb hbp
    | succ k ih =>
      intro i I' lf a4 hi h4 hF hl hr hb hbp
      obtain ⟨k1, k2⟩ := cut_keep h99 hroom' i
      obtain ⟨e1, e2, e3⟩ := cut99 (k1 i) k2
      have hs : cutR (I 68 p) (O p) (i + 1) = cutS i (cutR (I 68 p) (O p) i) := rfl
      have hrow : I' 96 (p * 8 + i) = (cutR (I 68 p) (O p) i).1 i := by
        have := hr p hp i (by omega)
        dsimp only at this
        rw [if_pos rfl] at this
        exact this
      rw [cutS] at hs
      rw [e1] at hs
      have e4 : imax 0 ((cutR (I 68 p) (O p) i).1 i - (cutR (I 68 p) (O p) i).2.1) = (cutR (I 68 p) (O p) i).1 i - (if (cutR (I 68 p) (O p) i).1 i < (cutR (I 68 p) (O p) i).2.1 then (cutR (I 68 p) (O p) i).1 i else (cutR (I 68 p) (O p) i).2.1) := by
        rw [← e1, sub_sub_me]
      rw [e4] at hs
      rw [← hl] at hs
      generalize cutR (I 68 p) (O p) i = st at hr hl hbp hs hrow
      have tail : ∀ l : Int32, l = (if st.1 i < lf then st.1 i else lf) → X mR_fits G (2, 0, 0) S1 I' L 47 [.ref 59, .int (nI p), .int lf, .int (nI i), a4] [.int l] Post := by
        intro l he
        rw [← he] at hs
        refine x_istore_4 dR_fits_47 rfl rfl ?_
        refine x_aload_n dR_fits_49 rfl ?_
        refine x_getR fl_R_128 rfl dR_fits_50 rfl rfl rfl ?_
        refine x_iload_n dR_fits_53 rfl ?_
        refine x_dup2 dR_fits_54 rfl rfl ?_
        refine x_ialdJ (j := p) dR_fits_55 rfl rfl (by first | rfl | (simp only [← nI_add, ← pk_mul]; rfl)) (by omega) ?_
        refine x_aload_n dR_fits_56 rfl ?_
        refine x_getR fl_R_122 rfl dR_fits_57 rfl rfl rfl ?_
        refine x_bipush (v := 8) dR_fits_60 rfl ?_
        refine x_iload_n dR_fits_62 rfl ?_
        refine x_imul dR_fits_63 ?_
        refine x_iload_n dR_fits_64 rfl ?_
        refine x_iadd dR_fits_65 ?_
        refine x_ialdJ dR_fits_66 rfl rfl (r8 p i) (by omega) ?_
        -- at 67: .iload 4
        rw [hbp, hrow]
        refine x_iload dR_fits_67 rfl ?_
        refine x_isub dR_fits_69 ?_
        refine x_iadd dR_fits_70 ?_
        refine x_iastJ (j := p) dR_fits_71 rfl rfl (by first | rfl | (simp only [← nI_add, ← pk_mul]; rfl)) (by omega) ?_
        -- at 72: .aload_n 0
        refine x_aload_n dR_fits_72 rfl ?_
        refine x_getR fl_R_122 rfl dR_fits_73 rfl rfl rfl ?_
        refine x_bipush (v := 8) dR_fits_76 rfl ?_
        refine x_iload_n dR_fits_78 rfl ?_
        refine x_imul dR_fits_79 ?_
        refine x_iload_n dR_fits_80 rfl ?_
        refine x_iadd dR_fits_81 ?_
        refine x_iload dR_fits_82 rfl ?_
        refine x_iastJ dR_fits_84 rfl rfl (r8 p i) (by omega) ?_
        refine x_iload_n dR_fits_85 rfl ?_
        refine x_iload dR_fits_86 rfl ?_
        refine x_isub dR_fits_88 ?_
        refine x_istoren_2 dR_fits_89 rfl rfl ?_
        refine x_iincp_3 dR_fits_90 rfl rfl ?_
        refine x_goto (tgt := 9) dR_fits_93 (by decide) ?_
        -- at 9: .iload_n 3
        rw [nI_1]
        refine ih (i + 1) _ _ _ (by omega) rfl ((hF.up (by decide) _ _).up (by decide) _ _) ?_ (fun j hj k hk => ?_) (fun j hj => ?_) ?_
        · rw [hs]
        · rw [RowR.up (O := fun j => if j = p then st.1 else O j) (fun j hj k hk => by rw [up2_n _ _ _ (by decide)]; exact hr j hj k hk) hp (by omega) j hj k hk]
          dsimp only
          by_cases e5 : j = p
          · subst e5
            rw [if_pos rfl, if_pos rfl, if_pos rfl, hs]
          · rw [if_neg e5, if_neg e5, if_neg e5]
        · simp only [up2_n, up2_s, ne_eq, Nat.reduceEqDiff, not_false_eq_true]
          rw [up1_n _ _ hj]
          exact hb j hj
        · simp only [up2_n, up2_s, ne_eq, Nat.reduceEqDiff, not_false_eq_true]
          rw [up1_s, hs]
      refine x_iload_n dR_fits_9 rfl ?_
      refine x_aload_n dR_fits_10 rfl ?_
      refine x_getI fl_R_155 rfl dR_fits_11 rfl rfl ?_
      -- at 14: .if_icmp .ge 82
      rw [hF 59 (by decide), hnq]
      refine x_icmp_ge (tgt := 96) dR_fits_14 (by decide) (fun h => absurd h (nI_ge (by omega) (by omega))) (fun _ => ?_)
      refine x_aload_n dR_fits_17 rfl ?_
      refine x_getR fl_R_122 rfl dR_fits_18 rfl rfl rfl ?_
      refine x_bipush (v := 8) dR_fits_21 rfl ?_
      refine x_iload_n dR_fits_23 rfl ?_
      refine x_imul dR_fits_24 ?_
      refine x_iload_n dR_fits_25 rfl ?_
      refine x_iadd dR_fits_26 ?_
      refine x_ialdJ dR_fits_27 rfl rfl (r8 p i) (by omega) ?_
      refine x_iload_n dR_fits_28 rfl ?_
      -- at 29: .if_icmp .ge 17
      rw [hrow]
      refine x_icmp_ge (tgt := 46) dR_fits_29 (by decide) (fun c1 => ?_) (fun c1 => ?_)
      · refine x_iload_n dR_fits_46 rfl ?_
        -- at 47: .istore 4
        exact tail _ (by rw [if_neg (Int32.not_lt.mpr c1)])
      · refine x_aload_n dR_fits_32 rfl ?_
        refine x_getR fl_R_122 rfl dR_fits_33 rfl rfl rfl ?_
        refine x_bipush (v := 8) dR_fits_36 rfl ?_
        refine x_iload_n dR_fits_38 rfl ?_
        refine x_imul dR_fits_39 ?_
        refine x_iload_n dR_fits_40 rfl ?_
        refine x_iadd dR_fits_41 ?_
        refine x_ialdJ dR_fits_42 rfl rfl (r8 p i) (by omega) ?_
        refine x_goto (tgt := 47) dR_fits_43 (by decide) ?_
        -- at 47: .istore 4
        rw [hrow]
        exact tail _ (by rw [if_pos (Int32.not_le.mp c1)])
  refine loop nq 0 I _ .null (by omega) rfl Fr.rfl rfl (fun j hj k hk => ?_) (fun _ _ => rfl) hb0
  dsimp only
  by_cases e : j = p
  · subst e
    rw [if_pos rfl]
    exact hO j hj k hk
  · rw [if_neg e]
    exact hO j hj k hk

theorem owes_maxR_nn {V : IM} {P : Nat → List Int32} {C : Nat → Int32} {w : Int32} (p m q : Nat) : 0 ≤ maxR V (DD V P C p) w m q :=
  rng_nn (max_keep (fun s => share_rng V P (C s) s p) m q) (by omega)
/-- what is owed, struck, BEYOND, of each of PEOPLE -/
def OwesR (V : IM) (D : Nat → Nat → Int32) (n nq : Nat) (w : Int32) (m : Nat) (I' : IM) : Prop :=
  RowR I' n (fun p => (fin1 V (D p) nq w m p).1) ∧ ∀ p, p < n → I' 97 p = str1 V (D p) nq w m ∧ I' 98 p = (fin1 V (D p) nq w m p).2.2
theorem OwesR.fr {V : IM} {D : Nat → Nat → Int32} {n nq : Nat} {w : Int32} {m : Nat} {I I' : IM} (h : OwesR V D n nq w m I) (h1 : I' 96 = I 96) (h2 : I' 97 = I 97) (h3 : I' 98 = I 98) : OwesR V D n nq w m I' := by
  unfold OwesR RowR at h ⊢
  rw [h1, h2, h3]
  exact h
/-- the rest that what is owed rests on -/
def OwOk (I : IM) (n m nq : Nat) : Prop := I 59 12 = nI nq ∧ nq ≤ 8 ∧ (∀ j, j < nq → rng1 (rV I 13 j) j) ∧ ∀ p, p < n → rng (rV I 8 p) 100
def sp_R_owes : SpT := fun as S I L Post => ∃ (m n nq : Nat) (w : Int32) (P : Nat → List Int32) (C : Nat → Int32), as = [.ref 59, .int (nI m)] ∧ S = S1 ∧ RkOk I P n m ∧ OwOk I n m nq ∧ I 59 60 = w ∧ (w = -1 ∨ I 59 55 = 0) ∧ Md I L (rV I) P n C 0 ∧
  ∀ (I' : IM) (L' : LM), Fr [94, 95, 96, 97, 98] I I' → OwesR (rV I) (DD (rV I) P C) n nq w m I' → Post none S1 I' L'
set_option maxHeartbeats 4000000 in
set_option maxRecDepth 100000 in
theorem c_R_owes : Con mR_owes 8 0 0 sp_R_owes := by
  refine con_of_X rfl fun G as S I L Post hs => ?_
  obtain ⟨m, n, nq, w, P, C, rfl, rfl, hR, hW, hw, hwd, hM, h1⟩ := hs
  obtain ⟨hn, hn8, hm11, hper, hsay, hT⟩ := hR
  obtain ⟨hnq, hq8, hag, hroom⟩ := hW
  refine ⟨1, Nat.le_of_ble_eq_true rfl, ?_⟩
  show X mR_owes G _ S1 I L 0 [.ref 59, .int (nI m), .null] [] Post
  -- each is cut to ROOM
  have loop5 : ∀ (k i : Nat) (I' : IM) (L' : LM), i + k = n → Fr [94, 95, 96, 97, 98] I I' → RowR I' n (fun p => if p < i then (fin1 (rV I) (DD (rV I) P C p) nq w m p).1 else (strR (rV I) (maxR (rV I) (DD (rV I) P C p) w m) nq).1) → (∀ p, p < n → I' 97 p = str1 (rV I) (DD (rV I) P C p) nq w m) → (∀ p, p < n → I' 98 p = if p < i then (fin1 (rV I) (DD (rV I) P C p) nq w m p).2.2 else 0) →
      X mR_owes G (8, 0, 0) S1 I' L' 98 [.ref 59, .int (nI m), .int (nI i)] [] Post := by
    intro k
    induction k with
    | zero =>
      intro i I' L' hi hF hr hs hb
      obtain rfl : i = n := by omega
      refine x_iload_n dR_owes_98 rfl ?_
      refine x_aload_n dR_owes_99 rfl ?_
      refine x_getI fl_R_148 rfl dR_owes_100 rfl rfl ?_
      -- at 103: .if_icmp .ge 14
      rw [hF 59 (by decide), hn]
      refine x_icmp_ge (tgt := 117) dR_owes_103 (by decide) (fun _ => ?_) (fun h => absurd (Int32.le_refl _) h)
      refine x_return dR_owes_117 rfl ?_
      refine h1 I' L' hF ⟨fun p hp q hq => ?_, fun p hp => ⟨hs p hp, ?_⟩⟩
      · have := hr p hp q hq
        dsimp only at this
        rw [if_pos hp] at this
        exact this
      · have := hb p hp
        rw [if_pos hp] at this
        exact this
    | succ k ih =>
      intro i I' L' hi hF hr hs hb
      have hV : rV I' = rV I := rV_fr (hF.wk (by decide))
      refine x_iload_n dR_owes_98 rfl ?_
      refine x_aload_n dR_owes_99 rfl ?_
      refine x_getI fl_R_148 rfl dR_owes_100 rfl rfl ?_
      -- at 103: .if_icmp .ge 14
      rw [hF 59 (by decide), hn]
      refine x_icmp_ge (tgt := 117) dR_owes_103 (by decide) (fun h => absurd h (nI_ge (by omega) (by omega))) (fun _ => ?_)
      refine x_aload_n dR_owes_106 rfl ?_
      refine x_iload_n dR_owes_107 rfl ?_
      -- at 108: .invokevirtual 292
      refine x_callV_1 c_R_fits ok_R_fits ml_R_292 dR_owes_108 rfl rfl rfl rfl rfl ?_
      refine ⟨i, n, nq, _, rfl, rfl, by omega, hn8, by rw [hF 59 (by decide)]; exact hnq, hq8, by rw [hV]; exact hroom i (by omega), hr, ?_, by rw [hb i (by omega), if_neg (Nat.lt_irrefl i)], fun I2 hF2 hr2 ho2 hb2 => ?_⟩
      · rw [if_neg (Nat.lt_irrefl i)]
        exact str_keep (max_keep (fun s => share_rng _ _ _ _ _) m) nq hag hq8
      · rw [hV] at hr2 hb2
        rw [if_neg (Nat.lt_irrefl i)] at hr2 hb2
        refine x_iincp_2 dR_owes_111 rfl rfl ?_
        refine x_goto (tgt := 98) dR_owes_114 (by decide) ?_
        -- at 98: .iload_n 2
        rw [nI_1]
        refine ih (i + 1) I2 L' (by omega) (hF.tr (hF2.wk (by decide))) (fun p hp q hq => ?_) (fun p hp => ?_) (fun p hp => ?_)
        · rw [hr2 p hp q hq]
          dsimp only
          by_cases e : p = i
          · subst e
            rw [if_pos rfl, if_pos (Nat.lt_succ_self p)]
            rfl
          · rw [if_neg e]
            by_cases e2 : p < i
            · rw [if_pos e2, if_pos (by omega)]
            · rw [if_neg e2, if_neg (by omega)]
        · rw [hF2 97 (by decide)]
          exact hs p hp
        · by_cases e : p = i
          · subst e
            rw [hb2, if_pos (Nat.lt_succ_self p)]
            rfl
          · rw [ho2 p e, hb p hp]
            by_cases e2 : p < i
            · rw [if_pos e2, if_pos (by omega)]
            · rw [if_neg e2, if_neg (by omega)]
  -- what is against is struck out
  have loop4 : ∀ (k i : Nat) (I' : IM) (L' : LM), i + k = nq → Fr [94, 95, 96, 97, 98] I I' → RowR I' n (fun p => (strR (rV I) (maxR (rV I) (DD (rV I) P C p) w m) i).1) → (∀ p, p < n → I' 97 p = (strR (rV I) (maxR (rV I) (DD (rV I) P C p) w m) i).2) → (∀ p, p < n → I' 98 p = 0) →
      X mR_owes G (8, 0, 0) S1 I' L' 77 [.ref 59, .int (nI m), .int (nI i)] [] Post := by
    intro k
    induction k with
    | zero =>
      intro i I' L' hi hF hr hs hb
      obtain rfl : i = nq := by omega
      refine x_iload_n dR_owes_77 rfl ?_
      refine x_aload_n dR_owes_78 rfl ?_
      refine x_getI fl_R_155 rfl dR_owes_79 rfl rfl ?_
      -- at 82: .if_icmp .ge 14
      rw [hF 59 (by decide), hnq]
      refine x_icmp_ge (tgt := 96) dR_owes_82 (by decide) (fun _ => ?_) (fun h => absurd (Int32.le_refl _) h)
      refine x_iconst (v := 0) dR_owes_96 rfl ?_
      refine x_istoren_2 dR_owes_97 rfl rfl ?_
      -- at 98: .iload_n 2
      refine loop5 n 0 I' L' (by omega) hF (fun p hp q hq => ?_) hs (fun p hp => ?_)
      · dsimp only
        rw [if_neg (Nat.not_lt_zero p)]
        exact hr p hp q hq
      · rw [if_neg (Nat.not_lt_zero p)]
        exact hb p hp
    | succ k ih =>
      intro i I' L' hi hF hr hs hb
      have hV : rV I' = rV I := rV_fr (hF.wk (by decide))
      refine x_iload_n dR_owes_77 rfl ?_
      refine x_aload_n dR_owes_78 rfl ?_
      refine x_getI fl_R_155 rfl dR_owes_79 rfl rfl ?_
      -- at 82: .if_icmp .ge 14
      rw [hF 59 (by decide), hnq]
      refine x_icmp_ge (tgt := 96) dR_owes_82 (by decide) (fun h => absurd h (nI_ge (by omega) (by omega))) (fun _ => ?_)
      refine x_aload_n dR_owes_85 rfl ?_
      refine x_iload_n dR_owes_86 rfl ?_
      -- at 87: .invokevirtual 289
      refine x_callV_1 c_R_strikes ok_R_strikes ml_R_289 dR_owes_87 rfl rfl rfl rfl rfl ?_
      refine ⟨i, n, _, _, rfl, rfl, by omega, by rw [hF 59 (by decide)]; exact hn, hn8, by rw [hV]; exact hag i (by omega), hr, hs, fun I2 hF2 hr2 hs2 => ?_⟩
      rw [hV] at hr2 hs2
      refine x_iincp_2 dR_owes_90 rfl rfl ?_
      refine x_goto (tgt := 77) dR_owes_93 (by decide) ?_
      -- at 77: .iload_n 2
      rw [nI_1]
      refine ih (i + 1) I2 L' (by omega) (hF.tr (hF2.wk (by decide))) hr2 hs2 (fun p hp => ?_)
      rw [hF2 98 (by decide)]
      exact hb p hp
  -- each SAYING but one
  have loop3 : ∀ (k i : Nat) (I' : IM) (L' : LM), i + k = m → Fr [94, 95, 96, 97, 98] I I' → Md I' L' (rV I) P n C i → RowR I' n (fun p => maxR (rV I) (DD (rV I) P C p) w i) → (∀ p, p < n → I' 97 p = 0) → (∀ p, p < n → I' 98 p = 0) →
      X mR_owes G (8, 0, 0) S1 I' L' 51 [.ref 59, .int (nI m), .int (nI i)] [] Post := by
    intro k
    induction k with
    | zero =>
      intro i I' L' hi hF hm hr hs hb
      obtain rfl : i = m := by omega
      refine x_iload_n dR_owes_51 rfl ?_
      refine x_iload_n dR_owes_52 rfl ?_
      -- at 53: .if_icmp .ge 22
      refine x_icmp_ge (tgt := 75) dR_owes_53 (by decide) (fun _ => ?_) (fun h => absurd (Int32.le_refl _) h)
      refine x_iconst (v := 0) dR_owes_75 rfl ?_
      refine x_istoren_2 dR_owes_76 rfl rfl ?_
      -- at 77: .iload_n 2
      exact loop4 nq 0 I' L' (by omega) hF hr hs hb
    | succ k ih =>
      intro i I' L' hi hF hm hr hs hb
      have hV : rV I' = rV I := rV_fr (hF.wk (by decide))
      refine x_iload_n dR_owes_51 rfl ?_
      refine x_iload_n dR_owes_52 rfl ?_
      -- at 53: .if_icmp .ge 22
      refine x_icmp_ge (tgt := 75) dR_owes_53 (by decide) (fun h => absurd h (nI_ge (by omega) (by omega))) (fun _ => ?_)
      refine x_iload_n dR_owes_56 rfl ?_
      refine x_aload_n dR_owes_57 rfl ?_
      refine x_getI fl_R_131 rfl dR_owes_58 rfl rfl ?_
      -- at 61: .if_icmp .eq 8
      rw [hF 59 (by decide), hw]
      refine x_icmp_eq (tgt := 69) dR_owes_61 (by decide) (fun c1 => ?_) (fun c1 => ?_)
      · refine x_iincp_2 dR_owes_69 rfl rfl ?_
        refine x_goto (tgt := 51) dR_owes_72 (by decide) ?_
        -- at 51: .iload_n 2
        rw [nI_1]
        have hz : I' 59 55 = 0 := by
          rcases hwd with e | e
          · rw [e] at c1
            have := nI_pos' (n := i) (by omega)
            rw [c1] at this
            exact absurd this (by decide)
          · rw [hF 59 (by decide)]; exact e
        refine ih (i + 1) I' L' (by omega) hF (hm.any hz) (fun p hp q hq => ?_) hs hb
        rw [hr p hp q hq]
        dsimp only
        rw [maxR, if_pos c1]
      · obtain ⟨⟨q, hq, eq⟩, -, -⟩ := hsay i (by omega)
        refine x_aload_n dR_owes_64 rfl ?_
        refine x_iload_n dR_owes_65 rfl ?_
        -- at 66: .invokevirtual 286
        refine x_callV_1 c_R_owesBy ok_R_owesBy ml_R_286 dR_owes_66 rfl rfl rfl rfl rfl ?_
        refine ⟨i, n, q, P, C, _, rfl, rfl, by omega, ⟨by rw [hF 59 (by decide)]; exact hn, hn8, by omega, by rw [hV]; exact hper, fun s hs => absurd hs (Nat.not_lt_zero s), hT.fr (hF 59 (by decide)) (hF 79 (by decide)) (hF 80 (by decide))⟩, by rw [hV]; exact hsay i (by omega), by rw [hV]; exact hm, by rw [hV]; exact eq, hq, hr, fun p hp => owes_maxR_nn p i q, fun I2 L2 hF2 hm2 hr2 => ?_⟩
        rw [hV] at hm2 hr2
        refine x_iincp_2 dR_owes_69 rfl rfl ?_
        refine x_goto (tgt := 51) dR_owes_72 (by decide) ?_
        -- at 51: .iload_n 2
        rw [nI_1]
        refine ih (i + 1) I2 L2 (by omega) (hF.tr (hF2.wk (by decide))) hm2 (fun p hp k hk => ?_) (fun p hp => by rw [hF2 97 (by decide)]; exact hs p hp) (fun p hp => by rw [hF2 98 (by decide)]; exact hb p hp)
        rw [hr2 p hp k hk]
        dsimp only
        rw [maxR, if_neg c1, eq, cl_nI (by omega)]
        rfl
  have loop2 : ∀ (k i : Nat) (I' : IM) (L' : LM), i + k = 8 → Fr [94, 95, 96, 97, 98] I I' → Md I' L' (rV I) P n C 0 → RowR I' n (fun p => maxR (rV I) (DD (rV I) P C p) w 0) → (∀ p, p < i → I' 97 p = 0) → (∀ p, p < i → I' 98 p = 0) →
      X mR_owes G (8, 0, 0) S1 I' L' 23 [.ref 59, .int (nI m), .int (nI i)] [] Post := by
    intro k
    induction k with
    | zero =>
      intro i I' L' hi hF hm hr hs hb
      obtain rfl : i = 8 := by omega
      refine x_iload_n dR_owes_23 rfl ?_
      refine x_bipush (v := 8) dR_owes_24 rfl ?_
      -- at 26: .if_icmp .ge 23
      refine x_icmp_ge (tgt := 49) dR_owes_26 (by decide) (fun _ => ?_) (fun h => absurd (by decide) h)
      refine x_iconst (v := 0) dR_owes_49 rfl ?_
      refine x_istoren_2 dR_owes_50 rfl rfl ?_
      -- at 51: .iload_n 2
      exact loop3 m 0 I' L' (by omega) hF hm hr (fun p hp => hs p (by omega)) (fun p hp => hb p (by omega))
    | succ k ih =>
      intro i I' L' hi hF hm hr hs hb
      refine x_iload_n dR_owes_23 rfl ?_
      refine x_bipush (v := 8) dR_owes_24 rfl ?_
      -- at 26: .if_icmp .ge 23
      refine x_icmp_ge (tgt := 49) dR_owes_26 (by decide) (fun h => absurd h (nI_ge (b := 8) (by omega) (by omega))) (fun _ => ?_)
      refine x_aload_n dR_owes_29 rfl ?_
      refine x_getR fl_R_125 rfl dR_owes_30 rfl rfl rfl ?_
      refine x_iload_n dR_owes_33 rfl ?_
      refine x_iconst (v := 0) dR_owes_34 rfl ?_
      refine x_iastJ (j := i) dR_owes_35 rfl rfl (by first | rfl | (simp only [← nI_add, ← pk_mul]; rfl)) (by omega) ?_
      -- at 36: .aload_n 0
      refine x_aload_n dR_owes_36 rfl ?_
      refine x_getR fl_R_128 rfl dR_owes_37 rfl rfl rfl ?_
      refine x_iload_n dR_owes_40 rfl ?_
      refine x_iconst (v := 0) dR_owes_41 rfl ?_
      refine x_iastJ (j := i) dR_owes_42 rfl rfl (by first | rfl | (simp only [← nI_add, ← pk_mul]; rfl)) (by omega) ?_
      -- at 43: .iinc 2 1
      refine x_iincp_2 dR_owes_43 rfl rfl ?_
      refine x_goto (tgt := 23) dR_owes_46 (by decide) ?_
      -- at 23: .iload_n 2
      rw [nI_1]
      refine ih (i + 1) _ L' (by omega) ((hF.up (by decide) _ _).up (by decide) _ _) (hm.fr (by simp only [up2_n, up2_s, ne_eq, Nat.reduceEqDiff, not_false_eq_true])) (fun p hp k hk => by rw [up2_n _ _ _ (by decide), up2_n _ _ _ (by decide)]; exact hr p hp k hk) (fun p hp => ?_) (fun p hp => ?_)
      · simp only [up2_n, up2_s, ne_eq, Nat.reduceEqDiff, not_false_eq_true]
        by_cases e : p = i
        · subst e; rw [up1_s]
        · rw [up1_n _ _ e]; exact hs p (by omega)
      · simp only [up2_n, up2_s, ne_eq, Nat.reduceEqDiff, not_false_eq_true]
        by_cases e : p = i
        · subst e; rw [up1_s]
        · rw [up1_n _ _ e]; exact hb p (by omega)
  have loop1 : ∀ (k i : Nat) (I' : IM) (L' : LM), i + k = 64 → Fr [94, 95, 96, 97, 98] I I' → Md I' L' (rV I) P n C 0 → (∀ p, p < i → I' 96 p = 0) →
      X mR_owes G (8, 0, 0) S1 I' L' 2 [.ref 59, .int (nI m), .int (nI i)] [] Post := by
    intro k
    induction k with
    | zero =>
      intro i I' L' hi hF hm hr
      obtain rfl : i = 64 := by omega
      refine x_iload_n dR_owes_2 rfl ?_
      refine x_bipush (v := 64) dR_owes_3 rfl ?_
      -- at 5: .if_icmp .ge 16
      refine x_icmp_ge (tgt := 21) dR_owes_5 (by decide) (fun _ => ?_) (fun h => absurd (by decide) h)
      refine x_iconst (v := 0) dR_owes_21 rfl ?_
      refine x_istoren_2 dR_owes_22 rfl rfl ?_
      -- at 23: .iload_n 2
      exact loop2 8 0 I' L' (by omega) hF hm (fun p hp q hq => hr _ (by omega)) (fun p hp => absurd hp (Nat.not_lt_zero p)) (fun p hp => absurd hp (Nat.not_lt_zero p))
    | succ k ih =>
      intro i I' L' hi hF hm hr
      refine x_iload_n dR_owes_2 rfl ?_
      refine x_bipush (v := 64) dR_owes_3 rfl ?_
      -- at 5: .if_icmp .ge 16
      refine x_icmp_ge (tgt := 21) dR_owes_5 (by decide) (fun h => absurd h (nI_ge (b := 64) (by omega) (by omega))) (fun _ => ?_)
      refine x_aload_n dR_owes_8 rfl ?_
      refine x_getR fl_R_122 rfl dR_owes_9 rfl rfl rfl ?_
      refine x_iload_n dR_owes_12 rfl ?_
      refine x_iconst (v := 0) dR_owes_13 rfl ?_
      refine x_iastJ (j := i) dR_owes_14 rfl rfl (by first | rfl | (simp only [← nI_add, ← pk_mul]; rfl)) (by omega) ?_
      refine x_iincp_2 dR_owes_15 rfl rfl ?_
      refine x_goto (tgt := 2) dR_owes_18 (by decide) ?_
      -- at 2: .iload_n 2
      rw [nI_1]
      refine ih (i + 1) _ L' (by omega) (hF.up (by decide) _ _) (hm.fr (by simp only [up2_n, up2_s, ne_eq, Nat.reduceEqDiff, not_false_eq_true])) (fun p hp => ?_)
      simp only [up2_n, up2_s, ne_eq, Nat.reduceEqDiff, not_false_eq_true]
      by_cases e : p = i
      · subst e; rw [up1_s]
      · rw [up1_n _ _ e]; exact hr p (by omega)
  refine x_iconst (v := 0) dR_owes_0 rfl ?_
  refine x_istoren_2 dR_owes_1 rfl rfl ?_
  -- at 2: .iload_n 2
  exact loop1 64 0 I L (by omega) Fr.rfl hM (fun p hp => absurd hp (Nat.not_lt_zero p))
end
section
-- 69.r9
/-! the reference: in all, pain, done, kept -/
def sumQ (f : Nat → Int32) (n : Nat) : Int32 := match n with
  | 0 => 0
  | k + 1 => sumQ f k + f k
theorem cut_st (r : Int32) (o : Nat → Int32) (q : Nat) : ∀ d j, q < j → (cutR r o (j + d)).1 q = (cutR r o j).1 q := by
  intro d
  induction d with
  | zero => intro j _; rfl
  | succ k ih =>
    intro j hq
    rw [← Nat.add_assoc, cutR, cutS]
    dsimp only
    rw [up1_n _ _ (by omega), ih j hq]
theorem cut_sum (r : Int32) (o : Nat → Int32) (n : Nat) : ∀ j, j ≤ n → sumQ (cutR r o n).1 j = r - (cutR r o j).2.1 := by
  intro j
  induction j with
  | zero => intro _; simp [sumQ, cutR]
  | succ k ih =>
    intro h
    have e := cut_st r o k (n - (k + 1)) (k + 1) (by omega)
    rw [show k + 1 + (n - (k + 1)) = n by omega] at e
    rw [sumQ, ih (by omega), e, cutR, cutS]
    dsimp only
    rw [up1_s]
    grind
theorem tot_sum (V : IM) (D : Nat → Int32) (nq : Nat) (w : Int32) (m p : Nat) : sumQ (fin1 V D nq w m p).1 nq = tot1 V D nq w m p := cut_sum _ _ nq nq (Nat.le_refl _)
def sp_R_owedBy : SpT := fun as S I L Post => ∃ (p n nq : Nat) (Q : Nat → Nat → Int32), as = [.ref 59, .int (nI p)] ∧ S = S1 ∧ p < n ∧ n ≤ 8 ∧ I 59 12 = nI nq ∧ nq ≤ 8 ∧ RowR I n Q ∧ Post (some (.int (sumQ (Q p) nq))) S1 I L
set_option maxHeartbeats 4000000 in
set_option maxRecDepth 100000 in
theorem c_R_owedBy : Con mR_owedBy 2 0 0 sp_R_owedBy := by
  refine con_of_X rfl fun G as S I L Post hs => ?_
  obtain ⟨p, n, nq, Q, rfl, rfl, hp, hn8, hq, hq8, hr, h1⟩ := hs
  refine ⟨2, Nat.le_of_ble_eq_true rfl, ?_⟩
  show X mR_owedBy G _ S1 I L 0 [.ref 59, .int (nI p), .null, .null] [] Post
  refine x_iconst (v := 0) dR_owedBy_0 rfl ?_
  refine x_istoren_2 dR_owedBy_1 rfl rfl ?_
  refine x_iconst (v := 0) dR_owedBy_2 rfl ?_
  refine x_istoren_3 dR_owedBy_3 rfl rfl ?_
  -- at 4: .iload_n 3
  have loop : ∀ (k i : Nat) (acc : Int32), i + k = nq → acc = sumQ (Q p) i → X mR_owedBy G (2, 0, 0) S1 I L 4 [.ref 59, .int (nI p), .int acc, .int (nI i)] [] Post := by
    intro k
    induction k with
    | zero =>
      intro i acc hi ha
      obtain rfl : i = nq := by omega
      refine x_iload_n dR_owedBy_4 rfl ?_
      refine x_aload_n dR_owedBy_5 rfl ?_
      refine x_getI fl_R_155 rfl dR_owedBy_6 rfl rfl ?_
      -- at 9: .if_icmp .ge 23
      rw [hq]
      refine x_icmp_ge (tgt := 32) dR_owedBy_9 (by decide) (fun _ => ?_) (fun h => absurd (Int32.le_refl _) h)
      refine x_iload_n dR_owedBy_32 rfl ?_
      -- at 33: .ireturn
      refine x_ireturn dR_owedBy_33 rfl rfl ?_
      rw [ha]
      exact h1
    | succ k ih =>
      intro i acc hi ha
      refine x_iload_n dR_owedBy_4 rfl ?_
      refine x_aload_n dR_owedBy_5 rfl ?_
      refine x_getI fl_R_155 rfl dR_owedBy_6 rfl rfl ?_
      -- at 9: .if_icmp .ge 23
      rw [hq]
      refine x_icmp_ge (tgt := 32) dR_owedBy_9 (by decide) (fun h => absurd h (nI_ge (b := nq) (by omega) (by omega))) (fun _ => ?_)
      refine x_iload_n dR_owedBy_12 rfl ?_
      refine x_aload_n dR_owedBy_13 rfl ?_
      refine x_getR fl_R_122 rfl dR_owedBy_14 rfl rfl rfl ?_
      refine x_bipush (v := 8) dR_owedBy_17 rfl ?_
      refine x_iload_n dR_owedBy_19 rfl ?_
      refine x_imul dR_owedBy_20 ?_
      refine x_iload_n dR_owedBy_21 rfl ?_
      refine x_iadd dR_owedBy_22 ?_
      refine x_ialdJ dR_owedBy_23 rfl rfl (r8 p i) (by omega) ?_
      -- at 24: .iadd
      rw [show I 96 (p * 8 + i) = Q p i from hr p hp i (by omega)]
      refine x_iadd dR_owedBy_24 ?_
      refine x_istoren_2 dR_owedBy_25 rfl rfl ?_
      refine x_iincp_3 dR_owedBy_26 rfl rfl ?_
      refine x_goto (tgt := 4) dR_owedBy_29 (by decide) ?_
      -- at 4: .iload_n 3
      rw [nI_1]
      exact ih (i + 1) _ (by omega) (by rw [sumQ, ha])
  exact loop nq 0 0 (by omega) rfl
/-- what pain, done, kept rest on -/
def KpOk (I V : IM) (P : Nat → List Int32) (Q : Nat → Nat → Int32) (n nq : Nat) : Prop := (∃ m, VEq (rV I) V n m) ∧ I 59 3 = nI n ∧ n ≤ 8 ∧ I 59 12 = nI nq ∧ nq ≤ 8 ∧ RowR I n Q ∧ RTx I P
theorem KpOk.fr {I I' V : IM} {P : Nat → List Int32} {Q : Nat → Nat → Int32} {n nq : Nat} (h : KpOk I V P Q n nq) (hF : Fr [94, 95] I I') : KpOk I' V P Q n nq := by
  obtain ⟨⟨m, h1⟩, h2, h3, h4, h5, h6, h7⟩ := h
  refine ⟨⟨m, by rw [rV_fr (hF.wk (by decide))]; exact h1⟩, by rw [hF 59 (by decide)]; exact h2, h3, by rw [hF 59 (by decide)]; exact h4, h5, ?_, h7.fr (hF 59 (by decide)) (hF 79 (by decide)) (hF 80 (by decide))⟩
  unfold RowR
  rw [hF 96 (by decide)]
  exact h6
def TQ (Q : Nat → Nat → Int32) (nq : Nat) : Nat → Int32 := fun p => sumQ (Q p) nq
def sp_R_painOf : SpT := fun as S I L Post => ∃ (p n nq : Nat) (V : IM) (P : Nat → List Int32) (Q : Nat → Nat → Int32), as = [.ref 59, .int (nI p)] ∧ S = S1 ∧ p < n ∧ KpOk I V P Q n nq ∧ ∀ I' : IM, Fr [94, 95] I I' → Post (some (.int (painV V P (TQ Q nq) p))) S1 I' L
set_option maxHeartbeats 4000000 in
set_option maxRecDepth 100000 in
theorem c_R_painOf : Con mR_painOf 4 0 0 sp_R_painOf := by
  refine con_of_X rfl fun G as S I L Post hs => ?_
  obtain ⟨p, n, nq, V, P, Q, rfl, rfl, hp, ⟨⟨m, hV⟩, hn, hn8, hq, hq8, hr, hT⟩, h1⟩ := hs
  refine ⟨0, Nat.le_of_ble_eq_true rfl, ?_⟩
  show X mR_painOf G _ S1 I L 0 [.ref 59, .int (nI p)] [] Post
  have e4 : I 64 p = V 4 p := congrFun (hV.1 4 (by omega) (by omega)) p
  have e7 : I 67 p = V 7 p := congrFun (hV.1 7 (by omega) (by omega)) p
  refine x_aload_n dR_painOf_0 rfl ?_
  refine x_iconst (v := 0) dR_painOf_1 rfl ?_
  refine x_iconst (v := 0) dR_painOf_2 rfl ?_
  refine x_aload_n dR_painOf_3 rfl ?_
  refine x_getR fl_R_26 rfl dR_painOf_4 rfl rfl rfl ?_
  refine x_iload_n dR_painOf_7 rfl ?_
  refine x_ialdJ (j := p) dR_painOf_8 rfl rfl (by first | rfl | (simp only [← nI_add, ← pk_mul]; rfl)) (by omega) ?_
  refine x_aload_n dR_painOf_9 rfl ?_
  refine x_iload_n dR_painOf_10 rfl ?_
  -- at 11: .invokevirtual 298
  refine x_callV_1 c_R_owedBy ok_R_owedBy ml_R_298 dR_painOf_11 rfl rfl rfl rfl rfl ?_
  refine ⟨p, n, nq, Q, rfl, rfl, hp, hn8, hq, hq8, hr, ?_⟩
  refine x_iconst (v := 0) dR_painOf_14 rfl ?_
  refine x_aload_n dR_painOf_15 rfl ?_
  refine x_getR fl_R_35 rfl dR_painOf_16 rfl rfl rfl ?_
  refine x_iload_n dR_painOf_19 rfl ?_
  refine x_ialdJ (j := p) dR_painOf_20 rfl rfl (by first | rfl | (simp only [← nI_add, ← pk_mul]; rfl)) (by omega) ?_
  -- at 21: .invokevirtual 246
  refine x_callV_6 c_R_names ok_R_names ml_R_246 dR_painOf_21 rfl rfl rfl rfl rfl ?_
  refine ⟨_, _, _, _, _, _, rfl, rfl, fun I2 hF2 hn2 => ?_⟩
  refine x_aload_n dR_painOf_24 rfl ?_
  refine x_iconst (v := 2) dR_painOf_25 rfl ?_
  -- at 26: .invokevirtual 250
  refine x_callV_1 c_R_worthOf ok_R_worthOf ml_R_250 dR_painOf_26 rfl rfl rfl rfl rfl ?_
  refine ⟨2, P, rfl, rfl, by omega, hT.fr (hF2 59 (by decide)) (hF2 79 (by decide)) (hF2 80 (by decide)), fun I3 hF3 => ?_⟩
  refine x_iconst (v := 0) dR_painOf_29 rfl ?_
  refine x_sipush (v := 9999) dR_painOf_30 rfl ?_
  -- at 33: .invokestatic 253
  refine x_callS_3 c_R_within ok_R_within ml_R_253 dR_painOf_33 rfl rfl ?_
  refine ⟨_, _, _, rfl, by decide, ?_⟩
  refine x_ireturn dR_painOf_36 rfl rfl ?_
  obtain ⟨t, ht, ht6, htx⟩ := hT
  obtain ⟨a, -, -, -, -, hwf⟩ := htx 2 (by omega)
  have e : bnd (valP (I2 95) (P 2)) 9999 = painV V P (TQ Q nq) p := by
    unfold painV
    congr 1
    refine valP_congr (h := 0) (o := 1) (fun j hj => ?_) hwf
    rw [hn2 j hj, e4, e7]
    rfl
  have := h1 I3 ((hF2.wk (by decide)).tr (hF3.wk (by decide)))
  rw [← e] at this
  exact this
def sp_R_doneOf : SpT := fun as S I L Post => ∃ (q n nq : Nat) (V : IM) (P : Nat → List Int32) (Q : Nat → Nat → Int32), as = [.ref 59, .int (nI q)] ∧ S = S1 ∧ q < 8 ∧ KpOk I V P Q n nq ∧ Post (some (.int (doneV V n Q q))) S1 I L
set_option maxHeartbeats 4000000 in
set_option maxRecDepth 100000 in
theorem c_R_doneOf : Con mR_doneOf 3 0 0 sp_R_doneOf := by
  refine con_of_X rfl fun G as S I L Post hs => ?_
  obtain ⟨q, n, nq, V, P, Q, rfl, rfl, hq, ⟨⟨m, hV⟩, hn, hn8, -, -, hr, -⟩, h1⟩ := hs
  refine ⟨2, Nat.le_of_ble_eq_true rfl, ?_⟩
  show X mR_doneOf G _ S1 I L 0 [.ref 59, .int (nI q), .null, .null] [] Post
  have e11 : I 71 q = V 11 q := congrFun (hV.1 11 (by omega) (by omega)) q
  refine x_iconst (v := 0) dR_doneOf_0 rfl ?_
  refine x_istoren_2 dR_doneOf_1 rfl rfl ?_
  refine x_iconst (v := 0) dR_doneOf_2 rfl ?_
  refine x_istoren_3 dR_doneOf_3 rfl rfl ?_
  -- at 4: .iload_n 3
  have loop : ∀ (k i : Nat) (acc : Int32), i + k = n → acc = doneA V Q q i → X mR_doneOf G (3, 0, 0) S1 I L 4 [.ref 59, .int (nI q), .int acc, .int (nI i)] [] Post := by
    intro k
    induction k with
    | zero =>
      intro i acc hi ha
      obtain rfl : i = n := by omega
      refine x_iload_n dR_doneOf_4 rfl ?_
      refine x_aload_n dR_doneOf_5 rfl ?_
      refine x_getI fl_R_148 rfl dR_doneOf_6 rfl rfl ?_
      -- at 9: .if_icmp .ge 36
      rw [hn]
      refine x_icmp_ge (tgt := 45) dR_doneOf_9 (by decide) (fun _ => ?_) (fun h => absurd (Int32.le_refl _) h)
      refine x_iload_n dR_doneOf_45 rfl ?_
      refine x_aload_n dR_doneOf_46 rfl ?_
      refine x_getR fl_R_47 rfl dR_doneOf_47 rfl rfl rfl ?_
      refine x_iload_n dR_doneOf_50 rfl ?_
      refine x_ialdJ (j := q) dR_doneOf_51 rfl rfl (by first | rfl | (simp only [← nI_add, ← pk_mul]; rfl)) (by omega) ?_
      -- at 52: .if_icmp .ge 7
      rw [e11]
      unfold doneV at h1
      rw [imin_alt, ← ha] at h1
      refine x_icmp_ge (tgt := 59) dR_doneOf_52 (by decide) (fun c1 => ?_) (fun c1 => ?_)
      · refine x_aload_n dR_doneOf_59 rfl ?_
        refine x_getR fl_R_47 rfl dR_doneOf_60 rfl rfl rfl ?_
        refine x_iload_n dR_doneOf_63 rfl ?_
        refine x_ialdJ (j := q) dR_doneOf_64 rfl rfl (by first | rfl | (simp only [← nI_add, ← pk_mul]; rfl)) (by omega) ?_
        -- at 65: .ireturn
        refine x_ireturn dR_doneOf_65 rfl rfl ?_
        rw [e11]
        rw [if_neg (Int32.not_lt.mpr c1)] at h1
        exact h1
      · refine x_iload_n dR_doneOf_55 rfl ?_
        refine x_goto (tgt := 65) dR_doneOf_56 (by decide) ?_
        -- at 65: .ireturn
        refine x_ireturn dR_doneOf_65 rfl rfl ?_
        rw [if_pos (Int32.not_le.mp c1)] at h1
        exact h1
    | succ k ih =>
      intro i acc hi ha
      refine x_iload_n dR_doneOf_4 rfl ?_
      refine x_aload_n dR_doneOf_5 rfl ?_
      refine x_getI fl_R_148 rfl dR_doneOf_6 rfl rfl ?_
      -- at 9: .if_icmp .ge 36
      rw [hn]
      refine x_icmp_ge (tgt := 45) dR_doneOf_9 (by decide) (fun h => absurd h (nI_ge (b := n) (by omega) (by omega))) (fun _ => ?_)
      refine x_iload_n dR_doneOf_12 rfl ?_
      refine x_aload_n dR_doneOf_13 rfl ?_
      refine x_iload_n dR_doneOf_14 rfl ?_
      refine x_iload_n dR_doneOf_15 rfl ?_
      -- at 16: .invokevirtual 283
      refine x_callV_2 c_R_can ok_R_can ml_R_283 dR_doneOf_16 rfl rfl rfl rfl rfl ?_
      refine ⟨i, q, rfl, rfl, by omega, hq, fun g => ?_, fun g => ?_⟩
      · refine x_if_eq (tgt := 36) dR_doneOf_19 (by decide) (fun h => absurd h (by decide)) (fun _ => ?_)
        refine x_aload_n dR_doneOf_22 rfl ?_
        refine x_getR fl_R_122 rfl dR_doneOf_23 rfl rfl rfl ?_
        refine x_bipush (v := 8) dR_doneOf_26 rfl ?_
        refine x_iload_n dR_doneOf_28 rfl ?_
        refine x_imul dR_doneOf_29 ?_
        refine x_iload_n dR_doneOf_30 rfl ?_
        refine x_iadd dR_doneOf_31 ?_
        refine x_ialdJ dR_doneOf_32 rfl rfl (r8 i q) (by omega) ?_
        -- at 33: .goto 4
        rw [show I 96 (i * 8 + q) = Q i q from hr i (by omega) q hq]
        refine x_goto (tgt := 37) dR_doneOf_33 (by decide) ?_
        refine x_iadd dR_doneOf_37 ?_
        refine x_istoren_2 dR_doneOf_38 rfl rfl ?_
        refine x_iincp_3 dR_doneOf_39 rfl rfl ?_
        refine x_goto (tgt := 4) dR_doneOf_42 (by decide) ?_
        -- at 4: .iload_n 3
        rw [nI_1]
        refine ih (i + 1) _ (by omega) ?_
        rw [can_eq hV] at g
        rw [doneA, if_pos g, ha]
      · refine x_if_eq (tgt := 36) dR_doneOf_19 (by decide) (fun _ => ?_) (fun h => absurd (by decide) h)
        refine x_iconst (v := 0) dR_doneOf_36 rfl ?_
        refine x_iadd dR_doneOf_37 ?_
        refine x_istoren_2 dR_doneOf_38 rfl rfl ?_
        refine x_iincp_3 dR_doneOf_39 rfl rfl ?_
        refine x_goto (tgt := 4) dR_doneOf_42 (by decide) ?_
        -- at 4: .iload_n 3
        rw [nI_1]
        refine ih (i + 1) _ (by omega) ?_
        rw [can_eq hV] at g
        rw [doneA, if_neg g, ha, Int32.add_zero]
  exact loop n 0 0 (by omega) rfl
def sp_R_isKept : SpT := fun as S I L Post => ∃ (q n nq : Nat) (V : IM) (P : Nat → List Int32) (Q : Nat → Nat → Int32), as = [.ref 59, .int (nI q)] ∧ S = S1 ∧ q < 8 ∧ KpOk I V P Q n nq ∧ bPost (keepsV V n Q q = true) S1 I L Post
set_option maxHeartbeats 4000000 in
set_option maxRecDepth 100000 in
theorem c_R_isKept : Con mR_isKept 4 0 0 sp_R_isKept := by
  refine con_of_X rfl fun G as S I L Post hs => ?_
  obtain ⟨q, n, nq, V, P, Q, rfl, rfl, hq, hk, h1, h2⟩ := hs
  refine ⟨0, Nat.le_of_ble_eq_true rfl, ?_⟩
  show X mR_isKept G _ S1 I L 0 [.ref 59, .int (nI q)] [] Post
  have e11 : I 71 q = V 11 q := by
    obtain ⟨⟨m, hV⟩, -⟩ := hk
    exact congrFun (hV.1 11 (by omega) (by omega)) q
  refine x_aload_n dR_isKept_0 rfl ?_
  refine x_iload_n dR_isKept_1 rfl ?_
  -- at 2: .invokevirtual 304
  refine x_callV_1 c_R_doneOf ok_R_doneOf ml_R_304 dR_isKept_2 rfl rfl rfl rfl rfl ?_
  refine ⟨q, n, nq, V, P, Q, rfl, rfl, hq, hk, ?_⟩
  refine x_aload_n dR_isKept_5 rfl ?_
  refine x_getR fl_R_47 rfl dR_isKept_6 rfl rfl rfl ?_
  refine x_iload_n dR_isKept_9 rfl ?_
  refine x_ialdJ (j := q) dR_isKept_10 rfl rfl (by first | rfl | (simp only [← nI_add, ← pk_mul]; rfl)) (by omega) ?_
  -- at 11: .if_icmp .ne 7
  rw [e11]
  refine x_icmp_ne (tgt := 18) dR_isKept_11 (by decide) (fun c1 => ?_) (fun c1 => ?_)
  · refine x_iconst (v := 0) dR_isKept_18 rfl ?_
    -- at 19: .ireturn
    refine x_ireturn dR_isKept_19 rfl rfl ?_
    exact h2 (fun z => c1 (of_decide_eq_true z))
  · refine x_iconst (v := 1) dR_isKept_14 rfl ?_
    refine x_goto (tgt := 19) dR_isKept_15 (by decide) ?_
    -- at 19: .ireturn
    refine x_ireturn dR_isKept_19 rfl rfl ?_
    exact h1 (decide_eq_true c1)
def sp_R_keptNow : SpT := fun as S I L Post => ∃ (n nq : Nat) (V : IM) (P : Nat → List Int32) (Q : Nat → Nat → Int32), as = [.ref 59] ∧ S = S1 ∧ KpOk I V P Q n nq ∧ Post (some (.int (keptV V n nq Q))) S1 I L
set_option maxHeartbeats 4000000 in
set_option maxRecDepth 100000 in
theorem c_R_keptNow : Con mR_keptNow 5 0 0 sp_R_keptNow := by
  refine con_of_X rfl fun G as S I L Post hs => ?_
  obtain ⟨n, nq, V, P, Q, rfl, rfl, hk, h1⟩ := hs
  have hq8 := hk.2.2.2.2.1
  have hq := hk.2.2.2.1
  refine ⟨2, Nat.le_of_ble_eq_true rfl, ?_⟩
  show X mR_keptNow G _ S1 I L 0 [.ref 59, .null, .null] [] Post
  refine x_iconst (v := 0) dR_keptNow_0 rfl ?_
  refine x_istoren_1 dR_keptNow_1 rfl rfl ?_
  refine x_iconst (v := 0) dR_keptNow_2 rfl ?_
  refine x_istoren_2 dR_keptNow_3 rfl rfl ?_
  -- at 4: .iload_n 2
  have loop : ∀ (k i : Nat) (acc : Int32), i + k = nq → acc = bs i (keepsV V n Q) → X mR_keptNow G (5, 0, 0) S1 I L 4 [.ref 59, .int acc, .int (nI i)] [] Post := by
    intro k
    induction k with
    | zero =>
      intro i acc hi ha
      obtain rfl : i = nq := by omega
      refine x_iload_n dR_keptNow_4 rfl ?_
      refine x_aload_n dR_keptNow_5 rfl ?_
      refine x_getI fl_R_155 rfl dR_keptNow_6 rfl rfl ?_
      -- at 9: .if_icmp .ge 27
      rw [hq]
      refine x_icmp_ge (tgt := 36) dR_keptNow_9 (by decide) (fun _ => ?_) (fun h => absurd (Int32.le_refl _) h)
      refine x_iload_n dR_keptNow_36 rfl ?_
      -- at 37: .ireturn
      refine x_ireturn dR_keptNow_37 rfl rfl ?_
      rw [ha]
      exact h1
    | succ k ih =>
      intro i acc hi ha
      refine x_iload_n dR_keptNow_4 rfl ?_
      refine x_aload_n dR_keptNow_5 rfl ?_
      refine x_getI fl_R_155 rfl dR_keptNow_6 rfl rfl ?_
      -- at 9: .if_icmp .ge 27
      rw [hq]
      refine x_icmp_ge (tgt := 36) dR_keptNow_9 (by decide) (fun h => absurd h (nI_ge (b := nq) (by omega) (by omega))) (fun _ => ?_)
      refine x_iload_n dR_keptNow_12 rfl ?_
      refine x_aload_n dR_keptNow_13 rfl ?_
      refine x_iload_n dR_keptNow_14 rfl ?_
      -- at 15: .invokevirtual 307
      refine x_callV_1 c_R_isKept ok_R_isKept ml_R_307 dR_keptNow_15 rfl rfl rfl rfl rfl ?_
      refine ⟨i, n, nq, V, P, Q, rfl, rfl, by omega, hk, fun z => ?_, fun z => ?_⟩
      · refine x_if_eq (tgt := 27) dR_keptNow_18 (by decide) (fun h => absurd h (by decide)) (fun _ => ?_)
        refine x_iconst (v := 1) dR_keptNow_21 rfl ?_
        refine x_iload_n dR_keptNow_22 rfl ?_
        refine x_ishl dR_keptNow_23 ?_
        refine x_goto (tgt := 28) dR_keptNow_24 (by decide) ?_
        refine x_ior dR_keptNow_28 ?_
        refine x_istoren_1 dR_keptNow_29 rfl rfl ?_
        refine x_iincp_2 dR_keptNow_30 rfl rfl ?_
        refine x_goto (tgt := 4) dR_keptNow_33 (by decide) ?_
        -- at 4: .iload_n 2
        rw [nI_1]
        refine ih (i + 1) _ (by omega) ?_
        rw [bs, if_pos z, ha]
        rfl
      · refine x_if_eq (tgt := 27) dR_keptNow_18 (by decide) (fun _ => ?_) (fun h => absurd (by decide) h)
        refine x_iconst (v := 0) dR_keptNow_27 rfl ?_
        refine x_ior dR_keptNow_28 ?_
        -- at 29: .istore_n 1
        refine x_eqi (y := acc) (by simp) ?_
        refine x_istoren_1 dR_keptNow_29 rfl rfl ?_
        refine x_iincp_2 dR_keptNow_30 rfl rfl ?_
        refine x_goto (tgt := 4) dR_keptNow_33 (by decide) ?_
        -- at 4: .iload_n 2
        rw [nI_1]
        refine ih (i + 1) _ (by omega) ?_
        rw [bs, if_neg z, ha]
  exact loop nq 0 0 (by omega) rfl
def sp_R_worthNow : SpT := fun as S I L Post => ∃ (n nq : Nat) (V : IM) (P : Nat → List Int32) (Q : Nat → Nat → Int32), as = [.ref 59] ∧ S = S1 ∧ KpOk I V P Q n nq ∧ Post (some (.int (worthV V n Q nq))) S1 I L
set_option maxHeartbeats 4000000 in
set_option maxRecDepth 100000 in
theorem c_R_worthNow : Con mR_worthNow 5 0 0 sp_R_worthNow := by
  refine con_of_X rfl fun G as S I L Post hs => ?_
  obtain ⟨n, nq, V, P, Q, rfl, rfl, hk, h1⟩ := hs
  have hq8 := hk.2.2.2.2.1
  have hq := hk.2.2.2.1
  have e12 : I 72 = V 12 := by
    obtain ⟨⟨m, hV⟩, -⟩ := hk
    exact hV.1 12 (by omega) (by omega)
  refine ⟨2, Nat.le_of_ble_eq_true rfl, ?_⟩
  show X mR_worthNow G _ S1 I L 0 [.ref 59, .null, .null] [] Post
  refine x_iconst (v := 0) dR_worthNow_0 rfl ?_
  refine x_istoren_1 dR_worthNow_1 rfl rfl ?_
  refine x_iconst (v := 0) dR_worthNow_2 rfl ?_
  refine x_istoren_2 dR_worthNow_3 rfl rfl ?_
  -- at 4: .iload_n 2
  have loop : ∀ (k i : Nat) (acc : Int32), i + k = nq → acc = worthV V n Q i → X mR_worthNow G (5, 0, 0) S1 I L 4 [.ref 59, .int acc, .int (nI i)] [] Post := by
    intro k
    induction k with
    | zero =>
      intro i acc hi ha
      obtain rfl : i = nq := by omega
      refine x_iload_n dR_worthNow_4 rfl ?_
      refine x_aload_n dR_worthNow_5 rfl ?_
      refine x_getI fl_R_155 rfl dR_worthNow_6 rfl rfl ?_
      -- at 9: .if_icmp .ge 30
      rw [hq]
      refine x_icmp_ge (tgt := 39) dR_worthNow_9 (by decide) (fun _ => ?_) (fun h => absurd (Int32.le_refl _) h)
      refine x_iload_n dR_worthNow_39 rfl ?_
      -- at 40: .ireturn
      refine x_ireturn dR_worthNow_40 rfl rfl ?_
      rw [ha]
      exact h1
    | succ k ih =>
      intro i acc hi ha
      refine x_iload_n dR_worthNow_4 rfl ?_
      refine x_aload_n dR_worthNow_5 rfl ?_
      refine x_getI fl_R_155 rfl dR_worthNow_6 rfl rfl ?_
      -- at 9: .if_icmp .ge 30
      rw [hq]
      refine x_icmp_ge (tgt := 39) dR_worthNow_9 (by decide) (fun h => absurd h (nI_ge (b := nq) (by omega) (by omega))) (fun _ => ?_)
      refine x_iload_n dR_worthNow_12 rfl ?_
      refine x_aload_n dR_worthNow_13 rfl ?_
      refine x_iload_n dR_worthNow_14 rfl ?_
      -- at 15: .invokevirtual 307
      refine x_callV_1 c_R_isKept ok_R_isKept ml_R_307 dR_worthNow_15 rfl rfl rfl rfl rfl ?_
      refine ⟨i, n, nq, V, P, Q, rfl, rfl, by omega, hk, fun z => ?_, fun z => ?_⟩
      · refine x_if_eq (tgt := 30) dR_worthNow_18 (by decide) (fun h => absurd h (by decide)) (fun _ => ?_)
        refine x_aload_n dR_worthNow_21 rfl ?_
        refine x_getR fl_R_50 rfl dR_worthNow_22 rfl rfl rfl ?_
        refine x_iload_n dR_worthNow_25 rfl ?_
        refine x_ialdJ (j := i) dR_worthNow_26 rfl rfl (by first | rfl | (simp only [← nI_add, ← pk_mul]; rfl)) (by omega) ?_
        -- at 27: .goto 4
        rw [e12]
        refine x_goto (tgt := 31) dR_worthNow_27 (by decide) ?_
        refine x_iadd dR_worthNow_31 ?_
        refine x_istoren_1 dR_worthNow_32 rfl rfl ?_
        refine x_iincp_2 dR_worthNow_33 rfl rfl ?_
        refine x_goto (tgt := 4) dR_worthNow_36 (by decide) ?_
        -- at 4: .iload_n 2
        rw [nI_1]
        refine ih (i + 1) _ (by omega) ?_
        rw [worthV, if_pos z, ha]
      · refine x_if_eq (tgt := 30) dR_worthNow_18 (by decide) (fun _ => ?_) (fun h => absurd (by decide) h)
        refine x_iconst (v := 0) dR_worthNow_30 rfl ?_
        refine x_iadd dR_worthNow_31 ?_
        refine x_istoren_1 dR_worthNow_32 rfl rfl ?_
        refine x_iincp_2 dR_worthNow_33 rfl rfl ?_
        refine x_goto (tgt := 4) dR_worthNow_36 (by decide) ?_
        -- at 4: .iload_n 2
        rw [nI_1]
        refine ih (i + 1) _ (by omega) ?_
        rw [worthV, if_neg z, ha, Int32.add_zero]
  exact loop nq 0 0 (by omega) rfl
def sp_R_painNow : SpT := fun as S I L Post => ∃ (n nq : Nat) (V : IM) (P : Nat → List Int32) (Q : Nat → Nat → Int32), as = [.ref 59] ∧ S = S1 ∧ KpOk I V P Q n nq ∧ ∀ I' : IM, Fr [94, 95] I I' → Post (some (.int (painA V P (TQ Q nq) n))) S1 I' L
set_option maxHeartbeats 4000000 in
set_option maxRecDepth 100000 in
theorem c_R_painNow : Con mR_painNow 5 0 0 sp_R_painNow := by
  refine con_of_X rfl fun G as S I L Post hs => ?_
  obtain ⟨n, nq, V, P, Q, rfl, rfl, hk, h1⟩ := hs
  refine ⟨2, Nat.le_of_ble_eq_true rfl, ?_⟩
  show X mR_painNow G _ S1 I L 0 [.ref 59, .null, .null] [] Post
  refine x_iconst (v := 0) dR_painNow_0 rfl ?_
  refine x_istoren_1 dR_painNow_1 rfl rfl ?_
  refine x_iconst (v := 0) dR_painNow_2 rfl ?_
  refine x_istoren_2 dR_painNow_3 rfl rfl ?_
  -- at 4: .iload_n 2
  have loop : ∀ (k i : Nat) (acc : Int32) (I' : IM), i + k = n → acc = painA V P (TQ Q nq) i → Fr [94, 95] I I' → X mR_painNow G (5, 0, 0) S1 I' L 4 [.ref 59, .int acc, .int (nI i)] [] Post := by
    intro k
    induction k with
    | zero =>
      intro i acc I' hi ha hF
      obtain rfl : i = n := by omega
      refine x_iload_n dR_painNow_4 rfl ?_
      refine x_aload_n dR_painNow_5 rfl ?_
      refine x_getI fl_R_148 rfl dR_painNow_6 rfl rfl ?_
      -- at 9: .if_icmp .ge 17
      rw [hF 59 (by decide), hk.2.1]
      refine x_icmp_ge (tgt := 26) dR_painNow_9 (by decide) (fun _ => ?_) (fun h => absurd (Int32.le_refl _) h)
      refine x_iload_n dR_painNow_26 rfl ?_
      -- at 27: .ireturn
      refine x_ireturn dR_painNow_27 rfl rfl ?_
      rw [ha]
      exact h1 I' hF
    | succ k ih =>
      intro i acc I' hi ha hF
      have hn8 := hk.2.2.1
      refine x_iload_n dR_painNow_4 rfl ?_
      refine x_aload_n dR_painNow_5 rfl ?_
      refine x_getI fl_R_148 rfl dR_painNow_6 rfl rfl ?_
      -- at 9: .if_icmp .ge 17
      rw [hF 59 (by decide), hk.2.1]
      refine x_icmp_ge (tgt := 26) dR_painNow_9 (by decide) (fun h => absurd h (nI_ge (b := n) (by omega) (by omega))) (fun _ => ?_)
      refine x_iload_n dR_painNow_12 rfl ?_
      refine x_aload_n dR_painNow_13 rfl ?_
      refine x_iload_n dR_painNow_14 rfl ?_
      -- at 15: .invokevirtual 301
      refine x_callV_1 c_R_painOf ok_R_painOf ml_R_301 dR_painNow_15 rfl rfl rfl rfl rfl ?_
      refine ⟨i, n, nq, V, P, Q, rfl, rfl, by omega, hk.fr hF, fun I2 hF2 => ?_⟩
      refine x_iadd dR_painNow_18 ?_
      refine x_istoren_1 dR_painNow_19 rfl rfl ?_
      refine x_iincp_2 dR_painNow_20 rfl rfl ?_
      refine x_goto (tgt := 4) dR_painNow_23 (by decide) ?_
      -- at 4: .iload_n 2
      rw [nI_1]
      exact ih (i + 1) _ I2 (by omega) (by rw [painA, ha]) (hF.tr hF2)
  exact loop n 0 0 I (by omega) rfl Fr.rfl
/-! from the state to what the reckoning rests on -/
theorem rTxt {I : IM} (h : Inv (rE I)) {t : Nat} (ht : t < tN (rE I)) : TxtR I (prog (rE I) t) t := by
  obtain ⟨h1, h2, h3, h4⟩ := h.d
  obtain ⟨a1, a2, b0, b1, b2, a3, a4⟩ := h4 t ht
  have st : ∀ j, j < 4 → rE I 30 (4 * t + j) = I 80 (4 * t + j) := fun j hj => by
    have htt : t < cl (I 59 26) := ht
    exact mk_lt (by omega)
  refine ⟨by omega, fun j hj => ⟨sA (rE I) t j, ?_, ?_, ?_, ?_, a4 j hj⟩⟩
  · rw [← st j (by omega), a1 j (by omega)]
  · rw [Nat.add_assoc, ← st (j + 1) (by omega), a1 (j + 1) (by omega)]
    have hle : sA (rE I) t j ≤ sA (rE I) t (j + 1) := by
      rcases (show j = 0 ∨ j = 1 ∨ j = 2 by omega) with rfl | rfl | rfl
      · exact b0
      · exact b1
      · exact b2
    congr 1
    simp [prog, seg]
    omega
  · have hle : sA (rE I) t (j + 1) ≤ 160 := by
      rcases (show j = 0 ∨ j = 1 ∨ j = 2 by omega) with rfl | rfl | rfl
      · exact Nat.le_trans b1 (Nat.le_trans b2 a3)
      · exact Nat.le_trans b2 a3
      · exact a3
    have hle2 : sA (rE I) t j ≤ sA (rE I) t (j + 1) := by
      rcases (show j = 0 ∨ j = 1 ∨ j = 2 by omega) with rfl | rfl | rfl
      · exact b0
      · exact b1
      · exact b2
    simp [prog, seg]
    omega
  · intro i hi
    have hi2 : i < sA (rE I) t (j + 1) - sA (rE I) t j := by simpa [prog, seg] using hi
    have hle : sA (rE I) t (j + 1) ≤ sA (rE I) t 3 := by
      rcases (show j = 0 ∨ j = 1 ∨ j = 2 by omega) with rfl | rfl | rfl
      · exact Nat.le_trans b1 b2
      · exact b2
      · exact Nat.le_refl _
    have e1 : (prog (rE I) t j).getD i 0 = rE I 31 (200 * t + (sA (rE I) t j + i)) := by
      simp [prog, seg, List.getD_eq_getElem?_getD, hi2]
    rw [e1]
    have d1 : (200 * t + (sA (rE I) t j + i)) / 200 = t := by omega
    have d2 : (200 * t + (sA (rE I) t j + i)) % 200 = sA (rE I) t j + i := by omega
    have e3 : cl (I 80 (4 * t + 3)) = sA (rE I) t 3 := by
      rw [← st 3 (by omega)]
      rfl
    show _ = if (200 * t + (sA (rE I) t j + i)) / 200 < cl (I 59 26) ∧ (200 * t + (sA (rE I) t j + i)) % 200 < cl (I 80 (4 * ((200 * t + (sA (rE I) t j + i)) / 200) + 3)) then I 79 (200 * t + (sA (rE I) t j + i)) else 0
    rw [d1, d2, e3, if_pos ⟨ht, by omega⟩]
theorem rRTx {I : IM} (h : Inv (rE I)) : RTx I (PE (rE I)) := ⟨wN (rE I), h.f.1, rTxt h h.f.2⟩
theorem rRk {I : IM} (h : Inv (rE I)) : RkOk I (PE (rE I)) (pN (rE I)) (sN (rE I)) :=
  ⟨h.a.1, h.a.2.1, Nat.le_trans h.c.2.1 (by omega), fun _ hp => perV_of h.a rfl (rVE I) hp, fun _ hs => sayV_of h.b.2.1 h.c rfl (rVE I) hs, rRTx h⟩
theorem rOw {I : IM} (h : Inv (rE I)) (m : Nat) : OwOk I (pN (rE I)) m (qN (rE I)) := by
  refine ⟨h.b.1, h.b.2.1, fun j hj => (h.b.2.2 j hj).2.2.2, fun p hp => (h.a.2.2 p hp).2.2.2.2.2.2.1⟩
theorem rowesR_eq {V E : IM} {n m : Nat} (h : VEq V E n m) {D D' : Nat → Nat → Int32} {nq : Nat} {w : Int32} {k : Nat} (hk : k ≤ m) (hD : ∀ p, p < n → ∀ s, s < k → D p s = D' p s) {I' : IM} (ho : OwesR V D n nq w k I') : OwesR E D' n nq w k I' := by
  have e1 : ∀ p, p < n → str1 V (D p) nq w k = str1 E (D' p) nq w k := fun p hp => by
    unfold str1
    rw [maxR_eq h (D' := D' p) k hk (hD p hp), strR_eq h]
  have e2 : ∀ p, p < n → fin1 V (D p) nq w k p = fin1 E (D' p) nq w k p := fun p hp => by
    unfold fin1
    rw [maxR_eq h (D' := D' p) k hk (hD p hp), strR_eq h, h.1 8 (by omega) (by omega)]
  refine ⟨fun p hp q hq => ?_, fun p hp => ?_⟩
  · rw [ho.1 p hp q hq]
    dsimp only
    rw [e2 p hp]
  · rw [← e1 p hp, ← e2 p hp]
    exact ho.2 p hp
/-- what is owed, of rows V -/
abbrev OwesV (V : IM) (P : Nat → List Int32) (n nq : Nat) (w : Int32) (m : Nat) (I' : IM) : Prop := OwesR V (DD V P (CC V P n)) n nq w m I'
def QV (V : IM) (P : Nat → List Int32) (n nq : Nat) (w : Int32) (m : Nat) : Nat → Nat → Int32 := fun p => (fin1 V (DD V P (CC V P n) p) nq w m p).1
theorem QV_tot (V : IM) (P : Nat → List Int32) (n nq : Nat) (w : Int32) (m p : Nat) : TQ (QV V P n nq w m) nq p = tot1 V (DD V P (CC V P n) p) nq w m p := tot_sum _ _ _ _ _ _
def sp_R_owesE : SpT := fun as S I L Post => ∃ (m n nq : Nat) (w : Int32) (P : Nat → List Int32) (V : IM), as = [.ref 59, .int (nI m)] ∧ S = S1 ∧ RkOk I P n m ∧ OwOk I n m nq ∧ I 59 60 = w ∧ I 59 55 = 0 ∧ VEq (rV I) V n m ∧
  ∀ (I' : IM) (L' : LM), Fr [94, 95, 96, 97, 98] I I' → OwesV V P n nq w m I' → KpOk I' V P (QV V P n nq w m) n nq → Post none S1 I' L'
theorem cE_R_owes : Con mR_owes 8 0 0 sp_R_owesE := c_R_owes.imp fun as S I L Post hs => by
  obtain ⟨m, n, nq, w, P, V, rfl, rfl, hR, hW, hw, hd, hV, h1⟩ := hs
  refine ⟨m, n, nq, w, P, CC (rV I) P n, rfl, rfl, hR, hW, hw, Or.inr hd, Or.inl ⟨hd, rfl⟩, fun I' L' hF ho => ?_⟩
  have ho2 := rowesR_eq (D' := DD V P (CC V P n)) hV (Nat.le_refl m) (fun p hp s hs => by unfold DD; rw [share_eq hV _ hs, CC_eq hV _ hs]) ho
  exact h1 I' L' hF ho2 ⟨⟨m, by rw [rV_fr (hF.wk (by decide))]; exact hV⟩, by rw [hF 59 (by decide)]; exact hR.1, hR.2.1, by rw [hF 59 (by decide)]; exact hW.1, hW.2.1, ho2.1, hR.2.2.2.2.2.fr (hF 59 (by decide)) (hF 79 (by decide)) (hF 80 (by decide))⟩
end
section
-- 70.ra
/-! the reference's calls: who hears, owes, what is kept -/
theorem rE_59 {I : IM} {j : Nat} {x : Int32} (hj : j ∉ [2, 3, 12, 17, 23, 26, 27, 28, 29, 30, 31, 32]) : rE (up2 I 59 j x) = rE I := by
  have e : ∀ k, k ∈ [2, 3, 12, 17, 23, 26, 27, 28, 29, 30, 31, 32] → up2 I 59 j x 59 k = I 59 k := fun k hk => by
    rw [up2_s, up1_n]
    rintro rfl
    exact hj hk
  have f : ∀ k, k ≠ 59 → up2 I 59 j x k = I k := fun k hk => up2_n _ _ _ hk
  have e29 : rSc (up2 I 59 j x) = rSc I := by
    funext i
    unfold rSc
    rw [e 28 (by decide)]
    split <;> first | exact e _ (by decide) | rfl | (rw [e 29 (by decide)])
  funext a
  unfold rE
  rw [e29, e 3 (by decide), e 17 (by decide), e 23 (by decide), e 26 (by decide), e 28 (by decide), e 30 (by decide), e 31 (by decide), f 60 (by decide), f 61 (by decide), f 62 (by decide), f 63 (by decide), f 64 (by decide), f 65 (by decide), f 66 (by decide), f 67 (by decide), f 68 (by decide), f 69 (by decide), f 70 (by decide), f 71 (by decide), f 72 (by decide), f 73 (by decide), f 74 (by decide), f 75 (by decide), f 76 (by decide), f 77 (by decide), f 78 (by decide), f 79 (by decide), f 80 (by decide), f 81 (by decide), f 82 (by decide), f 83 (by decide), f 84 (by decide), f 85 (by decide), f 86 (by decide), f 87 (by decide), f 88 (by decide), f 89 (by decide), f 90 (by decide)]
theorem rV_59 {I : IM} {j : Nat} {x : Int32} : rV (up2 I 59 j x) = rV I := by
  have f : ∀ k, k ≠ 59 → up2 I 59 j x k = I k := fun k hk => up2_n _ _ _ hk
  funext a
  unfold rV
  rw [f 60 (by decide), f 61 (by decide), f 62 (by decide), f 63 (by decide), f 64 (by decide), f 65 (by decide), f 66 (by decide), f 67 (by decide), f 68 (by decide), f 69 (by decide), f 70 (by decide), f 71 (by decide), f 72 (by decide), f 73 (by decide), f 74 (by decide), f 75 (by decide), f 76 (by decide), f 77 (by decide)]
/-- the reference's state is the same -/
def rSame (I I' : IM) : Prop := (∀ k, k < 59 → I' k = I k) ∧ rE I' = rE I ∧ rOwn I'
theorem rSame.refl {I : IM} (h : rOwn I) : rSame I I := ⟨fun _ _ => rfl, rfl, h⟩
theorem rSame.fr {I I' I'' : IM} (h : rSame I I') (hF : Fr [93, 94, 95, 96, 97, 98, 99] I' I'') : rSame I I'' :=
  ⟨fun k hk => by rw [hF k (by simp; omega)]; exact h.1 k hk, by rw [rE_fr hF]; exact h.2.1, h.2.2.fr hF⟩
theorem rSame.tr {I I' I'' : IM} (h : rSame I I') (h2 : rSame I' I'') : rSame I I'' :=
  ⟨fun k hk => (h2.1 k hk).trans (h.1 k hk), h2.2.1.trans h.2.1, h2.2.2⟩
theorem rSame.inv {I I' : IM} (h : rSame I I') (h1 : Inv (rE I)) : Inv (rE I') := by rw [h.2.1]; exact h1
/-- a call that answers alone -/
theorem r_end {I : IM} {v : Option Value} {Post : PostT} (h1 : ∀ (I' : IM) (L' : LM), (∀ k, k < 59 → I' k = I k) → rOwn I' → rE I' = rE I → Post v S1 I' L') : ∀ ⦃I' : IM⦄ ⦃L' : LM⦄, rSame I I' → Post v S1 I' L' := fun I' L' h => h1 I' L' h.1 h.2.2 h.2.1
def sp_R_hears : SpT := fun as S I L Post => ∃ s p : Int32, rSp [.int s, .int p] (fun E => .int (hearsS E s p)) (fun E => E) as S I L Post
set_option maxHeartbeats 4000000 in
set_option maxRecDepth 100000 in
theorem c_R_hears : Con mR_hears 5 0 0 sp_R_hears := by
  refine con_of_X rfl fun G as S I L Post hs => ?_
  obtain ⟨s, p, rfl, rfl, ⟨hok, own⟩, h1⟩ := hs
  dsimp only at h1
  have h1 := r_end h1
  refine ⟨0, Nat.le_of_ble_eq_true rfl, ?_⟩
  show X mR_hears G _ S1 I L 0 [.ref 59, .int s, .int p] [] Post
  have bad : (¬ inR s 0 (rE I 29 3 - 1) ∨ ¬ inR p 0 (rE I 29 1 - 1)) → X mR_hears G (5, 0, 0) S1 I L 25 [.ref 59, .int s, .int p] [] Post := by
    intro hc
    rw [hearsS, if_pos hc] at h1
    refine x_bipush (v := -5) dR_hears_25 rfl ?_
    -- at 27: .ireturn
    refine x_ireturn dR_hears_27 rfl rfl ?_
    exact h1 (rSame.refl own)
  refine x_aload_n dR_hears_0 rfl ?_
  refine x_iload_n dR_hears_1 rfl ?_
  -- at 2: .invokevirtual 243
  refine x_callV_1 c_R_isSaying ok_R_isSaying ml_R_243 dR_hears_2 rfl rfl rfl rfl rfl ?_
  refine ⟨_, rfl, rfl, fun a1 => ?_, fun a1 => ?_⟩
  · refine x_if_eq (tgt := 25) dR_hears_5 (by decide) (fun h => absurd h (by decide)) (fun _ => ?_)
    refine x_aload_n dR_hears_8 rfl ?_
    refine x_iload_n dR_hears_9 rfl ?_
    -- at 10: .invokevirtual 230
    refine x_callV_1 c_R_isOne ok_R_isOne ml_R_230 dR_hears_10 rfl rfl rfl rfl rfl ?_
    refine ⟨_, rfl, rfl, fun a2 => ?_, fun a2 => ?_⟩
    · refine x_if_eq (tgt := 25) dR_hears_13 (by decide) (fun h => absurd h (by decide)) (fun _ => ?_)
      have a1 : inR s 0 (rE I 29 3 - 1) := a1
      have a2 : inR p 0 (rE I 29 1 - 1) := a2
      rw [hearsS, if_neg (fun z => z.elim (fun y => y a1) (fun y => y a2))] at h1
      rw [show rE I 29 3 = nI (sN (rE I)) from hok.c.1] at a1
      rw [show rE I 29 1 = nI (pN (rE I)) from hok.a.1] at a2
      have n1 := hok.c.2.1
      have n2 := hok.a.2.1
      obtain ⟨i, hi, rfl⟩ := has_nat (by omega) a1
      obtain ⟨j, hj, rfl⟩ := has_nat (by omega) a2
      rw [cl_nI (by omega), cl_nI (by omega)] at h1
      obtain ⟨k1, k2, k3, k4, k5, k6⟩ := rRk hok
      refine x_aload_n dR_hears_16 rfl ?_
      refine x_iload_n dR_hears_17 rfl ?_
      refine x_iload_n dR_hears_18 rfl ?_
      -- at 19: .invokevirtual 256
      refine x_callV_2 c_R_hearsOf ok_R_hearsOf ml_R_256 dR_hears_19 rfl rfl rfl rfl rfl ?_
      refine ⟨i, j, PE (rE I), rfl, rfl, by omega, by omega, k5 i hi, k4 j hj, k6, fun I' hF => ?_⟩
      refine x_goto (tgt := 27) dR_hears_22 (by decide) ?_
      -- at 27: .ireturn
      refine x_ireturn dR_hears_27 rfl rfl ?_
      rw [hear_eq (rVE I) _ hi hj]
      exact h1 ((rSame.refl own).fr (hF.wk (by decide)))
    · refine x_if_eq (tgt := 25) dR_hears_13 (by decide) (fun _ => ?_) (fun h => absurd (by decide) h)
      exact bad (Or.inr a2)
  · refine x_if_eq (tgt := 25) dR_hears_5 (by decide) (fun _ => ?_) (fun h => absurd (by decide) h)
    exact bad (Or.inl a1)
theorem rCC {I : IM} {s : Nat} (hs : s < sN (rE I)) : CC (rV I) (PE (rE I)) (pN (rE I)) s = CE (rE I) (wN (rE I)) s := CC_eq (rVE I) _ hs
def sp_R_clearE : SpT := fun as S I L Post => ∃ s : Nat, as = [.ref 59, .int (nI s)] ∧ S = S1 ∧ rOk I ∧ s < sN (rE I) ∧ ∀ (I' : IM) (L' : LM), Fr [94, 95] I I' → Post (some (.int (CE (rE I) (wN (rE I)) s))) S1 I' L'
theorem cE_R_clear : Con mR_clearTo 6 0 0 sp_R_clearE := c_R_clearTo.imp fun as S I L Post hs => by
  obtain ⟨s, rfl, rfl, ⟨hok, own⟩, hs, h1⟩ := hs
  obtain ⟨k1, k2, k3, k4, k5, k6⟩ := rRk hok
  refine ⟨s, pN (rE I), PE (rE I), _, rfl, rfl, by omega, ⟨k1, k2, by omega, k4, fun s hs => absurd hs (Nat.not_lt_zero s), k6⟩, k5 s hs, Or.inl ⟨own.1, rfl⟩, fun I' L' hF _ => ?_⟩
  rw [rCC hs]
  exact h1 I' L' hF
def sp_R_heard : SpT := fun as S I L Post => ∃ s : Int32, rSp [.int s] (fun E => .int (heardS E s)) (fun E => E) as S I L Post
set_option maxHeartbeats 4000000 in
set_option maxRecDepth 100000 in
theorem c_R_heard : Con mR_heard 7 0 0 sp_R_heard := by
  refine con_of_X rfl fun G as S I L Post hs => ?_
  obtain ⟨s, rfl, rfl, ⟨hok, own⟩, h1⟩ := hs
  dsimp only at h1
  have h1 := r_end h1
  refine ⟨0, Nat.le_of_ble_eq_true rfl, ?_⟩
  show X mR_heard G _ S1 I L 0 [.ref 59, .int s] [] Post
  refine x_aload_n dR_heard_0 rfl ?_
  refine x_iload_n dR_heard_1 rfl ?_
  -- at 2: .invokevirtual 243
  refine x_callV_1 c_R_isSaying ok_R_isSaying ml_R_243 dR_heard_2 rfl rfl rfl rfl rfl ?_
  refine ⟨_, rfl, rfl, fun a1 => ?_, fun a1 => ?_⟩
  · refine x_if_eq (tgt := 16) dR_heard_5 (by decide) (fun h => absurd h (by decide)) (fun _ => ?_)
    have a1 : inR s 0 (rE I 29 3 - 1) := a1
    rw [heardS, if_neg (not_not_intro a1)] at h1
    rw [show rE I 29 3 = nI (sN (rE I)) from hok.c.1] at a1
    have n1 := hok.c.2.1
    obtain ⟨i, hi, rfl⟩ := has_nat (by omega) a1
    rw [cl_nI (by omega)] at h1
    refine x_aload_n dR_heard_8 rfl ?_
    refine x_iload_n dR_heard_9 rfl ?_
    -- at 10: .invokevirtual 277
    refine x_callV_1 cE_R_clear ok_R_clearTo ml_R_277 dR_heard_10 rfl rfl rfl rfl rfl ?_
    refine ⟨i, rfl, rfl, ⟨hok, own⟩, hi, fun I' L' hF => ?_⟩
    refine x_goto (tgt := 18) dR_heard_13 (by decide) ?_
    -- at 18: .ireturn
    refine x_ireturn dR_heard_18 rfl rfl ?_
    exact h1 ((rSame.refl own).fr (hF.wk (by decide)))
  · have a1 : ¬ inR s 0 (rE I 29 3 - 1) := a1
    refine x_if_eq (tgt := 16) dR_heard_5 (by decide) (fun _ => ?_) (fun h => absurd (by decide) h)
    rw [heardS, if_pos a1] at h1
    refine x_bipush (v := -5) dR_heard_16 rfl ?_
    -- at 18: .ireturn
    refine x_ireturn dR_heard_18 rfl rfl ?_
    exact h1 (rSame.refl own)
def sp_R_nobody : SpT := rSp [] (fun E => .int (nobodyS E)) (fun E => E)
set_option maxHeartbeats 4000000 in
set_option maxRecDepth 100000 in
theorem c_R_nobody : Con mR_nobody 7 0 0 sp_R_nobody := by
  refine con_of_X rfl fun G as S I L Post hs => ?_
  obtain ⟨rfl, rfl, ⟨hok, own⟩, h1⟩ := hs
  dsimp only at h1
  have h1 := r_end h1
  refine ⟨2, Nat.le_of_ble_eq_true rfl, ?_⟩
  show X mR_nobody G _ S1 I L 0 [.ref 59, .null, .null] [] Post
  have n1 := hok.c.2.1
  refine x_iconst (v := 0) dR_nobody_0 rfl ?_
  refine x_istoren_1 dR_nobody_1 rfl rfl ?_
  refine x_iconst (v := 0) dR_nobody_2 rfl ?_
  refine x_istoren_2 dR_nobody_3 rfl rfl ?_
  -- at 4: .iload_n 2
  have loop : ∀ (k i : Nat) (acc : Int32) (I' : IM) (L' : LM), i + k = sN (rE I) → acc = bs i (fun s => decide (CE (rE I) (wN (rE I)) s = 0)) → rSame I I' → X mR_nobody G (7, 0, 0) S1 I' L' 4 [.ref 59, .int acc, .int (nI i)] [] Post := by
    intro k
    induction k with
    | zero =>
      intro i acc I' L' hi ha hsm
      refine x_iload_n dR_nobody_4 rfl ?_
      refine x_aload_n dR_nobody_5 rfl ?_
      refine x_getI fl_R_158 rfl dR_nobody_6 rfl rfl ?_
      -- at 9: .if_icmp .ge 27
      rw [show I' 59 17 = nI (sN (rE I)) by rw [← hsm.2.1]; exact (hsm.inv hok).c.1]
      refine x_icmp_ge (tgt := 36) dR_nobody_9 (by decide) (fun _ => ?_) (fun h => absurd (by rw [show i = sN (rE I) by omega]; exact Int32.le_refl _) h)
      refine x_iload_n dR_nobody_36 rfl ?_
      -- at 37: .ireturn
      refine x_ireturn dR_nobody_37 rfl rfl ?_
      rw [ha]
      unfold nobodyS at h1
      rw [show i = sN (rE I) by omega]
      exact h1 hsm
    | succ k ih =>
      intro i acc I' L' hi ha hsm
      refine x_iload_n dR_nobody_4 rfl ?_
      refine x_aload_n dR_nobody_5 rfl ?_
      refine x_getI fl_R_158 rfl dR_nobody_6 rfl rfl ?_
      -- at 9: .if_icmp .ge 27
      rw [show I' 59 17 = nI (sN (rE I)) by rw [← hsm.2.1]; exact (hsm.inv hok).c.1]
      refine x_icmp_ge (tgt := 36) dR_nobody_9 (by decide) (fun h => absurd h (nI_ge (by omega) (by omega))) (fun _ => ?_)
      refine x_iload_n dR_nobody_12 rfl ?_
      refine x_aload_n dR_nobody_13 rfl ?_
      refine x_iload_n dR_nobody_14 rfl ?_
      -- at 15: .invokevirtual 277
      refine x_callV_1 cE_R_clear ok_R_clearTo ml_R_277 dR_nobody_15 rfl rfl rfl rfl rfl ?_
      refine ⟨i, rfl, rfl, ⟨hsm.inv hok, hsm.2.2⟩, by rw [hsm.2.1]; omega, fun I2 L2 hF2 => ?_⟩
      rw [hsm.2.1]
      refine x_if_ne (tgt := 27) dR_nobody_18 (by decide) (fun c1 => ?_) (fun c1 => ?_)
      · refine x_iconst (v := 0) dR_nobody_27 rfl ?_
        refine x_ior dR_nobody_28 ?_
        -- at 29: .istore_n 1
        refine x_eqi (y := acc) (by simp) ?_
        refine x_istoren_1 dR_nobody_29 rfl rfl ?_
        refine x_iincp_2 dR_nobody_30 rfl rfl ?_
        refine x_goto (tgt := 4) dR_nobody_33 (by decide) ?_
        -- at 4: .iload_n 2
        rw [nI_1]
        refine ih (i + 1) _ I2 L2 (by omega) ?_ (hsm.fr (hF2.wk (by decide)))
        rw [bs, if_neg (fun z => c1 (of_decide_eq_true z)), ha]
      · refine x_iconst (v := 1) dR_nobody_21 rfl ?_
        refine x_iload_n dR_nobody_22 rfl ?_
        refine x_ishl dR_nobody_23 ?_
        refine x_goto (tgt := 28) dR_nobody_24 (by decide) ?_
        refine x_ior dR_nobody_28 ?_
        refine x_istoren_1 dR_nobody_29 rfl rfl ?_
        refine x_iincp_2 dR_nobody_30 rfl rfl ?_
        refine x_goto (tgt := 4) dR_nobody_33 (by decide) ?_
        -- at 4: .iload_n 2
        rw [nI_1]
        refine ih (i + 1) _ I2 L2 (by omega) ?_ (hsm.fr (hF2.wk (by decide)))
        rw [bs, if_pos (decide_eq_true c1), ha]
        rfl
  exact loop _ 0 0 I L (Nat.zero_add _) rfl (rSame.refl own)
/-! what is owed, at the state -/
def KpE (I' : IM) (E : IM) (w : Int32) : Prop := KpOk I' E (PE E) (RW E (wN E) w) (pN E) (qN E)
def sp_R_owesN : SpT := fun as S I L Post => ∃ (w : Int32), as = [.ref 59, .int (nI (sN (rE I)))] ∧ S = S1 ∧ Inv (rE I) ∧ I 59 55 = 0 ∧ I 59 60 = w ∧
  ∀ (I' : IM) (L' : LM), Fr [94, 95, 96, 97, 98] I I' → OwesV (rE I) (PE (rE I)) (pN (rE I)) (qN (rE I)) w (sN (rE I)) I' → KpE I' (rE I) w → Post none S1 I' L'
theorem cE_R_owesN : Con mR_owes 8 0 0 sp_R_owesN := cE_R_owes.imp fun as S I L Post hs => by
  obtain ⟨w, rfl, rfl, hok, hd, hw, h1⟩ := hs
  exact ⟨sN (rE I), pN (rE I), qN (rE I), w, PE (rE I), rE I, rfl, rfl, rRk hok, rOw hok _, hw, hd, rVE I, h1⟩
theorem TQ_eq (E : IM) : TQ (RW E (wN E) (-1)) (qN E) = TT E (wN E) := by
  funext p
  exact QV_tot E (PE E) (pN E) (qN E) (-1) (sN E) p
def sp_R_owe : SpT := fun as S I L Post => ∃ p q : Int32, rSp [.int p, .int q] (fun E => .int (oweS E p q)) (fun E => E) as S I L Post
set_option maxHeartbeats 4000000 in
set_option maxRecDepth 100000 in
theorem c_R_owe : Con mR_owe 9 0 0 sp_R_owe := by
  refine con_of_X rfl fun G as S I L Post hs => ?_
  obtain ⟨p, q, rfl, rfl, ⟨hok, own⟩, h1⟩ := hs
  dsimp only at h1
  have h1 := r_end h1
  refine ⟨0, Nat.le_of_ble_eq_true rfl, ?_⟩
  show X mR_owe G _ S1 I L 0 [.ref 59, .int p, .int q] [] Post
  have bad : (¬ inR p 0 (rE I 29 1 - 1) ∨ ¬ inR q 0 (rE I 29 2 - 1)) → X mR_owe G (9, 0, 0) S1 I L 16 [.ref 59, .int p, .int q] [] Post := by
    intro hc
    rw [oweS, if_pos hc] at h1
    refine x_bipush (v := -5) dR_owe_16 rfl ?_
    -- at 18: .ireturn
    refine x_ireturn dR_owe_18 rfl rfl ?_
    exact h1 (rSame.refl own)
  refine x_aload_n dR_owe_0 rfl ?_
  refine x_iload_n dR_owe_1 rfl ?_
  -- at 2: .invokevirtual 230
  refine x_callV_1 c_R_isOne ok_R_isOne ml_R_230 dR_owe_2 rfl rfl rfl rfl rfl ?_
  refine ⟨_, rfl, rfl, fun a1 => ?_, fun a1 => ?_⟩
  · refine x_if_eq (tgt := 16) dR_owe_5 (by decide) (fun h => absurd h (by decide)) (fun _ => ?_)
    refine x_aload_n dR_owe_8 rfl ?_
    refine x_iload_n dR_owe_9 rfl ?_
    -- at 10: .invokevirtual 236
    refine x_callV_1 c_R_isPromise ok_R_isPromise ml_R_236 dR_owe_10 rfl rfl rfl rfl rfl ?_
    refine ⟨_, rfl, rfl, fun a2 => ?_, fun a2 => ?_⟩
    · refine x_if_ne (tgt := 19) dR_owe_13 (by decide) (fun _ => ?_) (fun h => absurd h (by decide))
      have a1 : inR p 0 (rE I 29 1 - 1) := a1
      have a2 : inR q 0 (rE I 29 2 - 1) := a2
      rw [oweS, if_neg (fun z => z.elim (fun y => y a1) (fun y => y a2))] at h1
      rw [show rE I 29 1 = nI (pN (rE I)) from hok.a.1] at a1
      rw [show rE I 29 2 = nI (qN (rE I)) from hok.b.1] at a2
      have n1 := hok.a.2.1
      have n2 := hok.b.2.1
      obtain ⟨i, hi, rfl⟩ := has_nat (by omega) a1
      obtain ⟨j, hj, rfl⟩ := has_nat (by omega) a2
      rw [cl_nI (by omega), cl_nI (by omega)] at h1
      refine x_aload_n dR_owe_19 rfl ?_
      refine x_aload_n dR_owe_20 rfl ?_
      refine x_getI fl_R_158 rfl dR_owe_21 rfl rfl ?_
      -- at 24: .invokevirtual 295
      rw [show I 59 17 = nI (sN (rE I)) from hok.c.1]
      refine x_callV_1 cE_R_owesN ok_R_owes ml_R_295 dR_owe_24 rfl rfl rfl rfl rfl ?_
      refine ⟨_, rfl, rfl, hok, own.1, own.2.1, fun I' L' hF ho _ => ?_⟩
      refine x_aload_n dR_owe_27 rfl ?_
      refine x_getR fl_R_122 rfl dR_owe_28 rfl rfl rfl ?_
      refine x_bipush (v := 8) dR_owe_31 rfl ?_
      refine x_iload_n dR_owe_33 rfl ?_
      refine x_imul dR_owe_34 ?_
      refine x_iload_n dR_owe_35 rfl ?_
      refine x_iadd dR_owe_36 ?_
      refine x_ialdJ dR_owe_37 rfl rfl (r8 i j) (by omega) ?_
      -- at 38: .ireturn
      refine x_ireturn dR_owe_38 rfl rfl ?_
      rw [ho.1 i hi j (by omega)]
      exact h1 ((rSame.refl own).fr (hF.wk (by decide)))
    · refine x_if_ne (tgt := 19) dR_owe_13 (by decide) (fun h => absurd (by decide) h) (fun _ => ?_)
      exact bad (Or.inr a2)
  · refine x_if_eq (tgt := 16) dR_owe_5 (by decide) (fun _ => ?_) (fun h => absurd (by decide) h)
    exact bad (Or.inl a1)
def sp_R_load : SpT := fun as S I L Post => ∃ p w : Int32, rSp [.int p, .int w] (fun E => .int (loadS E p w)) (fun E => E) as S I L Post
set_option maxHeartbeats 4000000 in
set_option maxRecDepth 100000 in
theorem c_R_load : Con mR_load 9 0 0 sp_R_load := by
  refine con_of_X rfl fun G as S I L Post hs => ?_
  obtain ⟨p, w, rfl, rfl, ⟨hok, own⟩, h1⟩ := hs
  dsimp only at h1
  have h1 := r_end h1
  refine ⟨0, Nat.le_of_ble_eq_true rfl, ?_⟩
  show X mR_load G _ S1 I L 0 [.ref 59, .int p, .int w] [] Post
  have n1 := hok.a.2.1
  have n2 := hok.b.2.1
  refine x_aload_n dR_load_0 rfl ?_
  refine x_iload_n dR_load_1 rfl ?_
  -- at 2: .invokevirtual 230
  refine x_callV_1 c_R_isOne ok_R_isOne ml_R_230 dR_load_2 rfl rfl rfl rfl rfl ?_
  refine ⟨_, rfl, rfl, fun a1 => ?_, fun a1 => ?_⟩
  · have a1 : inR p 0 (rE I 29 1 - 1) := a1
    refine x_if_ne (tgt := 11) dR_load_5 (by decide) (fun _ => ?_) (fun h => absurd h (by decide))
    rw [loadS, if_neg (not_not_intro a1)] at h1
    rw [show rE I 29 1 = nI (pN (rE I)) from hok.a.1] at a1
    obtain ⟨i, hi, rfl⟩ := has_nat (by omega) a1
    rw [cl_nI (by omega)] at h1
    refine x_aload_n dR_load_11 rfl ?_
    refine x_aload_n dR_load_12 rfl ?_
    refine x_getI fl_R_158 rfl dR_load_13 rfl rfl ?_
    -- at 16: .invokevirtual 295
    rw [show I 59 17 = nI (sN (rE I)) from hok.c.1]
    refine x_callV_1 cE_R_owesN ok_R_owes ml_R_295 dR_load_16 rfl rfl rfl rfl rfl ?_
    refine ⟨_, rfl, rfl, hok, own.1, own.2.1, fun I' L' hF ho hk => ?_⟩
    have sm := (rSame.refl own).fr (hF.wk (by decide))
    have hq : I' 59 12 = nI (qN (rE I)) := hk.2.2.2.1
    refine x_iload_n dR_load_19 rfl ?_
    -- at 20: .tableswitch 75 0 4 #[36, 42, 49, 56, 62]
    by_cases a2 : inR w 0 4
    · rw [if_neg (not_not_intro a2)] at h1
      obtain ⟨j, hj, rfl⟩ := inR_of (n := 4) (by decide) a2
      rcases (show j = 0 ∨ j = 1 ∨ j = 2 ∨ j = 3 ∨ j = 4 by omega) with rfl | rfl | rfl | rfl | rfl
      · rw [if_pos (show nI 0 = (0 : Int32) from rfl)] at h1
        refine x_tableIn (tgt := 56) dR_load_20 (by decide) (by decide) rfl (by decide) ?_
        refine x_aload_n dR_load_56 rfl ?_
        refine x_iload_n dR_load_57 rfl ?_
        -- at 58: .invokevirtual 298
        refine x_callV_1 c_R_owedBy ok_R_owedBy ml_R_298 dR_load_58 rfl rfl rfl rfl rfl ?_
        refine ⟨i, _, _, _, rfl, rfl, hi, n1, hq, n2, ho.1, ?_⟩
        refine x_ireturn dR_load_61 rfl rfl ?_
        rw [← TQ_eq] at h1
        exact h1 sm
      · rw [if_neg (show ¬ nI 1 = (0 : Int32) by decide), if_pos (show nI 1 = (1 : Int32) from rfl)] at h1
        refine x_tableIn (tgt := 62) dR_load_20 (by decide) (by decide) rfl (by decide) ?_
        refine x_aload_n dR_load_62 rfl ?_
        refine x_getR fl_R_125 rfl dR_load_63 rfl rfl rfl ?_
        refine x_iload_n dR_load_66 rfl ?_
        refine x_ialdJ (j := i) dR_load_67 rfl rfl (by first | rfl | (simp only [← nI_add, ← pk_mul]; rfl)) (by omega) ?_
        -- at 68: .ireturn
        refine x_ireturn dR_load_68 rfl rfl ?_
        rw [(ho.2 i hi).1]
        exact h1 sm
      · rw [if_neg (show ¬ nI 2 = (0 : Int32) by decide), if_neg (show ¬ nI 2 = (1 : Int32) by decide), if_pos (show nI 2 = (2 : Int32) from rfl)] at h1
        refine x_tableIn (tgt := 69) dR_load_20 (by decide) (by decide) rfl (by decide) ?_
        refine x_aload_n dR_load_69 rfl ?_
        refine x_getR fl_R_128 rfl dR_load_70 rfl rfl rfl ?_
        refine x_iload_n dR_load_73 rfl ?_
        refine x_ialdJ (j := i) dR_load_74 rfl rfl (by first | rfl | (simp only [← nI_add, ← pk_mul]; rfl)) (by omega) ?_
        -- at 75: .ireturn
        refine x_ireturn dR_load_75 rfl rfl ?_
        rw [(ho.2 i hi).2]
        exact h1 sm
      · rw [if_neg (show ¬ nI 3 = (0 : Int32) by decide), if_neg (show ¬ nI 3 = (1 : Int32) by decide), if_neg (show ¬ nI 3 = (2 : Int32) by decide), if_pos (show nI 3 = (3 : Int32) from rfl)] at h1
        refine x_tableIn (tgt := 76) dR_load_20 (by decide) (by decide) rfl (by decide) ?_
        refine x_aload_n dR_load_76 rfl ?_
        refine x_iload_n dR_load_77 rfl ?_
        -- at 78: .invokevirtual 301
        refine x_callV_1 c_R_painOf ok_R_painOf ml_R_301 dR_load_78 rfl rfl rfl rfl rfl ?_
        refine ⟨i, _, _, _, _, _, rfl, rfl, hi, hk, fun I2 hF2 => ?_⟩
        refine x_ireturn dR_load_81 rfl rfl ?_
        rw [TQ_eq]
        exact h1 (sm.fr (hF2.wk (by decide)))
      · rw [if_neg (show ¬ nI 4 = (0 : Int32) by decide), if_neg (show ¬ nI 4 = (1 : Int32) by decide), if_neg (show ¬ nI 4 = (2 : Int32) by decide), if_neg (show ¬ nI 4 = (3 : Int32) by decide)] at h1
        refine x_tableIn (tgt := 82) dR_load_20 (by decide) (by decide) rfl (by decide) ?_
        refine x_aload_n dR_load_82 rfl ?_
        refine x_getR fl_R_38 rfl dR_load_83 rfl rfl rfl ?_
        refine x_iload_n dR_load_86 rfl ?_
        refine x_ialdJ (j := i) dR_load_87 rfl rfl (by first | rfl | (simp only [← nI_add, ← pk_mul]; rfl)) (by omega) ?_
        refine x_aload_n dR_load_88 rfl ?_
        refine x_iload_n dR_load_89 rfl ?_
        -- at 90: .invokevirtual 298
        refine x_callV_1 c_R_owedBy ok_R_owedBy ml_R_298 dR_load_90 rfl rfl rfl rfl rfl ?_
        refine ⟨i, _, _, _, rfl, rfl, hi, n1, hq, n2, ho.1, ?_⟩
        refine x_isub dR_load_93 ?_
        -- at 94: .ireturn
        refine x_ireturn dR_load_94 rfl rfl ?_
        rw [← TQ_eq] at h1
        rw [hF 68 (by decide)]
        exact h1 sm
    · rw [if_pos a2] at h1
      have ho := toInt_out (w := w) (n := 4) (by omega) (fun k hk => by
        rintro rfl
        exact a2 ⟨(nI_leI (a := 0) (by omega) (by omega)).mpr (by omega), (nI_leI (b := 4) (by omega) (by omega)).mpr (by omega)⟩)
      refine x_tableOut (tgt := 95) dR_load_20 ho (by decide) ?_
      refine x_bipush (v := -7) dR_load_95 rfl ?_
      -- at 97: .ireturn
      refine x_ireturn dR_load_97 rfl rfl ?_
      exact h1 sm
  · have a1 : ¬ inR p 0 (rE I 29 1 - 1) := a1
    refine x_if_ne (tgt := 11) dR_load_5 (by decide) (fun h => absurd (by decide) h) (fun _ => ?_)
    rw [loadS, if_pos a1] at h1
    refine x_bipush (v := -5) dR_load_8 rfl ?_
    -- at 10: .ireturn
    refine x_ireturn dR_load_10 rfl rfl ?_
    exact h1 (rSame.refl own)
def sp_R_done : SpT := fun as S I L Post => ∃ q : Int32, rSp [.int q] (fun E => .int (doneS E q)) (fun E => E) as S I L Post
set_option maxHeartbeats 4000000 in
set_option maxRecDepth 100000 in
theorem c_R_done : Con mR_done 9 0 0 sp_R_done := by
  refine con_of_X rfl fun G as S I L Post hs => ?_
  obtain ⟨q, rfl, rfl, ⟨hok, own⟩, h1⟩ := hs
  dsimp only at h1
  have h1 := r_end h1
  refine ⟨0, Nat.le_of_ble_eq_true rfl, ?_⟩
  show X mR_done G _ S1 I L 0 [.ref 59, .int q] [] Post
  have n2 := hok.b.2.1
  refine x_aload_n dR_done_0 rfl ?_
  refine x_iload_n dR_done_1 rfl ?_
  -- at 2: .invokevirtual 236
  refine x_callV_1 c_R_isPromise ok_R_isPromise ml_R_236 dR_done_2 rfl rfl rfl rfl rfl ?_
  refine ⟨_, rfl, rfl, fun a1 => ?_, fun a1 => ?_⟩
  · have a1 : inR q 0 (rE I 29 2 - 1) := a1
    refine x_if_ne (tgt := 11) dR_done_5 (by decide) (fun _ => ?_) (fun h => absurd h (by decide))
    rw [doneS, if_neg (not_not_intro a1)] at h1
    rw [show rE I 29 2 = nI (qN (rE I)) from hok.b.1] at a1
    obtain ⟨i, hi, rfl⟩ := has_nat (by omega) a1
    rw [cl_nI (by omega)] at h1
    refine x_aload_n dR_done_11 rfl ?_
    refine x_aload_n dR_done_12 rfl ?_
    refine x_getI fl_R_158 rfl dR_done_13 rfl rfl ?_
    -- at 16: .invokevirtual 295
    rw [show I 59 17 = nI (sN (rE I)) from hok.c.1]
    refine x_callV_1 cE_R_owesN ok_R_owes ml_R_295 dR_done_16 rfl rfl rfl rfl rfl ?_
    refine ⟨_, rfl, rfl, hok, own.1, own.2.1, fun I' L' hF ho hk => ?_⟩
    refine x_aload_n dR_done_19 rfl ?_
    refine x_iload_n dR_done_20 rfl ?_
    -- at 21: .invokevirtual 304
    refine x_callV_1 c_R_doneOf ok_R_doneOf ml_R_304 dR_done_21 rfl rfl rfl rfl rfl ?_
    refine ⟨i, _, _, _, _, _, rfl, rfl, by omega, hk, ?_⟩
    refine x_ireturn dR_done_24 rfl rfl ?_
    exact h1 ((rSame.refl own).fr (hF.wk (by decide)))
  · have a1 : ¬ inR q 0 (rE I 29 2 - 1) := a1
    refine x_if_ne (tgt := 11) dR_done_5 (by decide) (fun h => absurd (by decide) h) (fun _ => ?_)
    rw [doneS, if_pos a1] at h1
    refine x_bipush (v := -5) dR_done_8 rfl ?_
    -- at 10: .ireturn
    refine x_ireturn dR_done_10 rfl rfl ?_
    exact h1 (rSame.refl own)
def sp_R_sum : SpT := fun as S I L Post => ∃ w : Int32, rSp [.int w] (fun E => .int (sumS E w)) (fun E => E) as S I L Post
set_option maxHeartbeats 4000000 in
set_option maxRecDepth 100000 in
theorem c_R_sum : Con mR_sum 9 0 0 sp_R_sum := by
  refine con_of_X rfl fun G as S I L Post hs => ?_
  obtain ⟨w, rfl, rfl, ⟨hok, own⟩, h1⟩ := hs
  dsimp only at h1
  have h1 := r_end h1
  refine ⟨2, Nat.le_of_ble_eq_true rfl, ?_⟩
  show X mR_sum G _ S1 I L 0 [.ref 59, .int w, .null, .null] [] Post
  have n1 := hok.a.2.1
  have n2 := hok.b.2.1
  refine x_iload_n dR_sum_0 rfl ?_
  refine x_iconst (v := 0) dR_sum_1 rfl ?_
  refine x_iconst (v := 3) dR_sum_2 rfl ?_
  -- at 3: .invokestatic 151
  refine x_callS_3 c_R_in ok_R_in ml_R_151 dR_sum_3 rfl rfl ?_
  refine ⟨_, _, _, rfl, fun a1 => ?_, fun a1 => ?_⟩
  · have a1 : inR w 0 3 := a1
    refine x_if_ne (tgt := 12) dR_sum_6 (by decide) (fun _ => ?_) (fun h => absurd h (by decide))
    rw [sumS, if_neg (not_not_intro a1)] at h1
    refine x_aload_n dR_sum_12 rfl ?_
    refine x_aload_n dR_sum_13 rfl ?_
    refine x_getI fl_R_158 rfl dR_sum_14 rfl rfl ?_
    -- at 17: .invokevirtual 295
    rw [show I 59 17 = nI (sN (rE I)) from hok.c.1]
    refine x_callV_1 cE_R_owesN ok_R_owes ml_R_295 dR_sum_17 rfl rfl rfl rfl rfl ?_
    refine ⟨_, rfl, rfl, hok, own.1, own.2.1, fun I' L' hF ho hk => ?_⟩
    have sm := (rSame.refl own).fr (hF.wk (by decide))
    have hq : I' 59 12 = nI (qN (rE I)) := hk.2.2.2.1
    have hp : I' 59 3 = nI (pN (rE I)) := hk.2.1
    refine x_iconst (v := 0) dR_sum_20 rfl ?_
    refine x_istoren_2 dR_sum_21 rfl rfl ?_
    refine x_iconst (v := 0) dR_sum_22 rfl ?_
    refine x_istoren_3 dR_sum_23 rfl rfl ?_
    -- at 24: .iload_n 3
    have loop : ∀ (k i : Nat) (acc : Int32), i + k = pN (rE I) → acc = fullV (rE I) (TT (rE I) (wN (rE I))) i → X mR_sum G (9, 0, 0) S1 I' L' 24 [.ref 59, .int w, .int acc, .int (nI i)] [] Post := by
      intro k
      induction k with
      | zero =>
        intro i acc hi ha
        refine x_iload_n dR_sum_24 rfl ?_
        refine x_aload_n dR_sum_25 rfl ?_
        refine x_getI fl_R_148 rfl dR_sum_26 rfl rfl ?_
        -- at 29: .if_icmp .ge 33
        rw [hp]
        refine x_icmp_ge (tgt := 62) dR_sum_29 (by decide) (fun _ => ?_) (fun h => absurd (by rw [show i = pN (rE I) by omega]; exact Int32.le_refl _) h)
        refine x_iload_n dR_sum_62 rfl ?_
        -- at 63: .ifCond .ne 10
        refine x_if_ne (tgt := 73) dR_sum_63 (by decide) (fun w0 => ?_) (fun w0 => ?_)
        · refine x_iload_n dR_sum_73 rfl ?_
          refine x_iconst (v := 1) dR_sum_74 rfl ?_
          -- at 75: .if_icmp .ne 10
          refine x_icmp_ne (tgt := 85) dR_sum_75 (by decide) (fun w1 => ?_) (fun w1 => ?_)
          · refine x_iload_n dR_sum_85 rfl ?_
            refine x_iconst (v := 2) dR_sum_86 rfl ?_
            -- at 87: .if_icmp .ne 10
            refine x_icmp_ne (tgt := 97) dR_sum_87 (by decide) (fun w2 => ?_) (fun w2 => ?_)
            · refine x_iload_n dR_sum_97 rfl ?_
              -- at 98: .ireturn
              refine x_ireturn dR_sum_98 rfl rfl ?_
              have w3 : w = 3 := by
                obtain ⟨j, hj, rfl⟩ := inR_of (n := 3) (by decide) a1
                rcases (show j = 0 ∨ j = 1 ∨ j = 2 ∨ j = 3 by omega) with rfl | rfl | rfl | rfl
                · exact absurd rfl w0
                · exact absurd rfl w1
                · exact absurd rfl w2
                · rfl
              rw [if_pos w3] at h1
              rw [ha, show i = pN (rE I) by omega]
              exact h1 sm
            · subst w2
              rw [if_neg (show ¬ (2 : Int32) = 3 by decide), outE, outV, if_neg (show ¬ (2 : Int32) = 0 by decide), if_neg (show ¬ (2 : Int32) = 1 by decide), ← TQ_eq] at h1
              refine x_aload_n dR_sum_90 rfl ?_
              -- at 91: .invokevirtual 316
              refine x_callV_0 c_R_painNow ok_R_painNow ml_R_316 dR_sum_91 rfl rfl rfl rfl rfl ?_
              refine ⟨_, _, _, _, _, rfl, rfl, hk, fun I2 hF2 => ?_⟩
              refine x_goto (tgt := 98) dR_sum_94 (by decide) ?_
              -- at 98: .ireturn
              refine x_ireturn dR_sum_98 rfl rfl ?_
              exact h1 (sm.fr (hF2.wk (by decide)))
          · subst w1
            rw [if_neg (show ¬ (1 : Int32) = 3 by decide), outE, outV, if_neg (show ¬ (1 : Int32) = 0 by decide), if_pos rfl] at h1
            refine x_aload_n dR_sum_78 rfl ?_
            -- at 79: .invokevirtual 313
            refine x_callV_0 c_R_worthNow ok_R_worthNow ml_R_313 dR_sum_79 rfl rfl rfl rfl rfl ?_
            refine ⟨_, _, _, _, _, rfl, rfl, hk, ?_⟩
            refine x_goto (tgt := 98) dR_sum_82 (by decide) ?_
            -- at 98: .ireturn
            refine x_ireturn dR_sum_98 rfl rfl ?_
            exact h1 sm
        · subst w0
          rw [if_neg (show ¬ (0 : Int32) = 3 by decide), outE, outV, if_pos rfl] at h1
          refine x_aload_n dR_sum_66 rfl ?_
          -- at 67: .invokevirtual 310
          refine x_callV_0 c_R_keptNow ok_R_keptNow ml_R_310 dR_sum_67 rfl rfl rfl rfl rfl ?_
          refine ⟨_, _, _, _, _, rfl, rfl, hk, ?_⟩
          refine x_goto (tgt := 98) dR_sum_70 (by decide) ?_
          -- at 98: .ireturn
          refine x_ireturn dR_sum_98 rfl rfl ?_
          exact h1 sm
      | succ k ih =>
        intro i acc hi ha
        refine x_iload_n dR_sum_24 rfl ?_
        refine x_aload_n dR_sum_25 rfl ?_
        refine x_getI fl_R_148 rfl dR_sum_26 rfl rfl ?_
        -- at 29: .if_icmp .ge 33
        rw [hp]
        refine x_icmp_ge (tgt := 62) dR_sum_29 (by decide) (fun h => absurd h (nI_ge (by omega) (by omega))) (fun _ => ?_)
        refine x_iload_n dR_sum_32 rfl ?_
        refine x_aload_n dR_sum_33 rfl ?_
        refine x_iload_n dR_sum_34 rfl ?_
        -- at 35: .invokevirtual 298
        refine x_callV_1 c_R_owedBy ok_R_owedBy ml_R_298 dR_sum_35 rfl rfl rfl rfl rfl ?_
        refine ⟨i, _, _, _, rfl, rfl, (by omega : i < pN (rE I)), n1, hq, n2, ho.1, ?_⟩
        refine x_eqi (y := TT (rE I) (wN (rE I)) i) (congrFun (TQ_eq (rE I)) i) ?_
        refine x_aload_n dR_sum_38 rfl ?_
        refine x_getR fl_R_38 rfl dR_sum_39 rfl rfl rfl ?_
        refine x_iload_n dR_sum_42 rfl ?_
        refine x_ialdJ (j := i) dR_sum_43 rfl rfl (by first | rfl | (simp only [← nI_add, ← pk_mul]; rfl)) (by omega) ?_
        -- at 44: .if_icmp .ne 9
        rw [show I' 68 = rE I 8 from hF 68 (by decide)]
        refine x_icmp_ne (tgt := 53) dR_sum_44 (by decide) (fun c1 => ?_) (fun c1 => ?_)
        · refine x_iconst (v := 0) dR_sum_53 rfl ?_
          refine x_ior dR_sum_54 ?_
          -- at 55: .istore_n 2
          refine x_eqi (y := acc) (by simp) ?_
          refine x_istoren_2 dR_sum_55 rfl rfl ?_
          refine x_iincp_3 dR_sum_56 rfl rfl ?_
          refine x_goto (tgt := 24) dR_sum_59 (by decide) ?_
          -- at 24: .iload_n 3
          rw [nI_1]
          refine ih (i + 1) _ (by omega) ?_
          unfold fullV at ha ⊢
          rw [bs, if_neg (fun z => c1 (of_decide_eq_true z)), ha]
        · refine x_iconst (v := 1) dR_sum_47 rfl ?_
          refine x_iload_n dR_sum_48 rfl ?_
          refine x_ishl dR_sum_49 ?_
          refine x_goto (tgt := 54) dR_sum_50 (by decide) ?_
          refine x_ior dR_sum_54 ?_
          refine x_istoren_2 dR_sum_55 rfl rfl ?_
          refine x_iincp_3 dR_sum_56 rfl rfl ?_
          refine x_goto (tgt := 24) dR_sum_59 (by decide) ?_
          -- at 24: .iload_n 3
          rw [nI_1]
          refine ih (i + 1) _ (by omega) ?_
          unfold fullV at ha ⊢
          rw [bs, if_pos (decide_eq_true c1), ha]
          rfl
    exact loop _ 0 0 (Nat.zero_add _) rfl
  · have a1 : ¬ inR w 0 3 := a1
    refine x_if_ne (tgt := 12) dR_sum_6 (by decide) (fun h => absurd (by decide) h) (fun _ => ?_)
    rw [sumS, if_pos a1] at h1
    refine x_bipush (v := -2) dR_sum_9 rfl ?_
    -- at 11: .ireturn
    refine x_ireturn dR_sum_11 rfl rfl ?_
    exact h1 (rSame.refl own)
end
section
-- 71.rb
/-! the reference's calls: best, foe, loud, spare -/
theorem how_hi : ∀ n, n < 600 → 560 ≤ n → ¬ isHowP (nI n) := by decide +kernel
theorem how_lo : ∀ n, n < 560 → 1 ≤ n → ((rem (nI n / 10) 10 ≤ 5 ∧ 0 < rem (nI n) 10) ↔ isHowP (nI n)) := by decide +kernel
def sp_R_isHow : SpT := fun as S I L Post => ∃ n : Nat, as = [.int (nI n)] ∧ 1 ≤ n ∧ n < 560 ∧ bPost (isHowP (nI n)) S I L Post
set_option maxHeartbeats 4000000 in
set_option maxRecDepth 100000 in
theorem c_R_isHow : Con mR_isHow 2 0 0 sp_R_isHow := by
  refine con_of_X rfl fun G as S I L Post hs => ?_
  obtain ⟨n, rfl, n1, n2, h1, h2⟩ := hs
  refine ⟨0, Nat.le_of_ble_eq_true rfl, ?_⟩
  show X mR_isHow G _ S I L 0 [.int (nI n)] [] Post
  have hh := how_lo n n2 n1
  refine x_iload_n dR_isHow_0 rfl ?_
  refine x_bipush (v := 10) dR_isHow_1 rfl ?_
  refine x_idiv dR_isHow_3 (by decide) ?_
  refine x_bipush (v := 10) dR_isHow_4 rfl ?_
  refine x_irem dR_isHow_6 (by decide) ?_
  refine x_iconst (v := 5) dR_isHow_7 rfl ?_
  -- at 8: .if_icmp .gt 14
  refine x_icmp_gt (tgt := 22) dR_isHow_8 (by decide) (fun c1 => ?_) (fun c1 => ?_)
  · refine x_iconst (v := 0) dR_isHow_22 rfl ?_
    -- at 23: .ireturn
    refine x_ireturn dR_isHow_23 rfl rfl ?_
    exact h2 (fun z => absurd (hh.mpr z).1 (Int32.not_le.mpr c1))
  · refine x_iload_n dR_isHow_11 rfl ?_
    refine x_bipush (v := 10) dR_isHow_12 rfl ?_
    refine x_irem dR_isHow_14 (by decide) ?_
    -- at 15: .ifCond .le 7
    refine x_if_le (tgt := 22) dR_isHow_15 (by decide) (fun c2 => ?_) (fun c2 => ?_)
    · refine x_iconst (v := 0) dR_isHow_22 rfl ?_
      -- at 23: .ireturn
      refine x_ireturn dR_isHow_23 rfl rfl ?_
      exact h2 (fun z => absurd (hh.mpr z).2 (Int32.not_lt.mpr c2))
    · refine x_iconst (v := 1) dR_isHow_18 rfl ?_
      refine x_goto (tgt := 23) dR_isHow_19 (by decide) ?_
      -- at 23: .ireturn
      refine x_ireturn dR_isHow_23 rfl rfl ?_
      exact h1 (hh.mp ⟨Int32.not_lt.mp c1, Int32.not_le.mp c2⟩)
theorem rV_put (I : IM) (m : Nat) (q h : Int32) : rV (rSput I m q h) = sputV (rV I) m q h := by
  funext a
  by_cases h14 : a = 14
  · subst h14; unfold sputV rSput rV; simp only [up2_n, up2_s, ne_eq, Nat.reduceEqDiff, not_false_eq_true]
  by_cases h15 : a = 15
  · subst h15; unfold sputV rSput rV; simp only [up2_n, up2_s, ne_eq, Nat.reduceEqDiff, not_false_eq_true]
  by_cases h16 : a = 16
  · subst h16; unfold sputV rSput rV; simp only [up2_n, up2_s, ne_eq, Nat.reduceEqDiff, not_false_eq_true]
  by_cases h17 : a = 17
  · subst h17; unfold sputV rSput rV; simp only [up2_n, up2_s, ne_eq, Nat.reduceEqDiff, not_false_eq_true]
  unfold sputV
  rw [up2_n _ _ _ h17, up2_n _ _ _ h16, up2_n _ _ _ h15, up2_n _ _ _ h14]
  unfold rV rSput
  split <;> first | rfl | (exfalso; omega) | simp only [up2_n, up2_s, ne_eq, Nat.reduceEqDiff, not_false_eq_true]
theorem mk_out {n m : Nat} (f : Nat → Int32) (x : Int32) (h : n ≤ m) : mk n (up1 f m x) = mk n f := by
  funext i
  unfold mk
  split
  · rw [up1_n _ _ (by omega)]
  · rfl
theorem rE_put (I : IM) (q h : Int32) : rE (rSput I (sN (rE I)) q h) = rE I := by
  have e0 : cl (I 59 17) = sN (rE I) := rfl
  generalize sN (rE I) = m at e0
  have f : ∀ k, k ≠ 74 → k ≠ 75 → k ≠ 76 → k ≠ 77 → rSput I m q h k = I k := fun k h1 h2 h3 h4 => by
    unfold rSput
    rw [up2_n _ _ _ h4, up2_n _ _ _ h3, up2_n _ _ _ h2, up2_n _ _ _ h1]
  have f59 : rSput I m q h 59 = I 59 := f 59 (by decide) (by decide) (by decide) (by decide)
  have f74 : rSput I m q h 74 = up1 (I 74) m q := by unfold rSput; simp only [up2_n, up2_s, ne_eq, Nat.reduceEqDiff, not_false_eq_true]
  have f75 : rSput I m q h 75 = up1 (I 75) m (h / 100) := by unfold rSput; simp only [up2_n, up2_s, ne_eq, Nat.reduceEqDiff, not_false_eq_true]
  have f76 : rSput I m q h 76 = up1 (I 76) m (rem (h / 10) 10) := by unfold rSput; simp only [up2_n, up2_s, ne_eq, Nat.reduceEqDiff, not_false_eq_true]
  have f77 : rSput I m q h 77 = up1 (I 77) m (rem h 10) := by unfold rSput; simp only [up2_n, up2_s, ne_eq, Nat.reduceEqDiff, not_false_eq_true]
  have e29 : rSc (rSput I m q h) = rSc I := by
    funext j
    unfold rSc
    rw [f59]
  funext a
  unfold rE
  rw [e29, f59, f74, f75, f76, f77, e0, mk_out _ _ (Nat.le_refl _), mk_out _ _ (Nat.le_refl _), mk_out _ _ (Nat.le_refl _), mk_out _ _ (Nat.le_refl _)]
  rw [f 60 (by decide) (by decide) (by decide) (by decide), f 61 (by decide) (by decide) (by decide) (by decide), f 62 (by decide) (by decide) (by decide) (by decide), f 63 (by decide) (by decide) (by decide) (by decide), f 64 (by decide) (by decide) (by decide) (by decide), f 65 (by decide) (by decide) (by decide) (by decide), f 66 (by decide) (by decide) (by decide) (by decide), f 67 (by decide) (by decide) (by decide) (by decide), f 68 (by decide) (by decide) (by decide) (by decide), f 69 (by decide) (by decide) (by decide) (by decide), f 70 (by decide) (by decide) (by decide) (by decide), f 71 (by decide) (by decide) (by decide) (by decide), f 72 (by decide) (by decide) (by decide) (by decide), f 73 (by decide) (by decide) (by decide) (by decide), f 78 (by decide) (by decide) (by decide) (by decide), f 79 (by decide) (by decide) (by decide) (by decide), f 80 (by decide) (by decide) (by decide) (by decide), f 81 (by decide) (by decide) (by decide) (by decide), f 82 (by decide) (by decide) (by decide) (by decide), f 83 (by decide) (by decide) (by decide) (by decide), f 84 (by decide) (by decide) (by decide) (by decide), f 85 (by decide) (by decide) (by decide) (by decide), f 86 (by decide) (by decide) (by decide) (by decide), f 87 (by decide) (by decide) (by decide) (by decide), f 88 (by decide) (by decide) (by decide) (by decide), f 89 (by decide) (by decide) (by decide) (by decide), f 90 (by decide) (by decide) (by decide) (by decide)]
theorem rSame.put {I : IM} (own : rOwn I) (q h : Int32) : rSame I (rSput I (sN (rE I)) q h) := by
  refine ⟨fun k hk => ?_, rE_put I q h, ?_⟩
  · unfold rSput
    rw [up2_n _ _ _ (by omega), up2_n _ _ _ (by omega), up2_n _ _ _ (by omega), up2_n _ _ _ (by omega)]
  · exact (((own.up (by decide) (Or.inl (by decide))).up (by decide) (Or.inl (by decide))).up (by decide) (Or.inl (by decide))).up (by decide) (Or.inl (by decide))
/-- with one saying more -/
def Kp1 (I' E : IM) (q : Nat) (h : Int32) : Prop := KpOk I' (M1 E q h) (PE E) (R1 E (wN E) q h) (pN E) (qN E)
theorem TQ_1 (E : IM) (q : Nat) (h : Int32) : TQ (R1 E (wN E) q h) (qN E) = T1 E (wN E) q h := by
  funext p
  exact QV_tot (M1 E q h) (PE E) (pN E) (qN E) (-1) (sN E + 1) p
def sp_R_owesWith : SpT := fun as S I L Post => ∃ (q : Nat) (h : Int32), as = [.ref 59, .int (nI q), .int h] ∧ S = S1 ∧ rOk I ∧ q < qN (rE I) ∧ isHowP h ∧
  ∀ (I' : IM) (L' : LM), rSame I I' → OwesV (M1 (rE I) q h) (PE (rE I)) (pN (rE I)) (qN (rE I)) (-1) (sN (rE I) + 1) I' → Kp1 I' (rE I) q h → Post none S1 I' L'
set_option maxHeartbeats 4000000 in
set_option maxRecDepth 100000 in
theorem c_R_owesWith : Con mR_owesWith 9 0 0 sp_R_owesWith := by
  refine con_of_X rfl fun G as S I L Post hs => ?_
  obtain ⟨q, h, rfl, rfl, ⟨hok, own⟩, hq, hh, h1⟩ := hs
  refine ⟨0, Nat.le_of_ble_eq_true rfl, ?_⟩
  show X mR_owesWith G _ S1 I L 0 [.ref 59, .int (nI q), .int h] [] Post
  have n3 := hok.c.2.1
  have n2 := hok.b.2.1
  refine x_aload_n dR_owesWith_0 rfl ?_
  refine x_aload_n dR_owesWith_1 rfl ?_
  refine x_getI fl_R_158 rfl dR_owesWith_2 rfl rfl ?_
  refine x_iload_n dR_owesWith_5 rfl ?_
  refine x_iload_n dR_owesWith_6 rfl ?_
  -- at 7: .invokevirtual 239
  rw [show I 59 17 = nI (sN (rE I)) from hok.c.1]
  refine x_callV_3 c_R_says ok_R_says ml_R_239 dR_owesWith_7 rfl rfl rfl rfl rfl ?_
  refine ⟨sN (rE I), nI q, h, rfl, rfl, by omega, ?_⟩
  have sm := rSame.put own (nI q) h
  have hok2 := sm.inv hok
  have hrV : rV (rSput I (sN (rE I)) (nI q) h) = sputV (rV I) (sN (rE I)) (nI q) h := rV_put I _ _ _
  generalize rSput I (sN (rE I)) (nI q) h = I2 at sm hok2 hrV
  refine x_aload_n dR_owesWith_10 rfl ?_
  refine x_aload_n dR_owesWith_11 rfl ?_
  refine x_getI fl_R_158 rfl dR_owesWith_12 rfl rfl ?_
  refine x_iconst (v := 1) dR_owesWith_15 rfl ?_
  refine x_iadd dR_owesWith_16 ?_
  -- at 17: .invokevirtual 295
  rw [show I2 59 17 = nI (sN (rE I)) by rw [← sm.2.1]; exact hok2.c.1, nI_1]
  refine x_callV_1 cE_R_owes ok_R_owes ml_R_295 dR_owesWith_17 rfl rfl rfl rfl rfl ?_
  have hV : VEq (rV I2) (M1 (rE I) q h) (pN (rE I)) (sN (rE I) + 1) := by
    rw [hrV]
    exact (rVE I).put (nI q) h
  obtain ⟨k1, k2, k3, k4, k5, k6⟩ := rRk hok2
  rw [sm.2.1] at k1 k2 k3 k4 k5 k6
  have hw := rOw hok2 (sN (rE I) + 1)
  rw [sm.2.1] at hw
  refine ⟨sN (rE I) + 1, pN (rE I), qN (rE I), -1, PE (rE I), M1 (rE I) q h, rfl, rfl, ⟨k1, k2, by omega, k4, fun s hs => ?_, k6⟩, hw, sm.2.2.2.1, sm.2.2.1, hV, fun I' L' hF ho hk => ?_⟩
  · by_cases e : s = sN (rE I)
    · subst e
      rw [hrV]
      obtain ⟨o1, o2, -⟩ := how_ok hh
      unfold SayV sputV
      simp only [up2_n, up2_s, ne_eq, Nat.reduceEqDiff, not_false_eq_true, up1_s]
      exact ⟨⟨q, by omega, rfl⟩, o1, o2⟩
    · exact k5 s (by omega)
  · refine x_return dR_owesWith_20 rfl ?_
    exact h1 I' L' (sm.fr (hF.wk (by decide))) ho hk
theorem Kp1.q {I' E : IM} {q : Nat} {h : Int32} (hk : Kp1 I' E q h) : I' 59 12 = nI (qN E) := hk.2.2.2.1
theorem best_hi (E : IM) (t q : Nat) : ∀ d, d ≤ 40 → bestF E t q (560 + d) = bestF E t q 560 := by
  intro d
  induction d with
  | zero => intro _; rfl
  | succ k ih =>
    intro h
    rw [← Nat.add_assoc, bestF, if_pos (how_hi (560 + k) (by omega) (by omega)), ih (by omega)]
def sp_R_best : SpT := fun as S I L Post => ∃ q w : Int32, rSp [.int q, .int w] (fun E => .int (bestS E q w)) (fun E => E) as S I L Post
set_option maxHeartbeats 4000000 in
set_option maxRecDepth 100000 in
theorem c_R_best : Con mR_best 10 0 0 sp_R_best := by
  refine con_of_X rfl fun G as S I L Post hs => ?_
  obtain ⟨q, w, rfl, rfl, ⟨hok, own⟩, h1⟩ := hs
  dsimp only at h1
  have h1 := r_end h1
  refine ⟨3, Nat.le_of_ble_eq_true rfl, ?_⟩
  show X mR_best G _ S1 I L 0 [.ref 59, .int q, .int w, .null, .null, .null] [] Post
  have n2 := hok.b.2.1
  refine x_aload_n dR_best_0 rfl ?_
  refine x_iload_n dR_best_1 rfl ?_
  -- at 2: .invokevirtual 236
  refine x_callV_1 c_R_isPromise ok_R_isPromise ml_R_236 dR_best_2 rfl rfl rfl rfl rfl ?_
  refine ⟨_, rfl, rfl, fun a1 => ?_, fun a1 => ?_⟩
  · have a1 : inR q 0 (rE I 29 2 - 1) := a1
    refine x_if_ne (tgt := 11) dR_best_5 (by decide) (fun _ => ?_) (fun h => absurd h (by decide))
    rw [bestS, if_neg (not_not_intro a1)] at h1
    rw [show rE I 29 2 = nI (qN (rE I)) from hok.b.1] at a1
    obtain ⟨j, hj, rfl⟩ := has_nat (by omega) a1
    rw [cl_nI (by omega)] at h1
    refine x_iload_n dR_best_11 rfl ?_
    refine x_iconst (v := 0) dR_best_12 rfl ?_
    refine x_iconst (v := 1) dR_best_13 rfl ?_
    -- at 14: .invokestatic 151
    refine x_callS_3 c_R_in ok_R_in ml_R_151 dR_best_14 rfl rfl ?_
    refine ⟨_, _, _, rfl, fun a2 => ?_, fun a2 => ?_⟩
    · have a2 : inR w 0 1 := a2
      refine x_if_ne (tgt := 23) dR_best_17 (by decide) (fun _ => ?_) (fun h => absurd h (by decide))
      rw [if_neg (not_not_intro a2), show 600 = 560 + 40 from rfl, best_hi _ _ _ 40 (by omega)] at h1
      refine x_iconst (v := -1) dR_best_23 rfl ?_
      refine x_istoren_3 dR_best_24 rfl rfl ?_
      refine x_iconst (v := -1) dR_best_25 rfl ?_
      refine x_istore_4 dR_best_26 rfl rfl ?_
      refine x_iconst (v := 1) dR_best_28 rfl ?_
      refine x_istore_5 dR_best_29 rfl rfl ?_
      -- at 31: .iload 5
      have loop : ∀ (k i : Nat) (I' : IM) (L' : LM) (a3 a4 : Int32), 1 ≤ i → i + k = 560 → rSame I I' → a4 = (bestF (rE I) (wN (rE I)) j i).1 → a3 = (bestF (rE I) (wN (rE I)) j i).2 →
          X mR_best G (10, 0, 0) S1 I' L' 31 [.ref 59, .int (nI j), .int w, .int a3, .int a4, .int (nI i)] [] Post := by
        intro k
        induction k with
        | zero =>
          intro i I' L' a3 a4 i1 hi sm e4 e3
          obtain rfl : i = 560 := by omega
          refine x_iload dR_best_31 rfl ?_
          refine x_sipush (v := 560) dR_best_33 rfl ?_
          -- at 36: .if_icmp .ge 55
          refine x_icmp_ge (tgt := 91) dR_best_36 (by decide) (fun _ => ?_) (fun h => absurd (by decide) h)
          refine x_iload_n dR_best_91 rfl ?_
          -- at 92: .ifCond .ne 7
          refine x_if_ne (tgt := 99) dR_best_92 (by decide) (fun w0 => ?_) (fun w0 => ?_)
          · refine x_iload dR_best_99 rfl ?_
            -- at 101: .ireturn
            refine x_ireturn dR_best_101 rfl rfl ?_
            rw [if_neg w0, ← e4] at h1
            exact h1 sm
          · refine x_iload_n dR_best_95 rfl ?_
            refine x_goto (tgt := 101) dR_best_96 (by decide) ?_
            -- at 101: .ireturn
            refine x_ireturn dR_best_101 rfl rfl ?_
            rw [if_pos w0, ← e3] at h1
            exact h1 sm
        | succ k ih =>
          intro i I' L' a3 a4 i1 hi sm e4 e3
          have keep : bestF (rE I) (wN (rE I)) j (i + 1) = bestF (rE I) (wN (rE I)) j i → ∀ (I2 : IM) (L2 : LM), rSame I I2 → X mR_best G (10, 0, 0) S1 I2 L2 85 [.ref 59, .int (nI j), .int w, .int a3, .int a4, .int (nI i)] [] Post := by
            intro hb I2 L2 sm2
            refine x_iincp_5 dR_best_85 rfl rfl ?_
            refine x_goto (tgt := 31) dR_best_88 (by decide) ?_
            -- at 31: .iload 5
            rw [nI_1]
            exact ih (i + 1) I2 L2 a3 a4 (by omega) (by omega) sm2 (by rw [hb]; exact e4) (by rw [hb]; exact e3)
          refine x_iload dR_best_31 rfl ?_
          refine x_sipush (v := 560) dR_best_33 rfl ?_
          -- at 36: .if_icmp .ge 55
          refine x_icmp_ge (tgt := 91) dR_best_36 (by decide) (fun h => absurd h (nI_ge (b := 560) (by omega) (by omega))) (fun _ => ?_)
          refine x_iload dR_best_39 rfl ?_
          -- at 41: .invokestatic 322
          refine x_callS_1 c_R_isHow ok_R_isHow ml_R_322 dR_best_41 rfl rfl ?_
          refine ⟨i, rfl, i1, by omega, fun c1 => ?_, fun c1 => ?_⟩
          · refine x_if_eq (tgt := 85) dR_best_44 (by decide) (fun h => absurd h (by decide)) (fun _ => ?_)
            refine x_aload_n dR_best_47 rfl ?_
            refine x_iload_n dR_best_48 rfl ?_
            refine x_iload dR_best_49 rfl ?_
            -- at 51: .invokevirtual 325
            refine x_callV_2 c_R_owesWith ok_R_owesWith ml_R_325 dR_best_51 rfl rfl rfl rfl rfl ?_
            refine ⟨j, nI i, rfl, rfl, ⟨sm.inv hok, sm.2.2⟩, by rw [sm.2.1]; exact hj, c1, fun I2 L2 sm2 _ hk => ?_⟩
            rw [sm.2.1] at hk
            have sm3 := sm.tr sm2
            refine x_aload_n dR_best_54 rfl ?_
            refine x_iload_n dR_best_55 rfl ?_
            -- at 56: .invokevirtual 307
            refine x_callV_1 c_R_isKept ok_R_isKept ml_R_307 dR_best_56 rfl rfl rfl rfl rfl ?_
            refine ⟨j, _, _, _, _, _, rfl, rfl, by omega, hk, fun c2 => ?_, fun c2 => ?_⟩
            · have c2 : keep1 (rE I) (wN (rE I)) j (nI i) = true := c2
              have hs : bestF (rE I) (wN (rE I)) j (i + 1) = if (bestF (rE I) (wN (rE I)) j i).2 = -1 ∨ pain1 (rE I) (wN (rE I)) j (nI i) < (bestF (rE I) (wN (rE I)) j i).1 then (pain1 (rE I) (wN (rE I)) j (nI i), nI i) else bestF (rE I) (wN (rE I)) j i := by
                rw [bestF, if_neg (not_not_intro c1), if_neg (by rw [c2]; decide)]
              rw [← e3, ← e4] at hs
              have epn : painA (M1 (rE I) j (nI i)) (PE (rE I)) (TQ (R1 (rE I) (wN (rE I)) j (nI i)) (qN (rE I))) (pN (rE I)) = pain1 (rE I) (wN (rE I)) j (nI i) := by rw [TQ_1]; rfl
              have take : (a3 = -1 ∨ pain1 (rE I) (wN (rE I)) j (nI i) < a4) → ∀ (I3 : IM) (L3 : LM), rSame I I3 → Kp1 I3 (rE I) j (nI i) → X mR_best G (10, 0, 0) S1 I3 L3 76 [.ref 59, .int (nI j), .int w, .int a3, .int a4, .int (nI i)] [] Post := by
                intro hc I3 L3 sm4 hk3
                rw [if_pos hc] at hs
                refine x_iload dR_best_76 rfl ?_
                refine x_istoren_3 dR_best_78 rfl rfl ?_
                refine x_aload_n dR_best_79 rfl ?_
                -- at 80: .invokevirtual 316
                refine x_callV_0 c_R_painNow ok_R_painNow ml_R_316 dR_best_80 rfl rfl rfl rfl rfl ?_
                refine ⟨_, _, _, _, _, rfl, rfl, hk3, fun I4 hF4 => ?_⟩
                refine x_eqi (y := pain1 (rE I) (wN (rE I)) j (nI i)) epn ?_
                refine x_istore_4 dR_best_83 rfl rfl ?_
                refine x_iincp_5 dR_best_85 rfl rfl ?_
                refine x_goto (tgt := 31) dR_best_88 (by decide) ?_
                -- at 31: .iload 5
                rw [nI_1]
                exact ih (i + 1) I4 L3 _ _ (by omega) (by omega) (sm4.fr (hF4.wk (by decide))) (by rw [hs]) (by rw [hs])
              refine x_if_eq (tgt := 85) dR_best_59 (by decide) (fun h => absurd h (by decide)) (fun _ => ?_)
              refine x_iload_n dR_best_62 rfl ?_
              refine x_iconst (v := -1) dR_best_63 rfl ?_
              -- at 64: .if_icmp .eq 12
              refine x_icmp_eq (tgt := 76) dR_best_64 (by decide) (fun c3 => ?_) (fun c3 => ?_)
              · exact take (Or.inl c3) I2 L2 sm3 hk
              · refine x_aload_n dR_best_67 rfl ?_
                -- at 68: .invokevirtual 316
                refine x_callV_0 c_R_painNow ok_R_painNow ml_R_316 dR_best_68 rfl rfl rfl rfl rfl ?_
                refine ⟨_, _, _, _, _, rfl, rfl, hk, fun I3 hF3 => ?_⟩
                refine x_eqi (y := pain1 (rE I) (wN (rE I)) j (nI i)) epn ?_
                refine x_iload dR_best_71 rfl ?_
                -- at 73: .if_icmp .ge 12
                refine x_icmp_ge (tgt := 85) dR_best_73 (by decide) (fun c4 => ?_) (fun c4 => ?_)
                · exact keep (by rw [hs, if_neg (fun z => z.elim c3 (fun y => Int32.not_lt.mpr c4 y))]) I3 L2 (sm3.fr (hF3.wk (by decide)))
                · exact take (Or.inr (Int32.not_le.mp c4)) I3 L2 (sm3.fr (hF3.wk (by decide))) (hk.fr hF3)
            · have c2 : ¬ keep1 (rE I) (wN (rE I)) j (nI i) = true := c2
              refine x_if_eq (tgt := 85) dR_best_59 (by decide) (fun _ => ?_) (fun h => absurd (by decide) h)
              exact keep (by rw [bestF, if_neg (not_not_intro c1), if_pos (Bool.not_eq_true _ ▸ c2)]) I2 L2 sm3
          · refine x_if_eq (tgt := 85) dR_best_44 (by decide) (fun _ => ?_) (fun h => absurd (by decide) h)
            exact keep (by rw [bestF, if_pos c1]) I' L' sm
      refine loop 559 1 I L (-1) (-1) (Nat.le_refl _) rfl (rSame.refl own) ?_ ?_ <;> rfl
    · have a2 : ¬ inR w 0 1 := a2
      refine x_if_ne (tgt := 23) dR_best_17 (by decide) (fun h => absurd (by decide) h) (fun _ => ?_)
      rw [if_pos a2] at h1
      refine x_bipush (v := -7) dR_best_20 rfl ?_
      -- at 22: .ireturn
      refine x_ireturn dR_best_22 rfl rfl ?_
      exact h1 (rSame.refl own)
  · have a1 : ¬ inR q 0 (rE I 29 2 - 1) := a1
    refine x_if_ne (tgt := 11) dR_best_5 (by decide) (fun h => absurd (by decide) h) (fun _ => ?_)
    rw [bestS, if_pos a1] at h1
    refine x_bipush (v := -5) dR_best_8 rfl ?_
    -- at 10: .ireturn
    refine x_ireturn dR_best_10 rfl rfl ?_
    exact h1 (rSame.refl own)
theorem foe_hi (E : IM) (t p q : Nat) : ∀ d, d ≤ 40 → foeF E t p q (560 + d) = foeF E t p q 560 := by
  intro d
  induction d with
  | zero => intro _; rfl
  | succ k ih =>
    intro h
    rw [← Nat.add_assoc, foeF, if_pos (how_hi (560 + k) (by omega) (by omega)), ih (by omega)]
theorem sum_nn {f : Nat → Int32} (h : r99 f) : ∀ n, n ≤ 8 → rng (sumQ f n) (100 * n + 1) := by
  intro n
  induction n with
  | zero => intro _; exact ⟨0, by omega, rfl⟩
  | succ k ih =>
    intro hk
    obtain ⟨a, ha, ea⟩ := ih (by omega)
    obtain ⟨b, hb, eb⟩ := h k
    rw [sumQ, ea, eb, nI_add]
    exact ⟨a + b, by omega, rfl⟩
/-- what one owes is no less than 0 -/
theorem T1_nn {E : IM} (h : Inv E) (t q : Nat) {p : Nat} (hp : p < pN E) (x : Int32) : 0 ≤ T1 E t q x p := by
  unfold T1
  rw [← tot_sum]
  have hr : r99 (fin1 (M1 E q x) (D1 E t q x p) (qN E) (-1) (sN E + 1) p).1 := by
    refine (cut_keep (str_keep (max_keep (fun s => share_rng _ _ _ _ _) _) _ (fun i hi => ?_) h.b.2.1) ?_ _).1
    · have e : M1 E q x 13 = E 13 := by unfold M1 sputV; simp only [up2_n, up2_s, ne_eq, Nat.reduceEqDiff, not_false_eq_true]
      rw [e]
      exact (h.b.2.2 i hi).2.2.2
    · have e : M1 E q x 8 = E 8 := by unfold M1 sputV; simp only [up2_n, up2_s, ne_eq, Nat.reduceEqDiff, not_false_eq_true]
      rw [e]
      exact (h.a.2.2 p hp).2.2.2.2.2.2.1
  exact rng_nn (sum_nn hr _ h.b.2.1) (by have := h.b.2.1; omega)
theorem how_1 : isHowP (nI 1) := by decide
def sp_R_foe : SpT := fun as S I L Post => ∃ p q w : Int32, rSp [.int p, .int q, .int w] (fun E => .int (foeS E p q w)) (fun E => E) as S I L Post
set_option maxHeartbeats 4000000 in
set_option maxRecDepth 100000 in
theorem c_R_foe : Con mR_foe 10 0 0 sp_R_foe := by
  refine con_of_X rfl fun G as S I L Post hs => ?_
  obtain ⟨p, q, w, rfl, rfl, ⟨hok, own⟩, h1⟩ := hs
  dsimp only at h1
  have h1 := r_end h1
  refine ⟨3, Nat.le_of_ble_eq_true rfl, ?_⟩
  show X mR_foe G _ S1 I L 0 [.ref 59, .int p, .int q, .int w, .null, .null, .null] [] Post
  have n1 := hok.a.2.1
  have n2 := hok.b.2.1
  have bad : (¬ inR p 0 (rE I 29 1 - 1) ∨ ¬ inR q 0 (rE I 29 2 - 1)) → X mR_foe G (10, 0, 0) S1 I L 16 [.ref 59, .int p, .int q, .int w, .null, .null, .null] [] Post := by
    intro hc
    rw [foeS, if_pos hc] at h1
    refine x_bipush (v := -5) dR_foe_16 rfl ?_
    -- at 18: .ireturn
    refine x_ireturn dR_foe_18 rfl rfl ?_
    exact h1 (rSame.refl own)
  refine x_aload_n dR_foe_0 rfl ?_
  refine x_iload_n dR_foe_1 rfl ?_
  -- at 2: .invokevirtual 230
  refine x_callV_1 c_R_isOne ok_R_isOne ml_R_230 dR_foe_2 rfl rfl rfl rfl rfl ?_
  refine ⟨_, rfl, rfl, fun a0 => ?_, fun a0 => ?_⟩
  · refine x_if_eq (tgt := 16) dR_foe_5 (by decide) (fun h => absurd h (by decide)) (fun _ => ?_)
    refine x_aload_n dR_foe_8 rfl ?_
    refine x_iload_n dR_foe_9 rfl ?_
    -- at 10: .invokevirtual 236
    refine x_callV_1 c_R_isPromise ok_R_isPromise ml_R_236 dR_foe_10 rfl rfl rfl rfl rfl ?_
    refine ⟨_, rfl, rfl, fun a1 => ?_, fun a1 => ?_⟩
    · have a0 : inR p 0 (rE I 29 1 - 1) := a0
      have a1 : inR q 0 (rE I 29 2 - 1) := a1
      refine x_if_ne (tgt := 19) dR_foe_13 (by decide) (fun _ => ?_) (fun h => absurd h (by decide))
      rw [foeS, if_neg (fun z => z.elim (fun y => y a0) (fun y => y a1))] at h1
      rw [show rE I 29 1 = nI (pN (rE I)) from hok.a.1] at a0
      rw [show rE I 29 2 = nI (qN (rE I)) from hok.b.1] at a1
      obtain ⟨m, hm, rfl⟩ := has_nat (by omega) a0
      obtain ⟨j, hj, rfl⟩ := has_nat (by omega) a1
      rw [cl_nI (by omega), cl_nI (by omega)] at h1
      refine x_iload_n dR_foe_19 rfl ?_
      refine x_iconst (v := 0) dR_foe_20 rfl ?_
      refine x_iconst (v := 1) dR_foe_21 rfl ?_
      -- at 22: .invokestatic 151
      refine x_callS_3 c_R_in ok_R_in ml_R_151 dR_foe_22 rfl rfl ?_
      refine ⟨_, _, _, rfl, fun a2 => ?_, fun a2 => ?_⟩
      · have a2 : inR w 0 1 := a2
        refine x_if_ne (tgt := 31) dR_foe_25 (by decide) (fun _ => ?_) (fun h => absurd h (by decide))
        rw [if_neg (not_not_intro a2), show 600 = 560 + 40 from rfl, foe_hi _ _ _ _ 40 (by omega)] at h1
        refine x_iconst (v := -1) dR_foe_31 rfl ?_
        refine x_istore_4 dR_foe_32 rfl rfl ?_
        refine x_iconst (v := 0) dR_foe_34 rfl ?_
        refine x_istore_5 dR_foe_35 rfl rfl ?_
        refine x_iconst (v := 1) dR_foe_37 rfl ?_
        refine x_istore_6 dR_foe_38 rfl rfl ?_
        -- at 40: .iload 6
        have loop : ∀ (k i : Nat) (I' : IM) (L' : LM) (a4 a5 : Int32), 1 ≤ i → i + k = 560 → rSame I I' → ((i = 1 ∧ a4 = -1 ∧ a5 = 0) ∨ (2 ≤ i ∧ a5 = (foeF (rE I) (wN (rE I)) m j i).1 ∧ a4 = (foeF (rE I) (wN (rE I)) m j i).2 ∧ ¬ a4 = -1)) →
            X mR_foe G (10, 0, 0) S1 I' L' 40 [.ref 59, .int (nI m), .int (nI j), .int w, .int a4, .int a5, .int (nI i)] [] Post := by
          intro k
          induction k with
          | zero =>
            intro i I' L' a4 a5 i1 hi sm hst
            obtain rfl : i = 560 := by omega
            rcases hst with ⟨z, -⟩ | ⟨-, e5, e4, -⟩
            · exact absurd z (by decide)
            · refine x_iload dR_foe_40 rfl ?_
              refine x_sipush (v := 560) dR_foe_42 rfl ?_
              -- at 45: .if_icmp .ge 51
              refine x_icmp_ge (tgt := 96) dR_foe_45 (by decide) (fun _ => ?_) (fun h => absurd (by decide) h)
              refine x_iload_n dR_foe_96 rfl ?_
              -- at 97: .ifCond .ne 8
              refine x_if_ne (tgt := 105) dR_foe_97 (by decide) (fun w0 => ?_) (fun w0 => ?_)
              · refine x_iload dR_foe_105 rfl ?_
                -- at 107: .ireturn
                refine x_ireturn dR_foe_107 rfl rfl ?_
                rw [if_neg w0, ← e5] at h1
                exact h1 sm
              · refine x_iload dR_foe_100 rfl ?_
                refine x_goto (tgt := 107) dR_foe_102 (by decide) ?_
                -- at 107: .ireturn
                refine x_ireturn dR_foe_107 rfl rfl ?_
                rw [if_pos w0, ← e4] at h1
                exact h1 sm
          | succ k ih =>
            intro i I' L' a4 a5 i1 hi sm hst
            refine x_iload dR_foe_40 rfl ?_
            refine x_sipush (v := 560) dR_foe_42 rfl ?_
            -- at 45: .if_icmp .ge 51
            refine x_icmp_ge (tgt := 96) dR_foe_45 (by decide) (fun h => absurd h (nI_ge (b := 560) (by omega) (by omega))) (fun _ => ?_)
            refine x_iload dR_foe_48 rfl ?_
            -- at 50: .invokestatic 322
            refine x_callS_1 c_R_isHow ok_R_isHow ml_R_322 dR_foe_50 rfl rfl ?_
            refine ⟨i, rfl, i1, by omega, fun c1 => ?_, fun c1 => ?_⟩
            · refine x_if_eq (tgt := 90) dR_foe_53 (by decide) (fun h => absurd h (by decide)) (fun _ => ?_)
              refine x_aload_n dR_foe_56 rfl ?_
              refine x_iload_n dR_foe_57 rfl ?_
              refine x_iload dR_foe_58 rfl ?_
              -- at 60: .invokevirtual 325
              refine x_callV_2 c_R_owesWith ok_R_owesWith ml_R_325 dR_foe_60 rfl rfl rfl rfl rfl ?_
              refine ⟨j, nI i, rfl, rfl, ⟨sm.inv hok, sm.2.2⟩, by rw [sm.2.1]; exact hj, c1, fun I2 L2 sm2 ho hk => ?_⟩
              rw [sm.2.1] at hk ho
              have sm3 := sm.tr sm2
              have et : TQ (R1 (rE I) (wN (rE I)) j (nI i)) (qN (rE I)) m = T1 (rE I) (wN (rE I)) j (nI i) m := congrFun (TQ_1 (rE I) j (nI i)) m
              have hnn := T1_nn hok (wN (rE I)) j hm (nI i)
              have hs : foeF (rE I) (wN (rE I)) m j (i + 1) = if T1 (rE I) (wN (rE I)) j (nI i) m ≤ (foeF (rE I) (wN (rE I)) m j i).1 then foeF (rE I) (wN (rE I)) m j i else (T1 (rE I) (wN (rE I)) j (nI i) m, nI i) := by
                rw [foeF, if_neg (not_not_intro c1)]
              generalize T1 (rE I) (wN (rE I)) j (nI i) m = tt at hs hnn et
              have take : foeF (rE I) (wN (rE I)) m j (i + 1) = (tt, nI i) → X mR_foe G (10, 0, 0) S1 I2 L2 79 [.ref 59, .int (nI m), .int (nI j), .int w, .int a4, .int a5, .int (nI i)] [] Post := by
                intro hc
                refine x_iload dR_foe_79 rfl ?_
                refine x_istore_4 dR_foe_81 rfl rfl ?_
                refine x_aload_n dR_foe_83 rfl ?_
                refine x_iload_n dR_foe_84 rfl ?_
                -- at 85: .invokevirtual 298
                refine x_callV_1 c_R_owedBy ok_R_owedBy ml_R_298 dR_foe_85 rfl rfl rfl rfl rfl ?_
                refine ⟨m, _, _, _, rfl, rfl, hm, n1, hk.q, n2, hk.2.2.2.2.2.1, ?_⟩
                refine x_eqi (y := tt) et ?_
                refine x_istore_5 dR_foe_88 rfl rfl ?_
                refine x_iincp_6 dR_foe_90 rfl rfl ?_
                refine x_goto (tgt := 40) dR_foe_93 (by decide) ?_
                -- at 40: .iload 6
                rw [nI_1]
                refine ih (i + 1) I2 L2 _ _ (by omega) (by omega) sm3 (Or.inr ⟨by omega, by rw [hc], by rw [hc], fun z => ?_⟩)
                have := nI_pos' (n := i) (by omega)
                rw [z] at this
                exact absurd this (by decide)
              refine x_iload dR_foe_63 rfl ?_
              refine x_iconst (v := -1) dR_foe_65 rfl ?_
              -- at 66: .if_icmp .eq 13
              rcases hst with ⟨rfl, rfl, rfl⟩ | ⟨i2, e5, e4, hne⟩
              · refine x_icmp_eq (tgt := 79) dR_foe_66 (by decide) (fun _ => ?_) (fun h => absurd rfl h)
                refine take (by rw [hs, if_neg]; rw [foeF, if_pos (by decide), foeF]; intro z; exact absurd (Int32.le_trans hnn z) (by decide))
              · refine x_icmp_eq (tgt := 79) dR_foe_66 (by decide) (fun h => absurd h hne) (fun _ => ?_)
                refine x_aload_n dR_foe_69 rfl ?_
                refine x_iload_n dR_foe_70 rfl ?_
                -- at 71: .invokevirtual 298
                refine x_callV_1 c_R_owedBy ok_R_owedBy ml_R_298 dR_foe_71 rfl rfl rfl rfl rfl ?_
                refine ⟨m, _, _, _, rfl, rfl, hm, n1, hk.q, n2, hk.2.2.2.2.2.1, ?_⟩
                refine x_eqi (y := tt) et ?_
                refine x_iload dR_foe_74 rfl ?_
                -- at 76: .if_icmp .le 14
                refine x_icmp_le (tgt := 90) dR_foe_76 (by decide) (fun c3 => ?_) (fun c3 => ?_)
                · rw [e5] at c3
                  rw [if_pos c3] at hs
                  refine x_iincp_6 dR_foe_90 rfl rfl ?_
                  refine x_goto (tgt := 40) dR_foe_93 (by decide) ?_
                  -- at 40: .iload 6
                  rw [nI_1]
                  exact ih (i + 1) I2 L2 a4 a5 (by omega) (by omega) sm3 (Or.inr ⟨by omega, by rw [hs]; exact e5, by rw [hs]; exact e4, hne⟩)
                · rw [e5] at c3
                  rw [if_neg c3] at hs
                  exact take hs
            · refine x_if_eq (tgt := 90) dR_foe_53 (by decide) (fun _ => ?_) (fun h => absurd (by decide) h)
              rcases hst with ⟨rfl, rfl, rfl⟩ | ⟨i2, e5, e4, hne⟩
              · exact absurd how_1 c1
              · have hb : foeF (rE I) (wN (rE I)) m j (i + 1) = foeF (rE I) (wN (rE I)) m j i := by rw [foeF, if_pos c1]
                refine x_iincp_6 dR_foe_90 rfl rfl ?_
                refine x_goto (tgt := 40) dR_foe_93 (by decide) ?_
                -- at 40: .iload 6
                rw [nI_1]
                exact ih (i + 1) I' L' a4 a5 (by omega) (by omega) sm (Or.inr ⟨by omega, by rw [hb]; exact e5, by rw [hb]; exact e4, hne⟩)
        exact loop 559 1 I L (-1) 0 (Nat.le_refl _) rfl (rSame.refl own) (Or.inl ⟨rfl, rfl, rfl⟩)
      · have a2 : ¬ inR w 0 1 := a2
        refine x_if_ne (tgt := 31) dR_foe_25 (by decide) (fun h => absurd (by decide) h) (fun _ => ?_)
        rw [if_pos a2] at h1
        refine x_bipush (v := -7) dR_foe_28 rfl ?_
        -- at 30: .ireturn
        refine x_ireturn dR_foe_30 rfl rfl ?_
        exact h1 (rSame.refl own)
    · refine x_if_ne (tgt := 19) dR_foe_13 (by decide) (fun h => absurd (by decide) h) (fun _ => ?_)
      exact bad (Or.inr a1)
  · refine x_if_eq (tgt := 16) dR_foe_5 (by decide) (fun _ => ?_) (fun h => absurd (by decide) h)
    exact bad (Or.inl a0)
def sp_R_loud : SpT := fun as S I L Post => ∃ q u v : Int32, rSp [.int q, .int u, .int v] (fun E => .int (loudS E q u v)) (fun E => E) as S I L Post
set_option maxHeartbeats 4000000 in
set_option maxRecDepth 100000 in
theorem c_R_loud : Con mR_loud 10 0 0 sp_R_loud := by
  refine con_of_X rfl fun G as S I L Post hs => ?_
  obtain ⟨q, u, v, rfl, rfl, ⟨hok, own⟩, h1⟩ := hs
  dsimp only at h1
  have h1 := r_end h1
  refine ⟨1, Nat.le_of_ble_eq_true rfl, ?_⟩
  show X mR_loud G _ S1 I L 0 [.ref 59, .int q, .int u, .int v, .null] [] Post
  have n2 := hok.b.2.1
  refine x_aload_n dR_loud_0 rfl ?_
  refine x_iload_n dR_loud_1 rfl ?_
  -- at 2: .invokevirtual 236
  refine x_callV_1 c_R_isPromise ok_R_isPromise ml_R_236 dR_loud_2 rfl rfl rfl rfl rfl ?_
  refine ⟨_, rfl, rfl, fun a0 => ?_, fun a0 => ?_⟩
  · have a0 : inR q 0 (rE I 29 2 - 1) := a0
    refine x_if_ne (tgt := 11) dR_loud_5 (by decide) (fun _ => ?_) (fun h => absurd h (by decide))
    rw [loudS, if_neg (not_not_intro a0)] at h1
    rw [show rE I 29 2 = nI (qN (rE I)) from hok.b.1] at a0
    obtain ⟨j, hj, rfl⟩ := has_nat (by omega) a0
    rw [cl_nI (by omega)] at h1
    have bad : (¬ inR u 0 5 ∨ ¬ inR v 0 5) → X mR_loud G (10, 0, 0) S1 I L 29 [.ref 59, .int (nI j), .int u, .int v, .null] [] Post := by
      intro hc
      rw [if_pos hc] at h1
      refine x_bipush (v := -7) dR_loud_29 rfl ?_
      -- at 31: .ireturn
      refine x_ireturn dR_loud_31 rfl rfl ?_
      exact h1 (rSame.refl own)
    refine x_iload_n dR_loud_11 rfl ?_
    refine x_iconst (v := 0) dR_loud_12 rfl ?_
    refine x_iconst (v := 5) dR_loud_13 rfl ?_
    -- at 14: .invokestatic 151
    refine x_callS_3 c_R_in ok_R_in ml_R_151 dR_loud_14 rfl rfl ?_
    refine ⟨_, _, _, rfl, fun a1 => ?_, fun a1 => ?_⟩
    · refine x_if_eq (tgt := 29) dR_loud_17 (by decide) (fun h => absurd h (by decide)) (fun _ => ?_)
      refine x_iload_n dR_loud_20 rfl ?_
      refine x_iconst (v := 0) dR_loud_21 rfl ?_
      refine x_iconst (v := 5) dR_loud_22 rfl ?_
      -- at 23: .invokestatic 151
      refine x_callS_3 c_R_in ok_R_in ml_R_151 dR_loud_23 rfl rfl ?_
      refine ⟨_, _, _, rfl, fun a2 => ?_, fun a2 => ?_⟩
      · have a1 : inR u 0 5 := a1
        have a2 : inR v 0 5 := a2
        refine x_if_ne (tgt := 32) dR_loud_26 (by decide) (fun _ => ?_) (fun h => absurd h (by decide))
        rw [if_neg (fun z => z.elim (fun y => y a1) (fun y => y a2))] at h1
        obtain ⟨x, hx, rfl⟩ := inR_of (n := 5) (by decide) a1
        obtain ⟨y, hy, rfl⟩ := inR_of (n := 5) (by decide) a2
        rw [cl_nI (by omega), cl_nI (by omega)] at h1
        refine x_iconst (v := 1) dR_loud_32 rfl ?_
        refine x_istore_4 dR_loud_33 rfl rfl ?_
        -- at 35: .iload 4
        have loop : ∀ (k i : Nat) (I' : IM) (L' : LM), 1 ≤ i → i + k = 10 → rSame I I' → loudR (rE I) (wN (rE I)) j (100 * x + 10 * y) 9 1 = loudR (rE I) (wN (rE I)) j (100 * x + 10 * y) k i → X mR_loud G (10, 0, 0) S1 I' L' 35 [.ref 59, .int (nI j), .int (nI x), .int (nI y), .int (nI i)] [] Post := by
          intro k
          induction k with
          | zero =>
            intro i I' L' i1 hi sm he
            obtain rfl : i = 10 := by omega
            refine x_iload dR_loud_35 rfl ?_
            refine x_bipush (v := 9) dR_loud_37 rfl ?_
            -- at 39: .if_icmp .gt 37
            refine x_icmp_gt (tgt := 76) dR_loud_39 (by decide) (fun _ => ?_) (fun h => absurd (by decide) h)
            refine x_iconst (v := -1) dR_loud_76 rfl ?_
            -- at 77: .ireturn
            refine x_ireturn dR_loud_77 rfl rfl ?_
            rw [he, loudR] at h1
            exact h1 sm
          | succ k ih =>
            intro i I' L' i1 hi sm he
            refine x_iload dR_loud_35 rfl ?_
            refine x_bipush (v := 9) dR_loud_37 rfl ?_
            -- at 39: .if_icmp .gt 37
            refine x_icmp_gt (tgt := 76) dR_loud_39 (by decide) (fun h => absurd h (Int32.not_lt.mpr ((nI_leI (b := 9) (by omega) (by omega)).mpr (by omega)))) (fun _ => ?_)
            refine x_aload_n dR_loud_42 rfl ?_
            refine x_iload_n dR_loud_43 rfl ?_
            refine x_bipush (v := 100) dR_loud_44 rfl ?_
            refine x_iload_n dR_loud_46 rfl ?_
            refine x_imul dR_loud_47 ?_
            refine x_bipush (v := 10) dR_loud_48 rfl ?_
            refine x_iload_n dR_loud_50 rfl ?_
            refine x_imul dR_loud_51 ?_
            refine x_iadd dR_loud_52 ?_
            refine x_iload dR_loud_53 rfl ?_
            refine x_iadd dR_loud_55 ?_
            -- at 56: .invokevirtual 325
            have ee : (100 : Int32) * nI x + 10 * nI y + nI i = nI (100 * x + 10 * y + i) := by
              rw [show (100 : Int32) = nI 100 from rfl, show (10 : Int32) = nI 10 from rfl, pk_mul, pk_mul, nI_add, nI_add]
            rw [ee]
            refine x_callV_2 c_R_owesWith ok_R_owesWith ml_R_325 dR_loud_56 rfl rfl rfl rfl rfl ?_
            refine ⟨j, _, rfl, rfl, ⟨sm.inv hok, sm.2.2⟩, by rw [sm.2.1]; exact hj, how_mk (by omega) (by omega) (by omega) (by omega), fun I2 L2 sm2 ho hk => ?_⟩
            rw [sm.2.1] at hk
            have sm3 := sm.tr sm2
            refine x_aload_n dR_loud_59 rfl ?_
            refine x_iload_n dR_loud_60 rfl ?_
            -- at 61: .invokevirtual 307
            refine x_callV_1 c_R_isKept ok_R_isKept ml_R_307 dR_loud_61 rfl rfl rfl rfl rfl ?_
            refine ⟨j, _, _, _, _, _, rfl, rfl, by omega, hk, fun c2 => ?_, fun c2 => ?_⟩
            · have c2 : keep1 (rE I) (wN (rE I)) j (nI (100 * x + 10 * y + i)) = true := c2
              refine x_if_eq (tgt := 70) dR_loud_64 (by decide) (fun h => absurd h (by decide)) (fun _ => ?_)
              refine x_iload dR_loud_67 rfl ?_
              -- at 69: .ireturn
              refine x_ireturn dR_loud_69 rfl rfl ?_
              rw [he, loudR, if_pos c2] at h1
              exact h1 sm3
            · have c2 : ¬ keep1 (rE I) (wN (rE I)) j (nI (100 * x + 10 * y + i)) = true := c2
              refine x_if_eq (tgt := 70) dR_loud_64 (by decide) (fun _ => ?_) (fun h => absurd (by decide) h)
              refine x_iincp_4 dR_loud_70 rfl rfl ?_
              refine x_goto (tgt := 35) dR_loud_73 (by decide) ?_
              -- at 35: .iload 4
              rw [nI_1]
              refine ih (i + 1) I2 L2 (by omega) (by omega) sm3 ?_
              rw [he, loudR, if_neg c2]
        exact loop 9 1 I L (Nat.le_refl _) rfl (rSame.refl own) rfl
      · refine x_if_ne (tgt := 32) dR_loud_26 (by decide) (fun h => absurd (by decide) h) (fun _ => ?_)
        exact bad (Or.inr a2)
    · refine x_if_eq (tgt := 29) dR_loud_17 (by decide) (fun _ => ?_) (fun h => absurd (by decide) h)
      exact bad (Or.inl a1)
  · have a0 : ¬ inR q 0 (rE I 29 2 - 1) := a0
    refine x_if_ne (tgt := 11) dR_loud_5 (by decide) (fun h => absurd (by decide) h) (fun _ => ?_)
    rw [loudS, if_pos a0] at h1
    refine x_bipush (v := -5) dR_loud_8 rfl ?_
    -- at 10: .ireturn
    refine x_ireturn dR_loud_10 rfl rfl ?_
    exact h1 (rSame.refl own)
theorem RTx.up59 {I : IM} {P : Nat → List Int32} (h : RTx I P) {j : Nat} (hj : j ≠ 27) (x : Int32) : RTx (up2 I 59 j x) P := by
  unfold RTx TxtR at h ⊢
  rw [up2_s, up1_n _ _ (Ne.symm hj), up2_n _ _ _ (by decide), up2_n _ _ _ (by decide)]
  exact h
theorem KpOk.up59 {I V : IM} {P : Nat → List Int32} {Q : Nat → Nat → Int32} {n nq : Nat} (h : KpOk I V P Q n nq) {j : Nat} (hj : j ∉ [3, 12, 27]) (x : Int32) : KpOk (up2 I 59 j x) V P Q n nq := by
  simp only [List.mem_cons, List.not_mem_nil, or_false, not_or] at hj
  obtain ⟨⟨m, h1⟩, h2, h3, h4, h5, h6, h7⟩ := h
  refine ⟨⟨m, by rw [rV_59]; exact h1⟩, by rw [up2_s, up1_n _ _ (by omega)]; exact h2, h3, by rw [up2_s, up1_n _ _ (by omega)]; exact h4, h5, ?_, h7.up59 (by omega) x⟩
  unfold RowR
  rw [up2_n _ _ _ (by decide)]
  exact h6
theorem rSame.but {I I' : IM} (h : rSame I I') : rSame I (up2 I' 59 60 (-1)) := by
  refine ⟨fun k hk => by rw [up2_n _ _ _ (by omega)]; exact h.1 k hk, by rw [rE_59 (by decide)]; exact h.2.1, ?_⟩
  obtain ⟨o1, o2, o3⟩ := h.2.2
  exact ⟨by rw [up2_s, up1_n _ _ (by decide)]; exact o1, by rw [up2_s, up1_s], fun k hk => by rw [up2_n _ _ _ (by decide)]; exact o3 k hk⟩
def sp_R_spare : SpT := rSp [] (fun E => .int (spareS E)) (fun E => E)
set_option maxHeartbeats 4000000 in
set_option maxRecDepth 100000 in
theorem c_R_spare : Con mR_spare 9 0 0 sp_R_spare := by
  refine con_of_X rfl fun G as S I L Post hs => ?_
  obtain ⟨rfl, rfl, ⟨hok, own⟩, h1⟩ := hs
  dsimp only at h1
  have h1 := r_end h1
  refine ⟨3, Nat.le_of_ble_eq_true rfl, ?_⟩
  show X mR_spare G _ S1 I L 0 [.ref 59, .null, .null, .null] [] Post
  have n3 := hok.c.2.1
  refine x_aload_n dR_spare_0 rfl ?_
  refine x_aload_n dR_spare_1 rfl ?_
  refine x_getI fl_R_158 rfl dR_spare_2 rfl rfl ?_
  -- at 5: .invokevirtual 295
  rw [show I 59 17 = nI (sN (rE I)) from hok.c.1]
  refine x_callV_1 cE_R_owesN ok_R_owes ml_R_295 dR_spare_5 rfl rfl rfl rfl rfl ?_
  refine ⟨_, rfl, rfl, hok, own.1, own.2.1, fun I1 L1 hF1 ho1 hk1 => ?_⟩
  refine x_aload_n dR_spare_8 rfl ?_
  -- at 9: .invokevirtual 310
  refine x_callV_0 c_R_keptNow ok_R_keptNow ml_R_310 dR_spare_9 rfl rfl rfl rfl rfl ?_
  refine ⟨_, _, _, _, _, rfl, rfl, hk1, ?_⟩
  refine x_eqi (y := keptA (rE I)) rfl ?_
  have sm1 := (rSame.refl own).fr (hF1.wk (by decide))
  refine x_istoren_1 dR_spare_12 rfl rfl ?_
  refine x_iconst (v := 0) dR_spare_13 rfl ?_
  refine x_istoren_2 dR_spare_14 rfl rfl ?_
  refine x_iconst (v := 0) dR_spare_15 rfl ?_
  refine x_istoren_3 dR_spare_16 rfl rfl ?_
  -- at 17: .iload_n 3
  have loop : ∀ (k i : Nat) (acc : Int32) (I' : IM) (L' : LM), i + k = sN (rE I) → acc = bs i (spareB (rE I)) → rSame I I' → X mR_spare G (9, 0, 0) S1 I' L' 17 [.ref 59, .int (keptA (rE I)), .int acc, .int (nI i)] [] Post := by
    intro k
    induction k with
    | zero =>
      intro i acc I' L' hi ha sm
      have hi : i = sN (rE I) := by omega
      refine x_iload_n dR_spare_17 rfl ?_
      refine x_aload_n dR_spare_18 rfl ?_
      refine x_getI fl_R_158 rfl dR_spare_19 rfl rfl ?_
      -- at 22: .if_icmp .ge 48
      rw [show I' 59 17 = nI (sN (rE I)) by rw [← sm.2.1]; exact (sm.inv hok).c.1]
      refine x_icmp_ge (tgt := 70) dR_spare_22 (by decide) (fun _ => ?_) (fun h => absurd (by rw [hi]; exact Int32.le_refl _) h)
      refine x_iload_n dR_spare_70 rfl ?_
      -- at 71: .ireturn
      refine x_ireturn dR_spare_71 rfl rfl ?_
      rw [ha, hi]
      unfold spareS at h1
      exact h1 sm
    | succ k ih =>
      intro i acc I' L' hi ha sm
      refine x_iload_n dR_spare_17 rfl ?_
      refine x_aload_n dR_spare_18 rfl ?_
      refine x_getI fl_R_158 rfl dR_spare_19 rfl rfl ?_
      -- at 22: .if_icmp .ge 48
      rw [show I' 59 17 = nI (sN (rE I)) by rw [← sm.2.1]; exact (sm.inv hok).c.1]
      refine x_icmp_ge (tgt := 70) dR_spare_22 (by decide) (fun h => absurd h (nI_ge (by omega) (by omega))) (fun _ => ?_)
      refine x_aload_n dR_spare_25 rfl ?_
      refine x_iload_n dR_spare_26 rfl ?_
      refine x_putI fl_R_131 rfl dR_spare_27 (by decide) rfl rfl rfl rfl ?_
      refine x_aload_n dR_spare_30 rfl ?_
      refine x_aload_n dR_spare_31 rfl ?_
      refine x_getI fl_R_158 rfl dR_spare_32 rfl rfl ?_
      -- at 35: .invokevirtual 295
      have e2 : rE (up2 I' 59 60 (nI i)) = rE I := by rw [rE_59 (by decide)]; exact sm.2.1
      rw [show up2 I' 59 60 (nI i) 59 17 = nI (sN (rE (up2 I' 59 60 (nI i)))) by rw [e2, up2_s, up1_n _ _ (by decide), ← sm.2.1]; exact (sm.inv hok).c.1]
      refine x_callV_1 cE_R_owesN ok_R_owes ml_R_295 dR_spare_35 rfl rfl rfl rfl rfl ?_
      refine ⟨nI i, rfl, rfl, by rw [e2]; exact hok, by rw [up2_s, up1_n _ _ (by decide)]; exact sm.2.2.1, by rw [up2_s, up1_s], fun I2 L2 hF2 ho2 hk2 => ?_⟩
      rw [e2] at hk2
      have sm2 : rSame I (up2 I2 59 60 (-1)) := by
        have hF3 : Fr [93, 94, 95, 96, 97, 98, 99] (up2 I' 59 60 (-1)) (up2 I2 59 60 (-1)) := fun k hk => by
          by_cases e : k = 59
          · subst e
            have e59 := hF2 59 (by decide)
            rw [up2_s] at e59
            rw [up2_s, up2_s, e59]
            funext j
            unfold up1
            by_cases e3 : j = 60 <;> simp [e3]
          · rw [up2_n _ _ _ e, up2_n _ _ _ e, hF2 k (fun z => hk (List.mem_cons_of_mem _ (List.mem_append_left [99] z))), up2_n _ _ _ e]
        exact sm.but.fr hF3
      refine x_aload_n dR_spare_38 rfl ?_
      refine x_iconst (v := -1) dR_spare_39 rfl ?_
      refine x_putI fl_R_131 rfl dR_spare_40 (by decide) rfl rfl rfl rfl ?_
      refine x_iload_n dR_spare_43 rfl ?_
      refine x_iload_n dR_spare_44 rfl ?_
      refine x_aload_n dR_spare_45 rfl ?_
      -- at 46: .invokevirtual 310
      refine x_callV_0 c_R_keptNow ok_R_keptNow ml_R_310 dR_spare_46 rfl rfl rfl rfl rfl ?_
      refine ⟨_, _, _, _, _, rfl, rfl, hk2.up59 (by decide) _, ?_⟩
      refine x_eqi (y := keptW (rE I) i) rfl ?_
      refine x_iconst (v := -1) dR_spare_49 rfl ?_
      refine x_ixor dR_spare_50 ?_
      refine x_iand dR_spare_51 ?_
      -- at 52: .ifCond .ne 9
      refine x_if_ne (tgt := 61) dR_spare_52 (by decide) (fun c1 => ?_) (fun c1 => ?_)
      · refine x_iconst (v := 0) dR_spare_61 rfl ?_
        refine x_ior dR_spare_62 ?_
        -- at 63: .istore_n 2
        refine x_eqi (y := acc) (by simp) ?_
        refine x_istoren_2 dR_spare_63 rfl rfl ?_
        refine x_iincp_3 dR_spare_64 rfl rfl ?_
        refine x_goto (tgt := 17) dR_spare_67 (by decide) ?_
        -- at 17: .iload_n 3
        rw [nI_1]
        refine ih (i + 1) _ _ L2 (by omega) ?_ sm2
        rw [bs, if_neg (show ¬ spareB (rE I) i = true from fun z => c1 (of_decide_eq_true z)), ha]
      · refine x_iconst (v := 1) dR_spare_55 rfl ?_
        refine x_iload_n dR_spare_56 rfl ?_
        refine x_ishl dR_spare_57 ?_
        refine x_goto (tgt := 62) dR_spare_58 (by decide) ?_
        refine x_ior dR_spare_62 ?_
        refine x_istoren_2 dR_spare_63 rfl rfl ?_
        refine x_iincp_3 dR_spare_64 rfl rfl ?_
        refine x_goto (tgt := 17) dR_spare_67 (by decide) ?_
        -- at 17: .iload_n 3
        rw [nI_1]
        refine ih (i + 1) _ _ L2 (by omega) ?_ sm2
        rw [bs, if_pos (show spareB (rE I) i = true from decide_eq_true c1), ha]
        rfl
  exact loop _ 0 0 I1 L1 (Nat.zero_add _) rfl sm1
end
section
-- 72.rc
/-! the reference's calls: even loads -/
theorem bt_and (f g : Nat → Bool) {n p : Nat} (hn : n ≤ 8) (hp : p < n) : (bt (bs n (fun p => f p && g p)) p = true) ↔ (bt (bs n f) p = true ∧ g p = true) := by
  rw [bt_bs _ n (by omega) p (by omega), bt_bs _ n (by omega) p (by omega)]
  simp [hp]
def sp_R_shares : SpT := fun as S I L Post => ∃ q : Nat, as = [.ref 59, .int (nI q)] ∧ S = S1 ∧ rOk I ∧ q < qN (rE I) ∧
  (shE (rE I) q = none → ∀ (I' : IM) (L' : LM), rSame I I' → Post (some (.int 0)) S1 I' L') ∧
  (∀ f, shE (rE I) q = some f → ∀ (I' : IM) (L' : LM), rSame I I' → (∀ p, p < 8 → I' 99 p = f p) → Post (some (.int 1)) S1 I' L')
set_option maxHeartbeats 4000000 in
set_option maxRecDepth 100000 in
theorem c_R_shares : Con mR_shares 7 0 0 sp_R_shares := by
  refine con_of_X rfl fun G as S I L Post hs => ?_
  obtain ⟨q, rfl, rfl, ⟨hok, own⟩, hq, h1, h2⟩ := hs
  refine ⟨5, Nat.le_of_ble_eq_true rfl, ?_⟩
  show X mR_shares G _ S1 I L 0 [.ref 59, .int (nI q), .null, .null, .null, .null, .null] [] Post
  have n1 := hok.a.2.1
  have n2 := hok.b.2.1
  have n3 := hok.c.2.1
  obtain ⟨nd, nd1, nd2, end_⟩ := (hok.b.2.2 q hq).2.1
  unfold shE at h1 h2
  rw [end_, cl_nI (by omega)] at h1 h2
  -- the lightest
  have inner : ∀ (c : Nat) (x : Int32) (F : Nat → Int32) (I' : IM) (L' : LM), rSame I I' → (∀ p, p < 8 → I' 99 p = F p) → ∀ (k i : Nat) (a4 : Int32) (a6 : Value) (o : Int32), i + k = pN (rE I) → cat1at [a6] 1 = true → ltR (rE I) F (bs (pN (rE I)) (evF (rE I) (PE (rE I)) (sN (rE I)) q)) i = (a4, o) → (a4 = -1 ∨ ∃ b, b < i ∧ a4 = nI b ∧ o = rE I 7 b * (F b + 1)) →
      (∀ (a4 a5 a6 : Value) (b : Int32), cat1at [a4] 1 = true → cat1at [a5] 1 = true → cat1at [a6] 1 = true → a4 = .int b → (ltR (rE I) F (bs (pN (rE I)) (evF (rE I) (PE (rE I)) (sN (rE I)) q)) (pN (rE I))).1 = b → X mR_shares G (7, 0, 0) S1 I' L' 201 [.ref 59, .int (nI q), .int (bs (pN (rE I)) (anyF (rE I) (PE (rE I)) (nI q) (sN (rE I)))), .int x, a4, a5, a6] [] Post) →
      X mR_shares G (7, 0, 0) S1 I' L' 79 [.ref 59, .int (nI q), .int (bs (pN (rE I)) (anyF (rE I) (PE (rE I)) (nI q) (sN (rE I)))), .int x, .int a4, .int (nI i), a6] [] Post := by
    intro c x F I' L' sm hF k
    induction k with
    | zero =>
      intro i a4 a6 o hi h6 hl hb hend
      have hi : i = pN (rE I) := by omega
      refine x_iload dR_shares_79 rfl ?_
      refine x_aload_n dR_shares_81 rfl ?_
      refine x_getI fl_R_148 rfl dR_shares_82 rfl rfl ?_
      -- at 85: .if_icmp .ge 116
      rw [show I' 59 3 = nI (pN (rE I)) by rw [← sm.2.1]; exact (sm.inv hok).a.1]
      refine x_icmp_ge (tgt := 201) dR_shares_85 (by decide) (fun _ => ?_) (fun h => absurd (by rw [hi]; exact Int32.le_refl _) h)
      exact hend _ _ _ a4 rfl rfl h6 rfl (by rw [hi] at hl; rw [hl])
    | succ k ih =>
      intro i a4 a6 o hi h6 hl hb hend
      have e62 : I' 62 = rE I 2 := congrFun sm.2.1 2
      have e67 : I' 67 = rE I 7 := congrFun sm.2.1 7
      have e68 : I' 68 = rE I 8 := congrFun sm.2.1 8
      have hcan : ∀ p, canV (rV I') p q = canV (rE I) p q := fun p => by rw [can_eq (rVE I'), sm.2.1]
      have hs : ltR (rE I) F (bs (pN (rE I)) (evF (rE I) (PE (rE I)) (sN (rE I)) q)) (i + 1) = ltS (rE I) F (bs (pN (rE I)) (evF (rE I) (PE (rE I)) (sN (rE I)) q)) i (a4, o) := by rw [ltR, hl]
      have hbit : bt (bs (pN (rE I)) (evF (rE I) (PE (rE I)) (sN (rE I)) q)) i = true ↔ (bt (bs (pN (rE I)) (anyF (rE I) (PE (rE I)) (nI q) (sN (rE I)))) i = true ∧ (!decide (rE I 2 i = 4) && canV (rE I) i q) = true) := bt_and _ _ n1 (by omega)
      rw [ltS] at hs
      dsimp only at hs
      generalize anyF (rE I) (PE (rE I)) (nI q) (sN (rE I)) = am at hbit ih hend ⊢
      have no : ¬ ((bt (bs (pN (rE I)) am) i = true ∧ (!decide (rE I 2 i = 4) && canV (rE I) i q) = true) ∧ F i < rE I 8 i) → X mR_shares G (7, 0, 0) S1 I' L' 140 [.ref 59, .int (nI q), .int (bs (pN (rE I)) am), .int x, .int a4, .int (nI i), a6] [] Post := by
        intro hn
        refine x_iconst (v := 0) dR_shares_140 rfl ?_
        refine x_istore_6 dR_shares_141 rfl rfl ?_
        refine x_iload dR_shares_143 rfl ?_
        -- at 145: .ifCond .eq 50
        refine x_if_eq (tgt := 195) dR_shares_145 (by decide) (fun _ => ?_) (fun h => absurd rfl h)
        refine x_iincp_5 dR_shares_195 rfl rfl ?_
        refine x_goto (tgt := 79) dR_shares_198 (by decide) ?_
        -- at 79: .iload 5
        rw [nI_1]
        refine ih (i + 1) a4 _ o (by omega) rfl (by rw [hs, if_neg (fun z => hn ⟨hbit.mp z.1.1, z.1.2⟩)]) (hb.imp id (fun ⟨b, hb1, hb2⟩ => ⟨b, by omega, hb2⟩)) hend
      refine x_iload dR_shares_79 rfl ?_
      refine x_aload_n dR_shares_81 rfl ?_
      refine x_getI fl_R_148 rfl dR_shares_82 rfl rfl ?_
      -- at 85: .if_icmp .ge 116
      rw [show I' 59 3 = nI (pN (rE I)) by rw [← sm.2.1]; exact (sm.inv hok).a.1]
      refine x_icmp_ge (tgt := 201) dR_shares_85 (by decide) (fun h => absurd h (nI_ge (by omega) (by omega))) (fun _ => ?_)
      refine x_iload_n dR_shares_88 rfl ?_
      refine x_iload dR_shares_89 rfl ?_
      refine x_ishr dR_shares_91 ?_
      refine x_iconst (v := 1) dR_shares_92 rfl ?_
      refine x_iand dR_shares_93 ?_
      -- at 94: .iconst 1
      rw [tst_bit (by omega)]
      refine x_iconst (v := 1) dR_shares_94 rfl ?_
      -- at 95: .if_icmp .ne 45
      by_cases b1 : bt (bs (pN (rE I)) am) i = true
      · rw [if_pos b1]
        refine x_icmp_ne (tgt := 140) dR_shares_95 (by decide) (fun h => absurd rfl h) (fun _ => ?_)
        refine x_aload_n dR_shares_98 rfl ?_
        refine x_getR fl_R_20 rfl dR_shares_99 rfl rfl rfl ?_
        refine x_iload dR_shares_102 rfl ?_
        refine x_ialdJ (j := i) dR_shares_104 rfl rfl (by first | rfl | (simp only [← nI_add, ← pk_mul]; rfl)) (by omega) ?_
        refine x_iconst (v := 4) dR_shares_105 rfl ?_
        -- at 106: .if_icmp .eq 34
        rw [e62]
        by_cases b2 : rE I 2 i = 4
        · refine x_icmp_eq (tgt := 140) dR_shares_106 (by decide) (fun _ => ?_) (fun h => absurd b2 h)
          exact no (fun z => by simp [b2] at z)
        · refine x_icmp_eq (tgt := 140) dR_shares_106 (by decide) (fun h => absurd h b2) (fun _ => ?_)
          refine x_aload_n dR_shares_109 rfl ?_
          refine x_iload dR_shares_110 rfl ?_
          refine x_iload_n dR_shares_112 rfl ?_
          -- at 113: .invokevirtual 283
          refine x_callV_2 c_R_can ok_R_can ml_R_283 dR_shares_113 rfl rfl rfl rfl rfl ?_
          refine ⟨i, q, rfl, rfl, by omega, by omega, fun b3 => ?_, fun b3 => ?_⟩
          · rw [hcan] at b3
            refine x_if_eq (tgt := 140) dR_shares_116 (by decide) (fun h => absurd h (by decide)) (fun _ => ?_)
            refine x_aload_n dR_shares_119 rfl ?_
            refine x_getR fl_R_134 rfl dR_shares_120 rfl rfl rfl ?_
            refine x_iload dR_shares_123 rfl ?_
            refine x_ialdJ (j := i) dR_shares_125 rfl rfl (by first | rfl | (simp only [← nI_add, ← pk_mul]; rfl)) (by omega) ?_
            refine x_aload_n dR_shares_126 rfl ?_
            refine x_getR fl_R_38 rfl dR_shares_127 rfl rfl rfl ?_
            refine x_iload dR_shares_130 rfl ?_
            refine x_ialdJ (j := i) dR_shares_132 rfl rfl (by first | rfl | (simp only [← nI_add, ← pk_mul]; rfl)) (by omega) ?_
            -- at 133: .if_icmp .ge 7
            rw [e68, hF i (by omega)]
            refine x_icmp_ge (tgt := 140) dR_shares_133 (by decide) (fun b4 => ?_) (fun b4 => ?_)
            · exact no (fun z => Int32.not_lt.mpr b4 z.2)
            · have yes : ((bt (bs (pN (rE I)) am) i = true ∧ (!decide (rE I 2 i = 4) && canV (rE I) i q) = true) ∧ F i < rE I 8 i) := ⟨⟨b1, by simp [b2, b3]⟩, Int32.not_le.mp b4⟩
              refine x_iconst (v := 1) dR_shares_136 rfl ?_
              refine x_goto (tgt := 141) dR_shares_137 (by decide) ?_
              refine x_istore_6 dR_shares_141 rfl rfl ?_
              refine x_iload dR_shares_143 rfl ?_
              -- at 145: .ifCond .eq 50
              refine x_if_eq (tgt := 195) dR_shares_145 (by decide) (fun h => absurd h (by decide)) (fun _ => ?_)
              have take : (a4 = -1 ∨ rE I 7 i * (F i + 1) < o) → X mR_shares G (7, 0, 0) S1 I' L' 191 [.ref 59, .int (nI q), .int (bs (pN (rE I)) am), .int x, .int a4, .int (nI i), .int 1] [] Post := by
                intro hc
                refine x_iload dR_shares_191 rfl ?_
                refine x_istore_4 dR_shares_193 rfl rfl ?_
                refine x_iincp_5 dR_shares_195 rfl rfl ?_
                refine x_goto (tgt := 79) dR_shares_198 (by decide) ?_
                -- at 79: .iload 5
                rw [nI_1]
                refine ih (i + 1) (nI i) _ (rE I 7 i * (F i + 1)) (by omega) rfl (by rw [hs, if_pos ⟨⟨hbit.mpr yes.1, yes.2⟩, hc⟩]) (Or.inr ⟨i, by omega, rfl, rfl⟩) hend
              refine x_iload dR_shares_148 rfl ?_
              refine x_iconst (v := -1) dR_shares_150 rfl ?_
              -- at 151: .if_icmp .eq 40
              rcases hb with rfl | ⟨b, hb1, rfl, rfl⟩
              · refine x_icmp_eq (tgt := 191) dR_shares_151 (by decide) (fun _ => ?_) (fun h => absurd rfl h)
                exact take (Or.inl rfl)
              · have hne : ¬ nI b = -1 := fun z => by
                  have := nI_pos' (n := b) (by omega)
                  rw [z] at this
                  exact absurd this (by decide)
                refine x_icmp_eq (tgt := 191) dR_shares_151 (by decide) (fun h => absurd h hne) (fun _ => ?_)
                refine x_aload_n dR_shares_154 rfl ?_
                refine x_getR fl_R_35 rfl dR_shares_155 rfl rfl rfl ?_
                refine x_iload dR_shares_158 rfl ?_
                refine x_ialdJ (j := i) dR_shares_160 rfl rfl (by first | rfl | (simp only [← nI_add, ← pk_mul]; rfl)) (by omega) ?_
                refine x_aload_n dR_shares_161 rfl ?_
                refine x_getR fl_R_134 rfl dR_shares_162 rfl rfl rfl ?_
                refine x_iload dR_shares_165 rfl ?_
                refine x_ialdJ (j := i) dR_shares_167 rfl rfl (by first | rfl | (simp only [← nI_add, ← pk_mul]; rfl)) (by omega) ?_
                refine x_iconst (v := 1) dR_shares_168 rfl ?_
                refine x_iadd dR_shares_169 ?_
                refine x_imul dR_shares_170 ?_
                refine x_aload_n dR_shares_171 rfl ?_
                refine x_getR fl_R_35 rfl dR_shares_172 rfl rfl rfl ?_
                refine x_iload dR_shares_175 rfl ?_
                refine x_ialdJ (j := b) dR_shares_177 rfl rfl (by first | rfl | (simp only [← nI_add, ← pk_mul]; rfl)) (by omega) ?_
                refine x_aload_n dR_shares_178 rfl ?_
                refine x_getR fl_R_134 rfl dR_shares_179 rfl rfl rfl ?_
                refine x_iload dR_shares_182 rfl ?_
                refine x_ialdJ (j := b) dR_shares_184 rfl rfl (by first | rfl | (simp only [← nI_add, ← pk_mul]; rfl)) (by omega) ?_
                refine x_iconst (v := 1) dR_shares_185 rfl ?_
                refine x_iadd dR_shares_186 ?_
                refine x_imul dR_shares_187 ?_
                -- at 188: .if_icmp .ge 7
                rw [e67, hF i (by omega), hF b (by omega)]
                refine x_icmp_ge (tgt := 195) dR_shares_188 (by decide) (fun b5 => ?_) (fun b5 => ?_)
                · refine x_iincp_5 dR_shares_195 rfl rfl ?_
                  refine x_goto (tgt := 79) dR_shares_198 (by decide) ?_
                  -- at 79: .iload 5
                  rw [nI_1]
                  refine ih (i + 1) (nI b) _ _ (by omega) rfl (by rw [hs, if_neg (fun z => z.2.elim hne (fun y => Int32.not_lt.mpr b5 y))]) (Or.inr ⟨b, by omega, rfl, rfl⟩) hend
                · exact take (Or.inr (Int32.not_le.mp b5))
          · rw [hcan] at b3
            refine x_if_eq (tgt := 140) dR_shares_116 (by decide) (fun _ => ?_) (fun h => absurd (by decide) h)
            exact no (fun z => by simp [b3] at z)
      · rw [if_neg b1]
        refine x_icmp_ne (tgt := 140) dR_shares_95 (by decide) (fun _ => ?_) (fun h => absurd h (by decide))
        exact no (fun z => b1 z.1.1)
  have loop3 : ∀ (k i : Nat) (I' : IM) (L' : LM) (F : Nat → Int32) (a4 a5 a6 : Value), i + k = nd → cat1at [a4] 1 = true → cat1at [a5] 1 = true → cat1at [a6] 1 = true → rSame I I' → shR (rE I) (bs (pN (rE I)) (evF (rE I) (PE (rE I)) (sN (rE I)) q)) (pN (rE I)) i = some F → (∀ p, p < 8 → I' 99 p = F p) →
      X mR_shares G (7, 0, 0) S1 I' L' 63 [.ref 59, .int (nI q), .int (bs (pN (rE I)) (anyF (rE I) (PE (rE I)) (nI q) (sN (rE I)))), .int (nI i), a4, a5, a6] [] Post := by
    intro k
    induction k with
    | zero =>
      intro i I' L' F a4 a5 a6 hi q4 q5 q6 sm hf hF
      obtain rfl : i = nd := by omega
      refine x_iload_n dR_shares_63 rfl ?_
      refine x_aload_n dR_shares_64 rfl ?_
      refine x_getR fl_R_47 rfl dR_shares_65 rfl rfl rfl ?_
      refine x_iload_n dR_shares_68 rfl ?_
      refine x_ialdJ (j := q) dR_shares_69 rfl rfl (by first | rfl | (simp only [← nI_add, ← pk_mul]; rfl)) (by omega) ?_
      -- at 70: .if_icmp .ge 156
      rw [show I' 71 q = nI i from (congrFun (congrFun sm.2.1 11) q).trans end_]
      refine x_icmp_ge (tgt := 226) dR_shares_70 (by decide) (fun _ => ?_) (fun h => absurd (Int32.le_refl _) h)
      refine x_iconst (v := 1) dR_shares_226 rfl ?_
      -- at 227: .ireturn
      refine x_ireturn dR_shares_227 rfl rfl ?_
      exact h2 F hf I' L' sm hF
    | succ k ih =>
      intro i I' L' F a4 a5 a6 hi q4 q5 q6 sm hf hF
      refine x_iload_n dR_shares_63 rfl ?_
      refine x_aload_n dR_shares_64 rfl ?_
      refine x_getR fl_R_47 rfl dR_shares_65 rfl rfl rfl ?_
      refine x_iload_n dR_shares_68 rfl ?_
      refine x_ialdJ (j := q) dR_shares_69 rfl rfl (by first | rfl | (simp only [← nI_add, ← pk_mul]; rfl)) (by omega) ?_
      -- at 70: .if_icmp .ge 156
      rw [show I' 71 q = nI nd from (congrFun (congrFun sm.2.1 11) q).trans end_]
      refine x_icmp_ge (tgt := 226) dR_shares_70 (by decide) (fun h => absurd h (nI_ge (by omega) (by omega))) (fun _ => ?_)
      have hs : shR (rE I) (bs (pN (rE I)) (evF (rE I) (PE (rE I)) (sN (rE I)) q)) (pN (rE I)) (i + 1) = if (ltR (rE I) F (bs (pN (rE I)) (evF (rE I) (PE (rE I)) (sN (rE I)) q)) (pN (rE I))).1 = -1 then none else some (up1 F (cl (ltR (rE I) F (bs (pN (rE I)) (evF (rE I) (PE (rE I)) (sN (rE I)) q)) (pN (rE I))).1) (F (cl (ltR (rE I) F (bs (pN (rE I)) (evF (rE I) (PE (rE I)) (sN (rE I)) q)) (pN (rE I))).1) + 1)) := by
        rw [shR, hf]
      have hin := ltR_in (rE I) F (bs (pN (rE I)) (evF (rE I) (PE (rE I)) (sN (rE I)) q)) (pN (rE I))
      refine x_iconst (v := -1) dR_shares_73 rfl ?_
      refine x_istore_4 dR_shares_74 rfl rfl ?_
      refine x_iconst (v := 0) dR_shares_76 rfl ?_
      refine x_istore_5 dR_shares_77 rfl rfl ?_
      -- at 79: .iload 5
      refine inner 0 (nI i) F I' L' sm hF (pN (rE I)) 0 (-1) a6 0 (Nat.zero_add _) q6 rfl (Or.inl rfl) fun a4 a5 a6 b q4 q5 q6 eb hb => ?_
      subst eb
      rw [hb] at hs hin
      refine x_iload dR_shares_201 rfl ?_
      refine x_iconst (v := -1) dR_shares_203 rfl ?_
      -- at 204: .if_icmp .ne 5
      refine x_icmp_ne (tgt := 209) dR_shares_204 (by decide) (fun c1 => ?_) (fun c1 => ?_)
      · rw [if_neg c1] at hs
        obtain ⟨p, hp, rfl⟩ := hin.elim (fun z => absurd z c1) id
        rw [cl_nI (by omega)] at hs
        refine x_aload_n dR_shares_209 rfl ?_
        refine x_getR fl_R_134 rfl dR_shares_210 rfl rfl rfl ?_
        refine x_iload dR_shares_213 rfl ?_
        refine x_dup2 dR_shares_215 rfl rfl ?_
        refine x_ialdJ (j := p) dR_shares_216 rfl rfl (by first | rfl | (simp only [← nI_add, ← pk_mul]; rfl)) (by omega) ?_
        -- at 217: .iconst 1
        rw [hF p (by omega)]
        refine x_iconst (v := 1) dR_shares_217 rfl ?_
        refine x_iadd dR_shares_218 ?_
        refine x_iastJ (j := p) dR_shares_219 rfl rfl (by first | rfl | (simp only [← nI_add, ← pk_mul]; rfl)) (by omega) ?_
        refine x_iincp_3 dR_shares_220 rfl rfl ?_
        refine x_goto (tgt := 63) dR_shares_223 (by decide) ?_
        -- at 63: .iload_n 3
        rw [nI_1]
        refine ih (i + 1) _ L' _ _ _ _ (by omega) rfl q5 q6 (sm.fr (Fr.rfl.up (by decide) _ _)) hs (fun j hj => ?_)
        rw [up2_s, up1, up1]
        split
        · rfl
        · exact hF j hj
      · rw [if_pos c1] at hs
        refine x_iconst (v := 0) dR_shares_207 rfl ?_
        -- at 208: .ireturn
        refine x_ireturn dR_shares_208 rfl rfl ?_
        exact h1 (shR_none hs (by omega)) I' L' sm
  have loop2 : ∀ (k i : Nat) (I' : IM) (L' : LM), i + k = 8 → rSame I I' → (∀ p, p < i → I' 99 p = 0) →
      X mR_shares G (7, 0, 0) S1 I' L' 42 [.ref 59, .int (nI q), .int (bs (pN (rE I)) (anyF (rE I) (PE (rE I)) (nI q) (sN (rE I)))), .int (nI i), .null, .null, .null] [] Post := by
    intro k
    induction k with
    | zero =>
      intro i I' L' hi sm he
      obtain rfl : i = 8 := by omega
      refine x_iload_n dR_shares_42 rfl ?_
      refine x_bipush (v := 8) dR_shares_43 rfl ?_
      -- at 45: .if_icmp .ge 16
      refine x_icmp_ge (tgt := 61) dR_shares_45 (by decide) (fun _ => ?_) (fun h => absurd (by decide) h)
      refine x_iconst (v := 0) dR_shares_61 rfl ?_
      refine x_istoren_3 dR_shares_62 rfl rfl ?_
      -- at 63: .iload_n 3
      exact loop3 nd 0 I' L' (fun _ => 0) _ _ _ (by omega) rfl rfl rfl sm rfl he
    | succ k ih =>
      intro i I' L' hi sm he
      refine x_iload_n dR_shares_42 rfl ?_
      refine x_bipush (v := 8) dR_shares_43 rfl ?_
      -- at 45: .if_icmp .ge 16
      refine x_icmp_ge (tgt := 61) dR_shares_45 (by decide) (fun h => absurd h (nI_ge (b := 8) (by omega) (by omega))) (fun _ => ?_)
      refine x_aload_n dR_shares_48 rfl ?_
      refine x_getR fl_R_134 rfl dR_shares_49 rfl rfl rfl ?_
      refine x_iload_n dR_shares_52 rfl ?_
      refine x_iconst (v := 0) dR_shares_53 rfl ?_
      refine x_iastJ (j := i) dR_shares_54 rfl rfl (by first | rfl | (simp only [← nI_add, ← pk_mul]; rfl)) (by omega) ?_
      refine x_iincp_3 dR_shares_55 rfl rfl ?_
      refine x_goto (tgt := 42) dR_shares_58 (by decide) ?_
      -- at 42: .iload_n 3
      rw [nI_1]
      refine ih (i + 1) _ L' (by omega) (sm.fr (Fr.rfl.up (by decide) _ _)) (fun p hp => ?_)
      rw [up2_s, up1]
      split
      · rfl
      · exact he p (by omega)
  have loop1 : ∀ (k i : Nat) (acc : Int32) (I' : IM) (L' : LM), i + k = sN (rE I) → acc = bs (pN (rE I)) (anyF (rE I) (PE (rE I)) (nI q) i) → rSame I I' →
      X mR_shares G (7, 0, 0) S1 I' L' 4 [.ref 59, .int (nI q), .int acc, .int (nI i), .null, .null, .null] [] Post := by
    intro k
    induction k with
    | zero =>
      intro i acc I' L' hi ha sm
      have hi : i = sN (rE I) := by omega
      refine x_iload_n dR_shares_4 rfl ?_
      refine x_aload_n dR_shares_5 rfl ?_
      refine x_getI fl_R_158 rfl dR_shares_6 rfl rfl ?_
      -- at 9: .if_icmp .ge 31
      rw [show I' 59 17 = nI (sN (rE I)) by rw [← sm.2.1]; exact (sm.inv hok).c.1]
      refine x_icmp_ge (tgt := 40) dR_shares_9 (by decide) (fun _ => ?_) (fun h => absurd (by rw [hi]; exact Int32.le_refl _) h)
      refine x_iconst (v := 0) dR_shares_40 rfl ?_
      refine x_istoren_3 dR_shares_41 rfl rfl ?_
      -- at 42: .iload_n 3
      rw [ha, hi]
      exact loop2 8 0 I' L' (by omega) sm (fun p hp => absurd hp (Nat.not_lt_zero p))
    | succ k ih =>
      intro i acc I' L' hi ha sm
      have e14 : I' 74 i = rE I 14 i := by
        have e := ((rVE I').2.2 i (by rw [sm.2.1]; omega)).1
        rw [sm.2.1] at e
        exact e
      refine x_iload_n dR_shares_4 rfl ?_
      refine x_aload_n dR_shares_5 rfl ?_
      refine x_getI fl_R_158 rfl dR_shares_6 rfl rfl ?_
      -- at 9: .if_icmp .ge 31
      rw [show I' 59 17 = nI (sN (rE I)) by rw [← sm.2.1]; exact (sm.inv hok).c.1]
      refine x_icmp_ge (tgt := 40) dR_shares_9 (by decide) (fun h => absurd h (nI_ge (by omega) (by omega))) (fun _ => ?_)
      refine x_iload_n dR_shares_12 rfl ?_
      refine x_aload_n dR_shares_13 rfl ?_
      refine x_getR fl_R_56 rfl dR_shares_14 rfl rfl rfl ?_
      refine x_iload_n dR_shares_17 rfl ?_
      refine x_ialdJ (j := i) dR_shares_18 rfl rfl (by first | rfl | (simp only [← nI_add, ← pk_mul]; rfl)) (by omega) ?_
      refine x_iload_n dR_shares_19 rfl ?_
      -- at 20: .if_icmp .ne 11
      rw [e14]
      refine x_icmp_ne (tgt := 31) dR_shares_20 (by decide) (fun c1 => ?_) (fun c1 => ?_)
      · refine x_iconst (v := 0) dR_shares_31 rfl ?_
        refine x_ior dR_shares_32 ?_
        -- at 33: .istore_n 2
        refine x_eqi (y := acc) (by simp) ?_
        refine x_istoren_2 dR_shares_33 rfl rfl ?_
        refine x_iincp_3 dR_shares_34 rfl rfl ?_
        refine x_goto (tgt := 4) dR_shares_37 (by decide) ?_
        -- at 4: .iload_n 3
        rw [nI_1]
        refine ih (i + 1) _ I' L' (by omega) ?_ sm
        rw [ha]
        refine bs_congr _ fun p hp => ?_
        rw [anyF]
        simp [c1]
      · refine x_aload_n dR_shares_23 rfl ?_
        refine x_iload_n dR_shares_24 rfl ?_
        -- at 25: .invokevirtual 277
        refine x_callV_1 cE_R_clear ok_R_clearTo ml_R_277 dR_shares_25 rfl rfl rfl rfl rfl ?_
        refine ⟨i, rfl, rfl, ⟨sm.inv hok, sm.2.2⟩, by rw [sm.2.1]; omega, fun I2 L2 hF2 => ?_⟩
        rw [sm.2.1]
        refine x_goto (tgt := 32) dR_shares_28 (by decide) ?_
        refine x_ior dR_shares_32 ?_
        -- at 33: .istore_n 2
        refine x_istoren_2 dR_shares_33 rfl rfl ?_
        refine x_iincp_3 dR_shares_34 rfl rfl ?_
        refine x_goto (tgt := 4) dR_shares_37 (by decide) ?_
        -- at 4: .iload_n 3
        rw [nI_1]
        refine ih (i + 1) _ I2 L2 (by omega) ?_ (sm.fr (hF2.wk (by decide)))
        rw [ha]
        refine (bs_or _ _ (by omega)).trans (bs_congr _ (fun p hp => ?_))
        simp [anyF, c1, PE]
  refine x_iconst (v := 0) dR_shares_0 rfl ?_
  refine x_istoren_2 dR_shares_1 rfl rfl ?_
  refine x_iconst (v := 0) dR_shares_2 rfl ?_
  refine x_istoren_3 dR_shares_3 rfl rfl ?_
  -- at 4: .iload_n 3
  exact loop1 (sN (rE I)) 0 0 I L (by omega) (bs_z _).symm (rSame.refl own)
end
section
-- 73.rd
/-! the reference's calls: even, hardest; where one goes -/
def sp_R_even : SpT := fun as S I L Post => ∃ q p : Int32, rSp [.int q, .int p] (fun E => .int (evenS E q p)) (fun E => E) as S I L Post
set_option maxHeartbeats 4000000 in
set_option maxRecDepth 100000 in
theorem c_R_even : Con mR_even 8 0 0 sp_R_even := by
  refine con_of_X rfl fun G as S I L Post hs => ?_
  obtain ⟨q, p, rfl, rfl, ⟨hok, own⟩, h1⟩ := hs
  dsimp only at h1
  have h1 := r_end h1
  refine ⟨0, Nat.le_of_ble_eq_true rfl, ?_⟩
  show X mR_even G _ S1 I L 0 [.ref 59, .int q, .int p] [] Post
  have n1 := hok.a.2.1
  have n2 := hok.b.2.1
  have bad : (¬ inR q 0 (rE I 29 2 - 1) ∨ ¬ inR p 0 (rE I 29 1 - 1)) → X mR_even G (8, 0, 0) S1 I L 16 [.ref 59, .int q, .int p] [] Post := by
    intro hc
    rw [evenS, if_pos hc] at h1
    refine x_bipush (v := -5) dR_even_16 rfl ?_
    -- at 18: .ireturn
    refine x_ireturn dR_even_18 rfl rfl ?_
    exact h1 (rSame.refl own)
  refine x_aload_n dR_even_0 rfl ?_
  refine x_iload_n dR_even_1 rfl ?_
  -- at 2: .invokevirtual 236
  refine x_callV_1 c_R_isPromise ok_R_isPromise ml_R_236 dR_even_2 rfl rfl rfl rfl rfl ?_
  refine ⟨_, rfl, rfl, fun a1 => ?_, fun a1 => ?_⟩
  · refine x_if_eq (tgt := 16) dR_even_5 (by decide) (fun h => absurd h (by decide)) (fun _ => ?_)
    refine x_aload_n dR_even_8 rfl ?_
    refine x_iload_n dR_even_9 rfl ?_
    -- at 10: .invokevirtual 230
    refine x_callV_1 c_R_isOne ok_R_isOne ml_R_230 dR_even_10 rfl rfl rfl rfl rfl ?_
    refine ⟨_, rfl, rfl, fun a2 => ?_, fun a2 => ?_⟩
    · refine x_if_ne (tgt := 19) dR_even_13 (by decide) (fun _ => ?_) (fun h => absurd h (by decide))
      have a1 : inR q 0 (rE I 29 2 - 1) := a1
      have a2 : inR p 0 (rE I 29 1 - 1) := a2
      rw [evenS, if_neg (fun z => z.elim (fun y => y a1) (fun y => y a2))] at h1
      rw [show rE I 29 2 = nI (qN (rE I)) from hok.b.1] at a1
      rw [show rE I 29 1 = nI (pN (rE I)) from hok.a.1] at a2
      obtain ⟨i, hi, rfl⟩ := has_nat (by omega) a1
      obtain ⟨j, hj, rfl⟩ := has_nat (by omega) a2
      rw [cl_nI (by omega), cl_nI (by omega)] at h1
      refine x_aload_n dR_even_19 rfl ?_
      refine x_iload_n dR_even_20 rfl ?_
      -- at 21: .invokevirtual 329
      refine x_callV_1 c_R_shares ok_R_shares ml_R_329 dR_even_21 rfl rfl rfl rfl rfl ?_
      refine ⟨i, rfl, rfl, ⟨hok, own⟩, hi, fun e I2 L2 sm => ?_, fun f e I2 L2 sm hf => ?_⟩
      · rw [e] at h1
        refine x_if_eq (tgt := 36) dR_even_24 (by decide) (fun _ => ?_) (fun h => absurd (by decide) h)
        refine x_bipush (v := -3) dR_even_36 rfl ?_
        -- at 38: .ireturn
        refine x_ireturn dR_even_38 rfl rfl ?_
        exact h1 sm
      · rw [e] at h1
        refine x_if_eq (tgt := 36) dR_even_24 (by decide) (fun h => absurd h (by decide)) (fun _ => ?_)
        refine x_aload_n dR_even_27 rfl ?_
        refine x_getR fl_R_134 rfl dR_even_28 rfl rfl rfl ?_
        refine x_iload_n dR_even_31 rfl ?_
        refine x_ialdJ (j := j) dR_even_32 rfl rfl (by first | rfl | (simp only [← nI_add, ← pk_mul]; rfl)) (by omega) ?_
        refine x_goto (tgt := 38) dR_even_33 (by decide) ?_
        -- at 38: .ireturn
        refine x_ireturn dR_even_38 rfl rfl ?_
        rw [hf j (by omega)]
        exact h1 sm
    · refine x_if_ne (tgt := 19) dR_even_13 (by decide) (fun h => absurd (by decide) h) (fun _ => ?_)
      exact bad (Or.inr a2)
  · refine x_if_eq (tgt := 16) dR_even_5 (by decide) (fun _ => ?_) (fun h => absurd (by decide) h)
    exact bad (Or.inl a1)
def sp_R_hardest : SpT := fun as S I L Post => ∃ q : Int32, rSp [.int q] (fun E => .int (hardestS E q)) (fun E => E) as S I L Post
set_option maxHeartbeats 4000000 in
set_option maxRecDepth 100000 in
theorem c_R_hardest : Con mR_hardest 8 0 0 sp_R_hardest := by
  refine con_of_X rfl fun G as S I L Post hs => ?_
  obtain ⟨q, rfl, rfl, ⟨hok, own⟩, h1⟩ := hs
  dsimp only at h1
  have h1 := r_end h1
  refine ⟨2, Nat.le_of_ble_eq_true rfl, ?_⟩
  show X mR_hardest G _ S1 I L 0 [.ref 59, .int q, .null, .null] [] Post
  have n1 := hok.a.2.1
  have n2 := hok.b.2.1
  refine x_aload_n dR_hardest_0 rfl ?_
  refine x_iload_n dR_hardest_1 rfl ?_
  -- at 2: .invokevirtual 236
  refine x_callV_1 c_R_isPromise ok_R_isPromise ml_R_236 dR_hardest_2 rfl rfl rfl rfl rfl ?_
  refine ⟨_, rfl, rfl, fun a1 => ?_, fun a1 => ?_⟩
  · have a1 : inR q 0 (rE I 29 2 - 1) := a1
    refine x_if_ne (tgt := 11) dR_hardest_5 (by decide) (fun _ => ?_) (fun h => absurd h (by decide))
    rw [hardestS, if_neg (not_not_intro a1)] at h1
    rw [show rE I 29 2 = nI (qN (rE I)) from hok.b.1] at a1
    obtain ⟨i, hi, rfl⟩ := has_nat (by omega) a1
    rw [cl_nI (by omega)] at h1
    refine x_aload_n dR_hardest_11 rfl ?_
    refine x_iload_n dR_hardest_12 rfl ?_
    -- at 13: .invokevirtual 329
    refine x_callV_1 c_R_shares ok_R_shares ml_R_329 dR_hardest_13 rfl rfl rfl rfl rfl ?_
    refine ⟨i, rfl, rfl, ⟨hok, own⟩, hi, fun e I2 L2 sm => ?_, fun f e I2 L2 sm hf => ?_⟩
    · rw [e] at h1
      refine x_if_ne (tgt := 21) dR_hardest_16 (by decide) (fun h => absurd rfl h) (fun _ => ?_)
      refine x_iconst (v := -1) dR_hardest_19 rfl ?_
      -- at 20: .ireturn
      refine x_ireturn dR_hardest_20 rfl rfl ?_
      exact h1 sm
    · rw [e] at h1
      dsimp only at h1
      refine x_if_ne (tgt := 21) dR_hardest_16 (by decide) (fun _ => ?_) (fun h => absurd h (by decide))
      refine x_iconst (v := 0) dR_hardest_21 rfl ?_
      refine x_istoren_2 dR_hardest_22 rfl rfl ?_
      refine x_iconst (v := 0) dR_hardest_23 rfl ?_
      refine x_istoren_3 dR_hardest_24 rfl rfl ?_
      -- at 25: .iload_n 3
      have e67 : I2 67 = rE I 7 := congrFun sm.2.1 7
      have loop : ∀ (k j : Nat) (acc : Int32), j + k = pN (rE I) → acc = hardR (rE I) f j → X mR_hardest G (8, 0, 0) S1 I2 L2 25 [.ref 59, .int (nI i), .int acc, .int (nI j)] [] Post := by
        intro k
        induction k with
        | zero =>
          intro j acc hj ha
          have hj : j = pN (rE I) := by omega
          refine x_iload_n dR_hardest_25 rfl ?_
          refine x_aload_n dR_hardest_26 rfl ?_
          refine x_getI fl_R_148 rfl dR_hardest_27 rfl rfl ?_
          -- at 30: .if_icmp .ge 44
          rw [show I2 59 3 = nI (pN (rE I)) by rw [← sm.2.1]; exact (sm.inv hok).a.1]
          refine x_icmp_ge (tgt := 74) dR_hardest_30 (by decide) (fun _ => ?_) (fun h => absurd (by rw [hj]; exact Int32.le_refl _) h)
          refine x_iload_n dR_hardest_74 rfl ?_
          -- at 75: .ireturn
          refine x_ireturn dR_hardest_75 rfl rfl ?_
          rw [ha, hj]
          exact h1 sm
        | succ k ih =>
          intro j acc hj ha
          refine x_iload_n dR_hardest_25 rfl ?_
          refine x_aload_n dR_hardest_26 rfl ?_
          refine x_getI fl_R_148 rfl dR_hardest_27 rfl rfl ?_
          -- at 30: .if_icmp .ge 44
          rw [show I2 59 3 = nI (pN (rE I)) by rw [← sm.2.1]; exact (sm.inv hok).a.1]
          refine x_icmp_ge (tgt := 74) dR_hardest_30 (by decide) (fun h => absurd h (nI_ge (by omega) (by omega))) (fun _ => ?_)
          refine x_aload_n dR_hardest_33 rfl ?_
          refine x_getR fl_R_35 rfl dR_hardest_34 rfl rfl rfl ?_
          refine x_iload_n dR_hardest_37 rfl ?_
          refine x_ialdJ (j := j) dR_hardest_38 rfl rfl (by first | rfl | (simp only [← nI_add, ← pk_mul]; rfl)) (by omega) ?_
          refine x_aload_n dR_hardest_39 rfl ?_
          refine x_getR fl_R_134 rfl dR_hardest_40 rfl rfl rfl ?_
          refine x_iload_n dR_hardest_43 rfl ?_
          refine x_ialdJ (j := j) dR_hardest_44 rfl rfl (by first | rfl | (simp only [← nI_add, ← pk_mul]; rfl)) (by omega) ?_
          refine x_imul dR_hardest_45 ?_
          refine x_iload_n dR_hardest_46 rfl ?_
          -- at 47: .if_icmp .le 19
          rw [e67, hf j (by omega)]
          refine x_icmp_le (tgt := 66) dR_hardest_47 (by decide) (fun c1 => ?_) (fun c1 => ?_)
          · refine x_iload_n dR_hardest_66 rfl ?_
            refine x_istoren_2 dR_hardest_67 rfl rfl ?_
            refine x_iincp_3 dR_hardest_68 rfl rfl ?_
            refine x_goto (tgt := 25) dR_hardest_71 (by decide) ?_
            -- at 25: .iload_n 3
            rw [nI_1]
            exact ih (j + 1) _ (by omega) (by rw [hardR, imax, ← ha, if_neg (Int32.not_lt.mpr c1)])
          · refine x_aload_n dR_hardest_50 rfl ?_
            refine x_getR fl_R_35 rfl dR_hardest_51 rfl rfl rfl ?_
            refine x_iload_n dR_hardest_54 rfl ?_
            refine x_ialdJ (j := j) dR_hardest_55 rfl rfl (by first | rfl | (simp only [← nI_add, ← pk_mul]; rfl)) (by omega) ?_
            refine x_aload_n dR_hardest_56 rfl ?_
            refine x_getR fl_R_134 rfl dR_hardest_57 rfl rfl rfl ?_
            refine x_iload_n dR_hardest_60 rfl ?_
            refine x_ialdJ (j := j) dR_hardest_61 rfl rfl (by first | rfl | (simp only [← nI_add, ← pk_mul]; rfl)) (by omega) ?_
            -- at 62: .imul
            rw [e67, hf j (by omega)]
            refine x_imul dR_hardest_62 ?_
            refine x_goto (tgt := 67) dR_hardest_63 (by decide) ?_
            refine x_istoren_2 dR_hardest_67 rfl rfl ?_
            refine x_iincp_3 dR_hardest_68 rfl rfl ?_
            refine x_goto (tgt := 25) dR_hardest_71 (by decide) ?_
            -- at 25: .iload_n 3
            rw [nI_1]
            exact ih (j + 1) _ (by omega) (by rw [hardR, imax, ← ha, if_pos (Int32.not_le.mp c1)])
      exact loop (pN (rE I)) 0 0 (by omega) rfl
  · have a1 : ¬ inR q 0 (rE I 29 2 - 1) := a1
    refine x_if_ne (tgt := 11) dR_hardest_5 (by decide) (fun h => absurd (by decide) h) (fun _ => ?_)
    rw [hardestS, if_pos a1] at h1
    refine x_bipush (v := -5) dR_hardest_8 rfl ?_
    -- at 10: .ireturn
    refine x_ireturn dR_hardest_10 rfl rfl ?_
    exact h1 (rSame.refl own)
theorem rV_mv (I : IM) (p : Nat) (u : Int32) : rV (up2 I 69 p u) = mvV (rV I) p u := by
  funext a
  by_cases h : a = 9
  · subst h; unfold mvV rV; simp only [up2_n, up2_s, ne_eq, Nat.reduceEqDiff, not_false_eq_true]
  unfold mvV
  rw [up2_n _ _ _ h]
  unfold rV
  split <;> first | rfl | (exfalso; omega) | simp only [up2_n, up2_s, ne_eq, Nat.reduceEqDiff, not_false_eq_true]
/-- in all, had one moved -/
def totW (E : IM) (p : Nat) (u : Int32) : Int32 := totU E (PE E) (pN E) (qN E) (sN E) p u
def sp_R_owedAt : SpT := fun as S I L Post => ∃ (p : Nat) (u : Int32), as = [.ref 59, .int (nI p), .int u] ∧ S = S1 ∧ rOk I ∧ p < pN (rE I) ∧ rng1 u 6 ∧ ∀ (I' : IM) (L' : LM), Fr [94, 95, 96, 97, 98] I I' → Post (some (.int (totW (rE I) p u))) S1 I' L'
set_option maxHeartbeats 4000000 in
set_option maxRecDepth 100000 in
theorem c_R_owedAt : Con mR_owedAt 9 0 0 sp_R_owedAt := by
  refine con_of_X rfl fun G as S I L Post hs => ?_
  obtain ⟨p, u, rfl, rfl, ⟨hok, own⟩, hp, hu, h1⟩ := hs
  refine ⟨1, Nat.le_of_ble_eq_true rfl, ?_⟩
  show X mR_owedAt G _ S1 I L 0 [.ref 59, .int (nI p), .int u, .null] [] Post
  have n1 := hok.a.2.1
  have n2 := hok.b.2.1
  refine x_aload_n dR_owedAt_0 rfl ?_
  refine x_getR fl_R_41 rfl dR_owedAt_1 rfl rfl rfl ?_
  refine x_iload_n dR_owedAt_4 rfl ?_
  refine x_ialdJ (j := p) dR_owedAt_5 rfl rfl (by first | rfl | (simp only [← nI_add, ← pk_mul]; rfl)) (by omega) ?_
  refine x_istoren_3 dR_owedAt_6 rfl rfl ?_
  refine x_aload_n dR_owedAt_7 rfl ?_
  refine x_getR fl_R_41 rfl dR_owedAt_8 rfl rfl rfl ?_
  refine x_iload_n dR_owedAt_11 rfl ?_
  refine x_iload_n dR_owedAt_12 rfl ?_
  refine x_iastJ (j := p) dR_owedAt_13 rfl rfl (by first | rfl | (simp only [← nI_add, ← pk_mul]; rfl)) (by omega) ?_
  refine x_aload_n dR_owedAt_14 rfl ?_
  refine x_aload_n dR_owedAt_15 rfl ?_
  refine x_getI fl_R_158 rfl dR_owedAt_16 rfl rfl ?_
  -- at 19: .invokevirtual 295
  have hV : VEq (rV (up2 I 69 p u)) (mvV (rE I) p u) (pN (rE I)) (sN (rE I)) := by
    rw [rV_mv]
    exact (rVE I).mv p u
  have hrV := rV_mv I p u
  have e59 : up2 I 69 p u 59 = I 59 := up2_n _ _ _ (by decide)
  have hF0 : Fr [69] I (up2 I 69 p u) := Fr.rfl.up (by decide) _ _
  have e69 : up2 I 69 p u 69 = up1 (I 69) p u := up2_s _ _ _ _
  generalize up2 I 69 p u = I1 at hV hrV e59 hF0 e69
  obtain ⟨k1, k2, k3, k4, k5, k6⟩ := rRk hok
  rw [e59, show I 59 17 = nI (sN (rE I)) from hok.c.1]
  refine x_callV_1 cE_R_owes ok_R_owes ml_R_295 dR_owedAt_19 rfl rfl rfl rfl rfl ?_
  refine ⟨sN (rE I), pN (rE I), qN (rE I), -1, PE (rE I), mvV (rE I) p u, rfl, rfl, ⟨by rw [e59]; exact k1, k2, k3, fun i hi => ?_, fun s hs => ?_, k6.fr e59 (hF0 79 (by decide)) (hF0 80 (by decide))⟩, ?_, by rw [e59]; exact own.2.1, by rw [e59]; exact own.1, hV, fun I2 L2 hF2 ho hk => ?_⟩
  · obtain ⟨p1, p2, p3, p4⟩ := k4 i hi
    rw [hrV]
    unfold PerV mvV
    rw [up2_n _ _ _ (by decide), up2_n _ _ _ (by decide), up2_n _ _ _ (by decide), up2_s]
    refine ⟨p1, p2, p3, ?_⟩
    unfold up1
    split
    · exact hu
    · exact p4
  · rw [hrV]
    unfold SayV mvV
    rw [up2_n _ _ _ (by decide), up2_n _ _ _ (by decide), up2_n _ _ _ (by decide)]
    exact k5 s hs
  · obtain ⟨w1, w2, w3, w4⟩ := rOw hok (sN (rE I))
    refine ⟨by rw [e59]; exact w1, w2, ?_, ?_⟩
    · rw [hrV]; unfold mvV; rw [up2_n _ _ _ (by decide)]; exact w3
    · rw [hrV]; unfold mvV; rw [up2_n _ _ _ (by decide)]; exact w4
  · refine x_aload_n dR_owedAt_22 rfl ?_
    refine x_getR fl_R_41 rfl dR_owedAt_23 rfl rfl rfl ?_
    refine x_iload_n dR_owedAt_26 rfl ?_
    refine x_iload_n dR_owedAt_27 rfl ?_
    refine x_iastJ (j := p) dR_owedAt_28 rfl rfl (by first | rfl | (simp only [← nI_add, ← pk_mul]; rfl)) (by omega) ?_
    -- at 29: .aload_n 0
    have hF3 : Fr [94, 95, 96, 97, 98] I (up2 I2 69 p (I 69 p)) := fun k hkk => by
      by_cases e : k = 69
      · subst e
        rw [up2_s, hF2 69 (by decide), e69]
        funext j
        unfold up1
        by_cases e3 : j = p
        · subst e3; simp
        · simp [e3]
      · rw [up2_n _ _ _ e, hF2 k hkk, hF0 k (by simp [e])]
    have hrow : RowR (up2 I2 69 p (I 69 p)) (pN (rE I)) (QV (mvV (rE I) p u) (PE (rE I)) (pN (rE I)) (qN (rE I)) (-1) (sN (rE I))) := by
      unfold RowR
      rw [up2_n _ _ _ (by decide)]
      exact hk.2.2.2.2.2.1
    generalize up2 I2 69 p (I 69 p) = I3 at hF3 hrow
    refine x_aload_n dR_owedAt_29 rfl ?_
    refine x_iload_n dR_owedAt_30 rfl ?_
    -- at 31: .invokevirtual 298
    refine x_callV_1 c_R_owedBy ok_R_owedBy ml_R_298 dR_owedAt_31 rfl rfl rfl rfl rfl ?_
    refine ⟨p, pN (rE I), qN (rE I), _, rfl, rfl, hp, n1, by rw [hF3 59 (by decide)]; exact hok.b.1, n2, hrow, ?_⟩
    refine x_ireturn dR_owedAt_34 rfl rfl ?_
    have e := QV_tot (mvV (rE I) p u) (PE (rE I)) (pN (rE I)) (qN (rE I)) (-1) (sN (rE I)) p
    rw [show sumQ (QV (mvV (rE I) p u) (PE (rE I)) (pN (rE I)) (qN (rE I)) (-1) (sN (rE I)) p) (qN (rE I)) = totW (rE I) p u from e]
    exact h1 I3 L2 hF3
theorem rSame.of {I I' : IM} (own : rOwn I) (hF : Fr [94, 95, 96, 97, 98] I I') : rSame I I' := (rSame.refl own).fr (hF.wk (by decide))
def goesV (E : IM) (p : Nat) (w : Int32) (k : Nat) : Nat := if w = 0 then leR (totE E p) k else moR (totE E p) k
theorem goesV_le (E : IM) (p : Nat) (w : Int32) (k : Nat) : goesV E p w k ≤ k := by
  unfold goesV
  split
  · exact leR_le _ _
  · exact moR_le _ _
def sp_R_goesTo : SpT := fun as S I L Post => ∃ (p : Nat) (w : Int32), as = [.ref 59, .int (nI p), .int w] ∧ S = S1 ∧ rOk I ∧ p < pN (rE I) ∧ ∀ (I' : IM) (L' : LM), Fr [94, 95, 96, 97, 98] I I' → Post (some (.int (nI (goesV (rE I) p w 5)))) S1 I' L'
set_option maxHeartbeats 4000000 in
set_option maxRecDepth 100000 in
theorem c_R_goesTo : Con mR_goesTo 10 0 0 sp_R_goesTo := by
  refine con_of_X rfl fun G as S I L Post hs => ?_
  obtain ⟨p, w, rfl, rfl, ⟨hok, own⟩, hp, h1⟩ := hs
  refine ⟨4, Nat.le_of_ble_eq_true rfl, ?_⟩
  show X mR_goesTo G _ S1 I L 0 [.ref 59, .int (nI p), .int w, .null, .null, .null, .null] [] Post
  refine x_iconst (v := 0) dR_goesTo_0 rfl ?_
  refine x_istoren_3 dR_goesTo_1 rfl rfl ?_
  refine x_aload_n dR_goesTo_2 rfl ?_
  refine x_iload_n dR_goesTo_3 rfl ?_
  refine x_iconst (v := 0) dR_goesTo_4 rfl ?_
  -- at 5: .invokevirtual 332
  refine x_callV_2 c_R_owedAt ok_R_owedAt ml_R_332 dR_goesTo_5 rfl rfl rfl rfl rfl ?_
  refine ⟨p, nI 0, rfl, rfl, ⟨hok, own⟩, hp, Or.inr ⟨0, by omega, rfl⟩, fun I1 L1 hF1 => ?_⟩
  refine x_eqi (y := totE (rE I) p 0) rfl ?_
  refine x_istore_4 dR_goesTo_8 rfl rfl ?_
  refine x_iconst (v := 1) dR_goesTo_10 rfl ?_
  refine x_istore_5 dR_goesTo_11 rfl rfl ?_
  -- at 13: .iload 5
  have loop : ∀ (k i : Nat) (I' : IM) (L' : LM) (a6 : Value), 1 ≤ i → i + k = 6 → cat1at [a6] 1 = true → Fr [94, 95, 96, 97, 98] I I' →
      X mR_goesTo G (10, 0, 0) S1 I' L' 13 [.ref 59, .int (nI p), .int w, .int (nI (goesV (rE I) p w (i - 1))), .int (totE (rE I) p (goesV (rE I) p w (i - 1))), .int (nI i), a6] [] Post := by
    intro k
    induction k with
    | zero =>
      intro i I' L' a6 i1 hi h6 hF
      obtain rfl : i = 6 := by omega
      refine x_iload dR_goesTo_13 rfl ?_
      refine x_iconst (v := 5) dR_goesTo_15 rfl ?_
      -- at 16: .if_icmp .gt 46
      refine x_icmp_gt (tgt := 62) dR_goesTo_16 (by decide) (fun _ => ?_) (fun h => absurd (by decide) h)
      refine x_iload_n dR_goesTo_62 rfl ?_
      -- at 63: .ireturn
      refine x_ireturn dR_goesTo_63 rfl rfl ?_
      exact h1 I' L' hF
    | succ k ih =>
      intro i I' L' a6 i1 hi h6 hF
      have sm := rSame.of own hF
      obtain ⟨j, rfl⟩ : ∃ j, i = j + 1 := ⟨i - 1, by omega⟩
      have hs : goesV (rE I) p w (j + 1) = if w = 0 then (if totE (rE I) p (j + 1) < totE (rE I) p (goesV (rE I) p w j) then j + 1 else goesV (rE I) p w j) else (if totE (rE I) p (goesV (rE I) p w j) < totE (rE I) p (j + 1) then j + 1 else goesV (rE I) p w j) := by
        unfold goesV
        split
        · rw [leR]
        · rw [moR]
      rw [show j + 1 - 1 = j from rfl]
      refine x_iload dR_goesTo_13 rfl ?_
      refine x_iconst (v := 5) dR_goesTo_15 rfl ?_
      -- at 16: .if_icmp .gt 46
      refine x_icmp_gt (tgt := 62) dR_goesTo_16 (by decide) (fun h => absurd h (Int32.not_lt.mpr ((nI_leI (b := 5) (by omega) (by omega)).mpr (by omega)))) (fun _ => ?_)
      refine x_aload_n dR_goesTo_19 rfl ?_
      refine x_iload_n dR_goesTo_20 rfl ?_
      refine x_iload dR_goesTo_21 rfl ?_
      -- at 23: .invokevirtual 332
      refine x_callV_2 c_R_owedAt ok_R_owedAt ml_R_332 dR_goesTo_23 rfl rfl rfl rfl rfl ?_
      refine ⟨p, nI (j + 1), rfl, rfl, ⟨sm.inv hok, sm.2.2⟩, by rw [sm.2.1]; exact hp, Or.inr ⟨j + 1, by omega, rfl⟩, fun I2 L2 hF2 => ?_⟩
      refine x_eqi (y := totE (rE I) p (j + 1)) (by rw [sm.2.1]; rfl) ?_
      have hF3 := hF.tr hF2
      have hle := goesV_le (rE I) p w j
      have take : goesV (rE I) p w (j + 1) = j + 1 → X mR_goesTo G (10, 0, 0) S1 I2 L2 49 [.ref 59, .int (nI p), .int w, .int (nI (goesV (rE I) p w j)), .int (totE (rE I) p (goesV (rE I) p w j)), .int (nI (j + 1)), .int (totE (rE I) p (j + 1))] [] Post := by
        intro e
        refine x_iload dR_goesTo_49 rfl ?_
        refine x_istoren_3 dR_goesTo_51 rfl rfl ?_
        refine x_iload dR_goesTo_52 rfl ?_
        refine x_istore_4 dR_goesTo_54 rfl rfl ?_
        refine x_iincp_5 dR_goesTo_56 rfl rfl ?_
        refine x_goto (tgt := 13) dR_goesTo_59 (by decide) ?_
        -- at 13: .iload 5
        rw [nI_1]
        have h3 := ih (j + 1 + 1) I2 L2 (.int (totE (rE I) p (j + 1))) (by omega) (by omega) rfl hF3
        rw [show j + 1 + 1 - 1 = j + 1 from rfl, e] at h3
        exact h3
      have keep : goesV (rE I) p w (j + 1) = goesV (rE I) p w j → X mR_goesTo G (10, 0, 0) S1 I2 L2 56 [.ref 59, .int (nI p), .int w, .int (nI (goesV (rE I) p w j)), .int (totE (rE I) p (goesV (rE I) p w j)), .int (nI (j + 1)), .int (totE (rE I) p (j + 1))] [] Post := by
        intro e
        refine x_iincp_5 dR_goesTo_56 rfl rfl ?_
        refine x_goto (tgt := 13) dR_goesTo_59 (by decide) ?_
        -- at 13: .iload 5
        rw [nI_1]
        have h3 := ih (j + 1 + 1) I2 L2 (.int (totE (rE I) p (j + 1))) (by omega) (by omega) rfl hF3
        rw [show j + 1 + 1 - 1 = j + 1 from rfl, e] at h3
        exact h3
      refine x_istore_6 dR_goesTo_26 rfl rfl ?_
      refine x_iload_n dR_goesTo_28 rfl ?_
      -- at 29: .ifCond .eq 13
      refine x_if_eq (tgt := 42) dR_goesTo_29 (by decide) (fun w0 => ?_) (fun w0 => ?_)
      · rw [if_pos w0] at hs
        refine x_iload dR_goesTo_42 rfl ?_
        refine x_iload dR_goesTo_44 rfl ?_
        -- at 46: .if_icmp .ge 10
        refine x_icmp_ge (tgt := 56) dR_goesTo_46 (by decide) (fun c1 => ?_) (fun c1 => ?_)
        · exact keep (by rw [hs, if_neg (Int32.not_lt.mpr c1)])
        · exact take (by rw [hs, if_pos (Int32.not_le.mp c1)])
      · rw [if_neg w0] at hs
        refine x_iload dR_goesTo_32 rfl ?_
        refine x_iload dR_goesTo_34 rfl ?_
        -- at 36: .if_icmp .le 20
        refine x_icmp_le (tgt := 56) dR_goesTo_36 (by decide) (fun c1 => ?_) (fun c1 => ?_)
        · exact keep (by rw [hs, if_neg (Int32.not_lt.mpr c1)])
        · refine x_goto (tgt := 49) dR_goesTo_39 (by decide) ?_
          -- at 49: .iload 5
          exact take (by rw [hs, if_pos (Int32.not_le.mp c1)])
  have h3 := loop 5 1 I1 L1 .null (Nat.le_refl _) rfl rfl hF1
  have e0 : goesV (rE I) p w (1 - 1) = 0 := by
    unfold goesV
    split <;> rfl
  rw [e0] at h3
  exact h3
end
section
-- 74.re
/-! the reference's calls: flee, send, rest -/
theorem rng1_of {k : Nat} (h : k ≤ 5) : rng1 (nI k) 6 := Or.inr ⟨k, by omega, rfl⟩
theorem goesV_0 (E : IM) (p k : Nat) : goesV E p 0 k = leR (totE E p) k := if_pos rfl
theorem goesV_1 (E : IM) (p k : Nat) : goesV E p 1 k = moR (totE E p) k := if_neg (by decide)
theorem totW_nI (E : IM) (p u : Nat) : totW E p (nI u) = totE E p u := rfl
def sp_R_flee : SpT := fun as S I L Post => ∃ p w : Int32, rSp [.int p, .int w] (fun E => .int (fleeS E p w)) (fun E => E) as S I L Post
set_option maxHeartbeats 4000000 in
set_option maxRecDepth 100000 in
theorem c_R_flee : Con mR_flee 11 0 0 sp_R_flee := by
  refine con_of_X rfl fun G as S I L Post hs => ?_
  obtain ⟨p, w, rfl, rfl, ⟨hok, own⟩, h1⟩ := hs
  dsimp only at h1
  have h1 := r_end h1
  refine ⟨1, Nat.le_of_ble_eq_true rfl, ?_⟩
  show X mR_flee G _ S1 I L 0 [.ref 59, .int p, .int w, .null] [] Post
  have n1 := hok.a.2.1
  refine x_aload_n dR_flee_0 rfl ?_
  refine x_iload_n dR_flee_1 rfl ?_
  -- at 2: .invokevirtual 230
  refine x_callV_1 c_R_isOne ok_R_isOne ml_R_230 dR_flee_2 rfl rfl rfl rfl rfl ?_
  refine ⟨_, rfl, rfl, fun a1 => ?_, fun a1 => ?_⟩
  · have a1 : inR p 0 (rE I 29 1 - 1) := a1
    refine x_if_ne (tgt := 11) dR_flee_5 (by decide) (fun _ => ?_) (fun h => absurd h (by decide))
    rw [fleeS, if_neg (not_not_intro a1)] at h1
    rw [show rE I 29 1 = nI (pN (rE I)) from hok.a.1] at a1
    obtain ⟨j, hj, rfl⟩ := has_nat (by omega) a1
    rw [cl_nI (by omega)] at h1
    refine x_iload_n dR_flee_11 rfl ?_
    refine x_iconst (v := 0) dR_flee_12 rfl ?_
    refine x_iconst (v := 1) dR_flee_13 rfl ?_
    -- at 14: .invokestatic 151
    refine x_callS_3 c_R_in ok_R_in ml_R_151 dR_flee_14 rfl rfl ?_
    refine ⟨_, _, _, rfl, fun a2 => ?_, fun a2 => ?_⟩
    · have a2 : inR w 0 1 := a2
      refine x_if_ne (tgt := 23) dR_flee_17 (by decide) (fun _ => ?_) (fun h => absurd h (by decide))
      rw [if_neg (not_not_intro a2)] at h1
      refine x_aload_n dR_flee_23 rfl ?_
      refine x_iload_n dR_flee_24 rfl ?_
      refine x_iconst (v := 0) dR_flee_25 rfl ?_
      -- at 26: .invokevirtual 335
      refine x_callV_2 c_R_goesTo ok_R_goesTo ml_R_335 dR_flee_26 rfl rfl rfl rfl rfl ?_
      refine ⟨j, 0, rfl, rfl, ⟨hok, own⟩, hj, fun I2 L2 hF2 => ?_⟩
      have sm := rSame.of own hF2
      refine x_eqi (y := nI (leR (totE (rE I) j) 5)) (congrArg nI (goesV_0 (rE I) j 5)) ?_
      refine x_istoren_3 dR_flee_29 rfl rfl ?_
      refine x_iload_n dR_flee_30 rfl ?_
      -- at 31: .ifCond .ne 7
      refine x_if_ne (tgt := 38) dR_flee_31 (by decide) (fun w0 => ?_) (fun w0 => ?_)
      · rw [if_neg w0] at h1
        refine x_aload_n dR_flee_38 rfl ?_
        refine x_iload_n dR_flee_39 rfl ?_
        refine x_iload_n dR_flee_40 rfl ?_
        -- at 41: .invokevirtual 332
        refine x_callV_2 c_R_owedAt ok_R_owedAt ml_R_332 dR_flee_41 rfl rfl rfl rfl rfl ?_
        refine ⟨j, _, rfl, rfl, ⟨sm.inv hok, sm.2.2⟩, by rw [sm.2.1]; exact hj, rng1_of (leR_le _ _), fun I3 L3 hF3 => ?_⟩
        refine x_ireturn dR_flee_44 rfl rfl ?_
        rw [sm.2.1, totW_nI]
        exact h1 (sm.fr (hF3.wk (by decide)))
      · rw [if_pos w0] at h1
        refine x_iload_n dR_flee_34 rfl ?_
        refine x_goto (tgt := 44) dR_flee_35 (by decide) ?_
        -- at 44: .ireturn
        refine x_ireturn dR_flee_44 rfl rfl ?_
        exact h1 sm
    · have a2 : ¬ inR w 0 1 := a2
      refine x_if_ne (tgt := 23) dR_flee_17 (by decide) (fun h => absurd (by decide) h) (fun _ => ?_)
      rw [if_pos a2] at h1
      refine x_bipush (v := -7) dR_flee_20 rfl ?_
      -- at 22: .ireturn
      refine x_ireturn dR_flee_22 rfl rfl ?_
      exact h1 (rSame.refl own)
  · have a1 : ¬ inR p 0 (rE I 29 1 - 1) := a1
    refine x_if_ne (tgt := 11) dR_flee_5 (by decide) (fun h => absurd (by decide) h) (fun _ => ?_)
    rw [fleeS, if_pos a1] at h1
    refine x_bipush (v := -5) dR_flee_8 rfl ?_
    -- at 10: .ireturn
    refine x_ireturn dR_flee_10 rfl rfl ?_
    exact h1 (rSame.refl own)
def sp_R_send : SpT := fun as S I L Post => ∃ p w : Int32, rSp [.int p, .int w] (fun E => .int (sendS E p w)) (fun E => E) as S I L Post
set_option maxHeartbeats 4000000 in
set_option maxRecDepth 100000 in
theorem c_R_send : Con mR_send 11 0 0 sp_R_send := by
  refine con_of_X rfl fun G as S I L Post hs => ?_
  obtain ⟨p, w, rfl, rfl, ⟨hok, own⟩, h1⟩ := hs
  dsimp only at h1
  have h1 := r_end h1
  refine ⟨1, Nat.le_of_ble_eq_true rfl, ?_⟩
  show X mR_send G _ S1 I L 0 [.ref 59, .int p, .int w, .null] [] Post
  have n1 := hok.a.2.1
  refine x_aload_n dR_send_0 rfl ?_
  refine x_iload_n dR_send_1 rfl ?_
  -- at 2: .invokevirtual 230
  refine x_callV_1 c_R_isOne ok_R_isOne ml_R_230 dR_send_2 rfl rfl rfl rfl rfl ?_
  refine ⟨_, rfl, rfl, fun a1 => ?_, fun a1 => ?_⟩
  · have a1 : inR p 0 (rE I 29 1 - 1) := a1
    refine x_if_ne (tgt := 11) dR_send_5 (by decide) (fun _ => ?_) (fun h => absurd h (by decide))
    rw [sendS, if_neg (not_not_intro a1)] at h1
    rw [show rE I 29 1 = nI (pN (rE I)) from hok.a.1] at a1
    obtain ⟨j, hj, rfl⟩ := has_nat (by omega) a1
    rw [cl_nI (by omega)] at h1
    refine x_iload_n dR_send_11 rfl ?_
    refine x_iconst (v := 0) dR_send_12 rfl ?_
    refine x_iconst (v := 1) dR_send_13 rfl ?_
    -- at 14: .invokestatic 151
    refine x_callS_3 c_R_in ok_R_in ml_R_151 dR_send_14 rfl rfl ?_
    refine ⟨_, _, _, rfl, fun a2 => ?_, fun a2 => ?_⟩
    · have a2 : inR w 0 1 := a2
      refine x_if_ne (tgt := 23) dR_send_17 (by decide) (fun _ => ?_) (fun h => absurd h (by decide))
      rw [if_neg (not_not_intro a2)] at h1
      refine x_aload_n dR_send_23 rfl ?_
      refine x_iload_n dR_send_24 rfl ?_
      refine x_iconst (v := 1) dR_send_25 rfl ?_
      -- at 26: .invokevirtual 335
      refine x_callV_2 c_R_goesTo ok_R_goesTo ml_R_335 dR_send_26 rfl rfl rfl rfl rfl ?_
      refine ⟨j, 1, rfl, rfl, ⟨hok, own⟩, hj, fun I2 L2 hF2 => ?_⟩
      have sm := rSame.of own hF2
      refine x_eqi (y := nI (moR (totE (rE I) j) 5)) (congrArg nI (goesV_1 (rE I) j 5)) ?_
      refine x_istoren_3 dR_send_29 rfl rfl ?_
      refine x_iload_n dR_send_30 rfl ?_
      -- at 31: .ifCond .ne 7
      refine x_if_ne (tgt := 38) dR_send_31 (by decide) (fun w0 => ?_) (fun w0 => ?_)
      · rw [if_neg w0] at h1
        refine x_aload_n dR_send_38 rfl ?_
        refine x_iload_n dR_send_39 rfl ?_
        refine x_iload_n dR_send_40 rfl ?_
        -- at 41: .invokevirtual 332
        refine x_callV_2 c_R_owedAt ok_R_owedAt ml_R_332 dR_send_41 rfl rfl rfl rfl rfl ?_
        refine ⟨j, _, rfl, rfl, ⟨sm.inv hok, sm.2.2⟩, by rw [sm.2.1]; exact hj, rng1_of (moR_le _ _), fun I3 L3 hF3 => ?_⟩
        refine x_ireturn dR_send_44 rfl rfl ?_
        rw [sm.2.1, totW_nI]
        exact h1 (sm.fr (hF3.wk (by decide)))
      · rw [if_pos w0] at h1
        refine x_iload_n dR_send_34 rfl ?_
        refine x_goto (tgt := 44) dR_send_35 (by decide) ?_
        -- at 44: .ireturn
        refine x_ireturn dR_send_44 rfl rfl ?_
        exact h1 sm
    · have a2 : ¬ inR w 0 1 := a2
      refine x_if_ne (tgt := 23) dR_send_17 (by decide) (fun h => absurd (by decide) h) (fun _ => ?_)
      rw [if_pos a2] at h1
      refine x_bipush (v := -7) dR_send_20 rfl ?_
      -- at 22: .ireturn
      refine x_ireturn dR_send_22 rfl rfl ?_
      exact h1 (rSame.refl own)
  · have a1 : ¬ inR p 0 (rE I 29 1 - 1) := a1
    refine x_if_ne (tgt := 11) dR_send_5 (by decide) (fun h => absurd (by decide) h) (fun _ => ?_)
    rw [sendS, if_pos a1] at h1
    refine x_bipush (v := -5) dR_send_8 rfl ?_
    -- at 10: .ireturn
    refine x_ireturn dR_send_10 rfl rfl ?_
    exact h1 (rSame.refl own)
/-! as if one had moved to where one is -/
theorem maxR_rows {V V' : IM} {D : Nat → Int32} {w : Int32} (h : V 14 = V' 14) : ∀ m : Nat, maxR V D w m = maxR V' D w m := by
  intro m
  induction m with
  | zero => rfl
  | succ k ih => rw [maxR, maxR, ih, h]
theorem strR_rows {V V' : IM} (h : V 13 = V' 13) (o : Nat → Int32) : ∀ m : Nat, strR V o m = strR V' o m := by
  intro m
  induction m with
  | zero => rfl
  | succ k ih => rw [strR, strR, ih, strS, strS, h]
theorem tot_start {E : IM} {P : Nat → List Int32} {n nq m p : Nat} {a b : Int32} (h : startV (mvV E p a) p = startV (mvV E p b) p) : totU E P n nq m p a = totU E P n nq m p b := by
  have hr : ∀ k, k ≠ 9 → mvV E p a k = mvV E p b k := fun k hk => by
    unfold mvV
    rw [up2_n _ _ _ hk, up2_n _ _ _ hk]
  have hh : ∀ s i, hearV (mvV E p a) P s i = hearV (mvV E p b) P s i := fun s i => by
    by_cases e : i = p
    · subst e
      unfold hearV farV whereV
      rw [h, hr 0 (by omega), hr 1 (by omega), hr 2 (by omega), hr 4 (by omega), hr 5 (by omega), hr 15 (by omega), hr 16 (by omega), hr 17 (by omega)]
    · rw [hear_mv E P p a e s, hear_mv E P p b e s]
  have hC : CC (mvV E p a) P n = CC (mvV E p b) P n := by
    funext s
    unfold CC clF
    simp only [hh]
  have hD : DD (mvV E p a) P (CC (mvV E p a) P n) p = DD (mvV E p b) P (CC (mvV E p b) P n) p := by
    funext s
    unfold DD shareV canV
    rw [hC, hr 2 (by omega), hr 6 (by omega), hr 10 (by omega), hr 11 (by omega), hr 14 (by omega), hr 17 (by omega)]
  unfold totU tot1 fin1
  rw [hD, maxR_rows (hr 14 (by omega)), strR_rows (hr 13 (by omega)), hr 8 (by omega)]
theorem tot_here {E : IM} (h : Inv E) {p : Nat} (hp : p < pN E) : totW E p (E 9 p) = totE E p (cl (startV E p)) := by
  obtain ⟨b, hb, eb⟩ := start_nat h hp
  unfold totW totE
  rw [eb, cl_nI (by omega)]
  refine tot_start ?_
  unfold startV at eb ⊢
  unfold mvV
  rw [up2_s, up2_s, up1_s, up1_s, up2_n _ _ _ (by decide), up2_n _ _ _ (by decide)]
  by_cases e : E 9 p = -1
  · rw [if_pos e] at eb ⊢
    rw [eb]
    split <;> rfl
  · rw [if_neg e] at eb ⊢
    rw [eb] at e ⊢
    rw [if_neg e]
/-! rounds, and one after another till all stay -/
def rrS (K n : Nat) (t : Nat) (E : IM) (d p : Nat) : IM × Nat := match t with
  | 0 => (E, d)
  | t + 1 => if d < K ∧ goB E p then rrS K n t (goU E p) (d + 1) ((p + 1) % n) else rrS K n t E d ((p + 1) % n)
theorem rr_fix {K n : Nat} {E : IM} {d : Nat} (h : ¬ d < K ∨ ∀ q, q < n → ¬ goB E q) : ∀ t p, p < n → rrS K n t E d p = (E, d) := by
  intro t
  induction t with
  | zero => intro p _; rfl
  | succ k ih =>
    intro p hp
    rw [rrS, if_neg (fun z => h.elim (fun y => y z.1) (fun y => y p hp z.2))]
    exact ih _ (Nat.mod_lt _ (by omega))
theorem rsI_full {K k p : Nat} {E : IM} {d : Nat} (h : ¬ d < K) : rsI K k p E d = (E, d) := by
  cases k with
  | zero => rfl
  | succ j => rw [rsI, if_neg h]
theorem rsI_rr (K n t : Nat) : ∀ (k p : Nat) (E : IM) (d : Nat), p + (k + 1) = n → rrS K n (k + 1 + t) E d p = rrS K n t (rsI K (k + 1) p E d).1 (rsI K (k + 1) p E d).2 0 := by
  intro k
  induction k with
  | zero =>
    intro p E d hp
    rw [show 0 + 1 + t = t + 1 by omega, rrS, rsI, show (p + 1) % n = 0 by rw [show p + 1 = n by omega]; exact Nat.mod_self n]
    by_cases h1 : d < K
    · by_cases h2 : goB E p
      · rw [if_pos ⟨h1, h2⟩, if_pos h1, if_pos h2]; rfl
      · rw [if_neg (fun z => h2 z.2), if_pos h1, if_neg h2]; rfl
    · rw [if_neg (fun z => h1 z.1), if_neg h1]
  | succ k ih =>
    intro p E d hp
    rw [show k + 1 + 1 + t = (k + 1 + t) + 1 by omega, rrS, rsI, Nat.mod_eq_of_lt (show p + 1 < n by omega)]
    by_cases h1 : d < K
    · by_cases h2 : goB E p
      · rw [if_pos ⟨h1, h2⟩, if_pos h1, if_pos h2]; exact ih _ _ _ (by omega)
      · rw [if_neg (fun z => h2 z.2), if_pos h1, if_neg h2]; exact ih _ _ _ (by omega)
    · rw [if_neg (fun z => h1 z.1), if_neg h1, ih _ _ _ (by omega), rsI_full h1]
theorem rsI_ge (K : Nat) : ∀ (k p : Nat) (E : IM) (d : Nat), d ≤ (rsI K k p E d).2 := by
  intro k
  induction k with
  | zero => intro p E d; exact Nat.le_refl _
  | succ j ih =>
    intro p E d
    rw [rsI]
    split
    · split
      · exact Nat.le_trans (Nat.le_succ d) (ih _ _ _)
      · exact ih _ _ _
    · exact Nat.le_refl _
theorem rsI_no (K : Nat) : ∀ (k p : Nat) (E : IM) (d : Nat), (rsI K k p E d).2 = d → rsI K k p E d = (E, d) ∧ (¬ d < K ∨ ∀ q, p ≤ q → q < p + k → ¬ goB E q) := by
  intro k
  induction k with
  | zero => intro p E d _; exact ⟨rfl, Or.inr fun q h1 h2 => by omega⟩
  | succ j ih =>
    intro p E d h
    rw [rsI] at h ⊢
    by_cases h1 : d < K
    · rw [if_pos h1] at h ⊢
      by_cases h2 : goB E p
      · rw [if_pos h2] at h
        have := rsI_ge K j (p + 1) (goU E p) (d + 1)
        omega
      · rw [if_neg h2] at h ⊢
        obtain ⟨e1, e2⟩ := ih _ _ _ h
        refine ⟨e1, e2.imp id fun y q q1 q2 => ?_⟩
        by_cases e : q = p
        · rw [e]; exact h2
        · exact y q (by omega) (by omega)
    · rw [if_neg h1]
      exact ⟨rfl, Or.inl h1⟩
theorem rsO_rr {K : Nat} (hK : K ≤ 6) : ∀ (j : Nat) (E : IM) (d : Nat), d ≤ K → 7 ≤ d + j → 0 < pN E → ∃ T, ∀ t, T ≤ t → rrS K (pN E) t E d 0 = rsO K j E d := by
  intro j
  induction j with
  | zero => intro E d h1 h2 _; omega
  | succ j ih =>
    intro E d h1 h2 hn
    rw [rsO]
    by_cases h : (rsI K (pN E) 0 E d).2 = d
    · rw [if_pos h]
      obtain ⟨e1, e2⟩ := rsI_no K _ _ _ _ h
      refine ⟨0, fun t _ => ?_⟩
      rw [e1]
      exact rr_fix (e2.imp id fun y q hq => y q (by omega) (by omega)) t 0 hn
    · rw [if_neg h]
      have hge := rsI_ge K (pN E) 0 E d
      have hle := rsI_le K (pN E) 0 E d h1
      have hp := rsI_pN K (pN E) 0 E d
      obtain ⟨T, hT⟩ := ih (rsI K (pN E) 0 E d).1 (rsI K (pN E) 0 E d).2 hle (by omega) (by rw [hp]; exact hn)
      rw [hp] at hT
      refine ⟨pN E + T, fun t ht => ?_⟩
      obtain ⟨k, hk⟩ : ∃ k, pN E = k + 1 := ⟨pN E - 1, by omega⟩
      have e := rsI_rr K (pN E) (t - pN E) k 0 E d (by omega)
      rw [← hk, show pN E + (t - pN E) = t by omega] at e
      rw [e]
      exact hT _ (by omega)
/-- of the last s of PEOPLE asked, none went -/
def rrI (n s p : Nat) (E : IM) : Prop := ∀ q, q < n → ((q < p ∧ p ≤ q + s) ∨ (p ≤ q ∧ p + n ≤ q + s)) → ¬ goB E q
def sp_R_rest : SpT := fun as S I L Post => ∃ k : Int32, rSp [.int k] (fun E => .int (restS E k)) (fun E => restU E k) as S I L Post
set_option maxHeartbeats 4000000 in
set_option maxRecDepth 100000 in
theorem c_R_rest : Con mR_rest 11 0 0 sp_R_rest := by
  refine con_of_X rfl fun G as S I L Post hs => ?_
  obtain ⟨k, rfl, rfl, ⟨hok, own⟩, h1⟩ := hs
  dsimp only at h1
  refine ⟨4, Nat.le_of_ble_eq_true rfl, ?_⟩
  show X mR_rest G _ S1 I L 0 [.ref 59, .int k, .null, .null, .null, .null] [] Post
  have n1 := hok.a.2.1
  refine x_iload_n dR_rest_0 rfl ?_
  refine x_iconst (v := 0) dR_rest_1 rfl ?_
  refine x_bipush (v := 6) dR_rest_2 rfl ?_
  -- at 4: .invokestatic 151
  refine x_callS_3 c_R_in ok_R_in ml_R_151 dR_rest_4 rfl rfl ?_
  refine ⟨_, _, _, rfl, fun a1 => ?_, fun a1 => ?_⟩
  · have a1 : inR k 0 6 := a1
    refine x_if_ne (tgt := 13) dR_rest_7 (by decide) (fun _ => ?_) (fun h => absurd h (by decide))
    rw [restS, restU, if_neg (not_not_intro a1), if_neg (not_not_intro a1)] at h1
    obtain ⟨K, hK, rfl⟩ := inR_of (n := 6) (by decide) a1
    rw [restF, cl_nI (by omega)] at h1
    have eout : (pN (rE I) = 0 ∧ rsO K 7 (rE I) 0 = (rE I, 0)) ∨ (0 < pN (rE I) ∧ ∃ T, ∀ t, T ≤ t → rrS K (pN (rE I)) t (rE I) 0 0 = rsO K 7 (rE I) 0) := by
      by_cases h0 : pN (rE I) = 0
      · refine Or.inl ⟨h0, ?_⟩
        rw [rsO, h0]
        rfl
      · exact Or.inr ⟨by omega, rsO_rr hK 7 (rE I) 0 (by omega) (by omega) (by omega)⟩
    generalize rsO K 7 (rE I) 0 = F at h1 eout
    refine x_iconst (v := 0) dR_rest_13 rfl ?_
    refine x_istoren_2 dR_rest_14 rfl rfl ?_
    refine x_iconst (v := 0) dR_rest_15 rfl ?_
    refine x_istoren_3 dR_rest_16 rfl rfl ?_
    refine x_iconst (v := 0) dR_rest_17 rfl ?_
    refine x_istore_4 dR_rest_18 rfl rfl ?_
    -- at 20: .iload_n 2
    have fin : ∀ (I' : IM) (L' : LM) (d : Nat) (a3 a4 a5 : Value), (∀ k, k < 59 → I' k = I k) → rOwn I' → F = (rE I', d) → X mR_rest G (11, 0, 0) S1 I' L' 100 [.ref 59, .int (nI K), .int (nI d), a3, a4, a5] [] Post := by
      intro I' L' d a3 a4 a5 f1 f2 hf
      rw [hf] at h1
      refine x_iload_n dR_rest_100 rfl ?_
      -- at 101: .ireturn
      refine x_ireturn dR_rest_101 rfl rfl ?_
      exact h1 I' L' f1 f2 rfl
    have loop : ∀ (z : Nat) (I' : IM) (L' : LM) (d s p : Nat) (a5 : Value), (K - d) * (pN (rE I) + 1) + (pN (rE I) - s) ≤ z → cat1at [a5] 1 = true → (∀ k, k < 59 → I' k = I k) → rOwn I' → Inv (rE I') → pN (rE I') = pN (rE I) → d ≤ K → s ≤ pN (rE I) → p < pN (rE I) → rrI (pN (rE I)) s p (rE I') → (∃ T, ∀ t, T ≤ t → rrS K (pN (rE I)) t (rE I') d p = F) →
        X mR_rest G (11, 0, 0) S1 I' L' 20 [.ref 59, .int (nI K), .int (nI d), .int (nI s), .int (nI p), a5] [] Post := by
      intro z
      induction z with
      | zero =>
        intro I' L' d s p a5 hz h5 f1 f2 hok' hpn hd hs hp hi hT
        have hd2 : d = K := by
          by_cases e : d = K
          · exact e
          · have : 1 * (pN (rE I) + 1) ≤ (K - d) * (pN (rE I) + 1) := Nat.mul_le_mul_right _ (by omega)
            omega
        obtain ⟨T, hT⟩ := hT
        have e := hT T (Nat.le_refl _)
        rw [rr_fix (Or.inl (by omega)) T p hp] at e
        refine x_iload_n dR_rest_20 rfl ?_
        refine x_iload_n dR_rest_21 rfl ?_
        -- at 22: .if_icmp .ge 78
        refine x_icmp_ge (tgt := 100) dR_rest_22 (by decide) (fun _ => ?_) (fun h => absurd (by rw [hd2]; exact Int32.le_refl _) h)
        exact fin I' L' d _ _ _ f1 f2 e.symm
      | succ z ih =>
        intro I' L' d s p a5 hz h5 f1 f2 hok' hpn hd hs hp hi hT
        by_cases hd2 : d = K
        · obtain ⟨T, hT⟩ := hT
          have e := hT T (Nat.le_refl _)
          rw [rr_fix (Or.inl (by omega)) T p hp] at e
          refine x_iload_n dR_rest_20 rfl ?_
          refine x_iload_n dR_rest_21 rfl ?_
          -- at 22: .if_icmp .ge 78
          refine x_icmp_ge (tgt := 100) dR_rest_22 (by decide) (fun _ => ?_) (fun h => absurd (by rw [hd2]; exact Int32.le_refl _) h)
          exact fin I' L' d _ _ _ f1 f2 e.symm
        refine x_iload_n dR_rest_20 rfl ?_
        refine x_iload_n dR_rest_21 rfl ?_
        -- at 22: .if_icmp .ge 78
        refine x_icmp_ge (tgt := 100) dR_rest_22 (by decide) (fun h => absurd h (nI_ge (by omega) (by omega))) (fun _ => ?_)
        refine x_iload_n dR_rest_25 rfl ?_
        refine x_aload_n dR_rest_26 rfl ?_
        refine x_getI fl_R_148 rfl dR_rest_27 rfl rfl ?_
        -- at 30: .if_icmp .ge 70
        rw [show I' 59 3 = nI (pN (rE I)) by rw [← hpn]; exact hok'.a.1]
        by_cases hs2 : s = pN (rE I)
        · obtain ⟨T, hT⟩ := hT
          have e := hT T (Nat.le_refl _)
          rw [rr_fix (Or.inr (fun q hq => hi q hq (by omega))) T p hp] at e
          refine x_icmp_ge (tgt := 100) dR_rest_30 (by decide) (fun _ => ?_) (fun h => absurd (by rw [hs2]; exact Int32.le_refl _) h)
          exact fin I' L' d _ _ _ f1 f2 e.symm
        refine x_icmp_ge (tgt := 100) dR_rest_30 (by decide) (fun h => absurd h (nI_ge (by omega) (by omega))) (fun _ => ?_)
        refine x_aload_n dR_rest_33 rfl ?_
        refine x_iload dR_rest_34 rfl ?_
        refine x_iconst (v := 0) dR_rest_36 rfl ?_
        -- at 37: .invokevirtual 335
        refine x_callV_2 c_R_goesTo ok_R_goesTo ml_R_335 dR_rest_37 rfl rfl rfl rfl rfl ?_
        refine ⟨p, 0, rfl, rfl, ⟨hok', f2⟩, by rw [hpn]; exact hp, fun I1 L1 hF1 => ?_⟩
        have sm1 := rSame.of f2 hF1
        refine x_eqi (y := nI (goE (rE I') p)) (congrArg nI (goesV_0 (rE I') p 5)) ?_
        have hle : goE (rE I') p ≤ 5 := leR_le _ _
        refine x_istore_5 dR_rest_40 rfl rfl ?_
        refine x_aload_n dR_rest_42 rfl ?_
        refine x_iload dR_rest_43 rfl ?_
        refine x_iload dR_rest_45 rfl ?_
        -- at 47: .invokevirtual 332
        refine x_callV_2 c_R_owedAt ok_R_owedAt ml_R_332 dR_rest_47 rfl rfl rfl rfl rfl ?_
        refine ⟨p, _, rfl, rfl, ⟨sm1.inv hok', sm1.2.2⟩, by rw [sm1.2.1, hpn]; exact hp, rng1_of hle, fun I2 L2 hF2 => ?_⟩
        have sm2 := sm1.tr (rSame.of sm1.2.2 hF2)
        refine x_eqi (y := totE (rE I') p (goE (rE I') p)) (by rw [sm1.2.1, totW_nI]) ?_
        refine x_aload_n dR_rest_50 rfl ?_
        refine x_iload dR_rest_51 rfl ?_
        refine x_aload_n dR_rest_53 rfl ?_
        refine x_getR fl_R_41 rfl dR_rest_54 rfl rfl rfl ?_
        refine x_iload dR_rest_57 rfl ?_
        refine x_ialdJ (j := p) dR_rest_59 rfl rfl (by first | rfl | (simp only [← nI_add, ← pk_mul]; rfl)) (by omega) ?_
        -- at 60: .invokevirtual 332
        have e9 : I2 69 p = rE I' 9 p := by
          rw [hF2 69 (by decide), hF1 69 (by decide)]
          exact (mk_lt (by have : pN (rE I') = cl (I' 59 3) := rfl; omega)).symm
        rw [e9]
        refine x_callV_2 c_R_owedAt ok_R_owedAt ml_R_332 dR_rest_60 rfl rfl rfl rfl rfl ?_
        refine ⟨p, _, rfl, rfl, ⟨sm2.inv hok', sm2.2.2⟩, by rw [sm2.2.1, hpn]; exact hp, (hok'.a.2.2 p (by omega)).2.2.2.2.2.2.2, fun I3 L3 hF3 => ?_⟩
        have sm3 := sm2.tr (rSame.of sm2.2.2 hF3)
        refine x_eqi (y := totE (rE I') p (cl (startV (rE I') p))) (by rw [sm2.2.1]; exact tot_here hok' (by omega)) ?_
        have nx : ∀ (I4 : IM) (L4 : LM) (d2 s2 : Nat), (K - d2) * (pN (rE I) + 1) + (pN (rE I) - s2) ≤ z → (∀ k, k < 59 → I4 k = I k) → rOwn I4 → Inv (rE I4) → pN (rE I4) = pN (rE I) → d2 ≤ K → s2 ≤ pN (rE I) → rrI (pN (rE I)) s2 ((p + 1) % pN (rE I)) (rE I4) → (∃ T, ∀ t, T ≤ t → rrS K (pN (rE I)) t (rE I4) d2 ((p + 1) % pN (rE I)) = F) → ∀ x : Int32,
            X mR_rest G (11, 0, 0) S1 I4 L4 86 [.ref 59, .int (nI K), .int (nI d2), .int (nI s2), .int (nI p), .int x] [] Post := by
          intro I4 L4 d2 s2 z2 g1 g2 g3 g4 g5 g6 g7 g8 x
          refine x_iload dR_rest_86 rfl ?_
          refine x_iconst (v := 1) dR_rest_88 rfl ?_
          refine x_iadd dR_rest_89 ?_
          refine x_aload_n dR_rest_90 rfl ?_
          refine x_getI fl_R_148 rfl dR_rest_91 rfl rfl ?_
          -- at 94: .irem
          rw [show I4 59 3 = nI (pN (rE I)) by rw [← g4]; exact g3.a.1, nI_1]
          have en0 : ¬ nI (pN (rE I)) = 0 := fun y => by
            have := (nI_ltI (a := 0) (b := pN (rE I)) (by omega) (by omega)).mpr (by omega)
            rw [y] at this
            exact absurd this (by decide)
          refine x_irem dR_rest_94 en0 ?_
          -- at 95: .istore 4
          refine x_eqi (y := nI ((p + 1) % pN (rE I))) (pk_rem (by omega) (by omega) (by omega)) ?_
          refine x_istore_4 dR_rest_95 rfl rfl ?_
          refine x_goto (tgt := 20) dR_rest_97 (by decide) ?_
          -- at 20: .iload_n 2
          exact ih I4 L4 d2 s2 _ _ z2 rfl g1 g2 g3 g4 g5 g6 (Nat.mod_lt _ (by omega)) g7 g8
        have mods : (p + 1 < pN (rE I) ∧ (p + 1) % pN (rE I) = p + 1) ∨ (p + 1 = pN (rE I) ∧ (p + 1) % pN (rE I) = 0) := by
          by_cases e : p + 1 < pN (rE I)
          · exact Or.inl ⟨e, Nat.mod_eq_of_lt e⟩
          · have e2 : p + 1 = pN (rE I) := by omega
            exact Or.inr ⟨e2, by rw [e2]; exact Nat.mod_self _⟩
        obtain ⟨T, hT⟩ := hT
        have hT' : ∀ t, T ≤ t → (if d < K ∧ goB (rE I') p then rrS K (pN (rE I)) t (goU (rE I') p) (d + 1) ((p + 1) % pN (rE I)) else rrS K (pN (rE I)) t (rE I') d ((p + 1) % pN (rE I))) = F := fun t ht => by
          have := hT (t + 1) (by omega)
          rw [rrS] at this
          exact this
        refine x_icmp_ge (tgt := 83) dR_rest_63 (by decide) (fun c1 => ?_) (fun c1 => ?_)
        · have ng : ¬ goB (rE I') p := Int32.not_lt.mpr c1
          refine x_iincp_3 dR_rest_83 rfl rfl ?_
          -- at 86: .iload 4
          rw [nI_1]
          refine nx I3 L3 d (s + 1) (by omega) (fun k hk => (sm3.1 k hk).trans (f1 k hk)) sm3.2.2 (sm3.inv hok') (by rw [sm3.2.1]; exact hpn) hd (by omega) ?_ ⟨T, fun t ht => ?_⟩ _
          · rw [sm3.2.1]
            intro q hq hc
            by_cases e : q = p
            · rw [e]; exact ng
            · refine hi q hq ?_
              rcases mods with ⟨m1, m2⟩ | ⟨m1, m2⟩ <;> rw [m2] at hc <;> omega
          · have := hT' t ht
            rw [if_neg (fun y => ng y.2)] at this
            rw [sm3.2.1]
            exact this
        · have yg : goB (rE I') p := Int32.not_le.mp c1
          refine x_aload_n dR_rest_66 rfl ?_
          refine x_getR fl_R_41 rfl dR_rest_67 rfl rfl rfl ?_
          refine x_iload dR_rest_70 rfl ?_
          refine x_iload dR_rest_72 rfl ?_
          refine x_iastJ (j := p) dR_rest_74 rfl rfl (by first | rfl | (simp only [← nI_add, ← pk_mul]; rfl)) (by omega) ?_
          -- at 75: .iinc 2 1
          refine x_iincp_2 dR_rest_75 rfl rfl ?_
          refine x_iconst (v := 0) dR_rest_78 rfl ?_
          refine x_istoren_3 dR_rest_79 rfl rfl ?_
          refine x_goto (tgt := 86) dR_rest_80 (by decide) ?_
          -- at 86: .iload 4
          rw [nI_1]
          have e4 : rE (up2 I3 69 p (nI (goE (rE I') p))) = goU (rE I') p := by
            rw [rE_u9 I3 _ (by have : pN (rE I3) = cl (I3 59 3) := rfl; rw [← this, sm3.2.1]; omega), sm3.2.1]
            rfl
          refine nx _ L3 (d + 1) 0 ?_ (fun k hk => by rw [up2_n _ _ _ (by omega)]; exact (sm3.1 k hk).trans (f1 k hk)) (sm3.2.2.up (by decide) (Or.inl (by decide))) (by rw [e4]; exact Inv_mv hok' p (by omega)) (by rw [e4, pN_go]; exact hpn) (by omega) (Nat.zero_le _) ?_ ⟨T, fun t ht => ?_⟩ _
          · have hm : (K - d) * (pN (rE I) + 1) = (K - (d + 1)) * (pN (rE I) + 1) + (pN (rE I) + 1) := by
              rw [← Nat.succ_mul, show (K - (d + 1)).succ = K - d by omega]
            omega
          · intro q hq hc
            omega
          · have := hT' t ht
            rw [if_pos ⟨by omega, yg⟩] at this
            rw [e4]
            exact this
    rcases eout with ⟨h0, hf⟩ | ⟨h0, hT⟩
    · refine x_iload_n dR_rest_20 rfl ?_
      refine x_iload_n dR_rest_21 rfl ?_
      -- at 22: .if_icmp .ge 78
      by_cases hK0 : K = 0
      · subst hK0
        refine x_icmp_ge (tgt := 100) dR_rest_22 (by decide) (fun _ => ?_) (fun h => absurd (by decide) h)
        exact fin I L 0 _ _ _ (fun _ _ => rfl) own hf
      · refine x_icmp_ge (tgt := 100) dR_rest_22 (by decide) (fun h => absurd h (nI_ge (a := 0) (by omega) (by omega))) (fun _ => ?_)
        refine x_iload_n dR_rest_25 rfl ?_
        refine x_aload_n dR_rest_26 rfl ?_
        refine x_getI fl_R_148 rfl dR_rest_27 rfl rfl ?_
        -- at 30: .if_icmp .ge 70
        rw [show I 59 3 = nI (pN (rE I)) from hok.a.1, h0]
        refine x_icmp_ge (tgt := 100) dR_rest_30 (by decide) (fun _ => ?_) (fun h => absurd (by decide) h)
        exact fin I L 0 _ _ _ (fun _ _ => rfl) own hf
    · refine loop _ I L 0 0 0 .null (Nat.le_refl _) rfl (fun _ _ => rfl) own hok rfl (by omega) (by omega) h0 (fun q hq hc => ?_) hT
      omega
  · have a1 : ¬ inR k 0 6 := a1
    refine x_if_ne (tgt := 13) dR_rest_7 (by decide) (fun h => absurd (by decide) h) (fun _ => ?_)
    rw [restS, restU, if_pos a1, if_pos a1] at h1
    refine x_bipush (v := -2) dR_rest_10 rfl ?_
    -- at 12: .ireturn
    refine x_ireturn dR_rest_12 rfl rfl ?_
    exact h1 I L (fun _ _ => rfl) own rfl
end
section
-- 75.rf
/-! the reference's calls: chance, lost, laws -/
def sp_R_chanceOf : SpT := fun as S I L Post => ∃ p q : Nat, as = [.ref 59, .int (nI p), .int (nI q)] ∧ S = S1 ∧ rOk I ∧ p < pN (rE I) ∧ ∀ (I' : IM) (L' : LM), Fr [94, 95] I I' → Post (some (.long (chanE (rE I) p q))) S1 I' L'
set_option maxHeartbeats 4000000 in
set_option maxRecDepth 100000 in
theorem c_R_chanceOf : Con mR_chanceOf 5 0 0 sp_R_chanceOf := by
  refine con_of_X rfl fun G as S I L Post hs => ?_
  obtain ⟨p, q, rfl, rfl, ⟨hok, own⟩, hp, h1⟩ := hs
  refine ⟨3, Nat.le_of_ble_eq_true rfl, ?_⟩
  show X mR_chanceOf G _ S1 I L 0 [.ref 59, .int (nI p), .int (nI q), .null, .null, .null] [] Post
  have n1 := hok.a.2.1
  have n3 := hok.c.2.1
  obtain ⟨k1, k2, k3, k4, k5, k6⟩ := rRk hok
  refine x_ldc2 dR_chanceOf_0 cn_R_339 ?_
  refine x_lstoren_3 dR_chanceOf_3 rfl rfl ?_
  refine x_iconst (v := 0) dR_chanceOf_4 rfl ?_
  refine x_istore_5 dR_chanceOf_5 rfl rfl ?_
  -- at 7: .iload 5
  have loop : ∀ (k i : Nat) (acc : Int64) (I' : IM), i + k = sN (rE I) → acc = chanS (rE I) (hearV (rE I) (PE (rE I))) p (nI q) i → Fr [94, 95] I I' → X mR_chanceOf G (5, 0, 0) S1 I' L 7 [.ref 59, .int (nI p), .int (nI q), .long acc, .null, .int (nI i)] [] Post := by
    intro k
    induction k with
    | zero =>
      intro i acc I' hi ha hF
      have hi : i = sN (rE I) := by omega
      refine x_iload dR_chanceOf_7 rfl ?_
      refine x_aload_n dR_chanceOf_9 rfl ?_
      refine x_getI fl_R_158 rfl dR_chanceOf_10 rfl rfl ?_
      -- at 13: .if_icmp .ge 42
      rw [hF 59 (by decide), show I 59 17 = nI (sN (rE I)) from hok.c.1]
      refine x_icmp_ge (tgt := 55) dR_chanceOf_13 (by decide) (fun _ => ?_) (fun h => absurd (by rw [hi]; exact Int32.le_refl _) h)
      refine x_ldc2 dR_chanceOf_55 cn_R_339 ?_
      refine x_lload_n dR_chanceOf_58 rfl ?_
      refine x_lsub dR_chanceOf_59 ?_
      -- at 60: .lreturn
      refine x_lreturn dR_chanceOf_60 rfl ?_
      rw [ha, hi]
      exact h1 I' L hF
    | succ k ih =>
      intro i acc I' hi ha hF
      have hV : rV I' = rV I := rV_fr (hF.wk (by decide))
      have e14 : I' 74 i = rE I 14 i := by
        rw [hF 74 (by decide)]
        exact ((rVE I).2.2 i (by omega)).1
      refine x_iload dR_chanceOf_7 rfl ?_
      refine x_aload_n dR_chanceOf_9 rfl ?_
      refine x_getI fl_R_158 rfl dR_chanceOf_10 rfl rfl ?_
      -- at 13: .if_icmp .ge 42
      rw [hF 59 (by decide), show I 59 17 = nI (sN (rE I)) from hok.c.1]
      refine x_icmp_ge (tgt := 55) dR_chanceOf_13 (by decide) (fun h => absurd h (nI_ge (by omega) (by omega))) (fun _ => ?_)
      refine x_aload_n dR_chanceOf_16 rfl ?_
      refine x_getR fl_R_56 rfl dR_chanceOf_17 rfl rfl rfl ?_
      refine x_iload dR_chanceOf_20 rfl ?_
      refine x_ialdJ (j := i) dR_chanceOf_22 rfl rfl (by first | rfl | (simp only [← nI_add, ← pk_mul]; rfl)) (by omega) ?_
      refine x_iload_n dR_chanceOf_23 rfl ?_
      -- at 24: .if_icmp .ne 23
      rw [e14]
      refine x_icmp_ne (tgt := 47) dR_chanceOf_24 (by decide) (fun c1 => ?_) (fun c1 => ?_)
      · refine x_lload_n dR_chanceOf_47 rfl ?_
        refine x_lstoren_3 dR_chanceOf_48 rfl rfl ?_
        refine x_iincp_5 dR_chanceOf_49 rfl rfl ?_
        refine x_goto (tgt := 7) dR_chanceOf_52 (by decide) ?_
        -- at 7: .iload 5
        rw [nI_1]
        exact ih (i + 1) _ I' (by omega) (by rw [chanS, if_neg c1, ha]) hF
      · refine x_lload_n dR_chanceOf_27 rfl ?_
        refine x_bipush (v := 100) dR_chanceOf_28 rfl ?_
        refine x_aload_n dR_chanceOf_30 rfl ?_
        refine x_iload dR_chanceOf_31 rfl ?_
        refine x_iload_n dR_chanceOf_33 rfl ?_
        -- at 34: .invokevirtual 256
        refine x_callV_2 c_R_hearsOf ok_R_hearsOf ml_R_256 dR_chanceOf_34 rfl rfl rfl rfl rfl ?_
        refine ⟨i, p, PE (rE I), rfl, rfl, by omega, by omega, by rw [hV]; exact k5 i (by omega), by rw [hV]; exact k4 p hp, k6.fr (hF 59 (by decide)) (hF 79 (by decide)) (hF 80 (by decide)), fun I2 hF2 => ?_⟩
        rw [hV, hear_eq (rVE I) _ (by omega) hp]
        refine x_isub dR_chanceOf_37 ?_
        refine x_i2l dR_chanceOf_38 ?_
        refine x_lmul dR_chanceOf_39 ?_
        refine x_ldc2 dR_chanceOf_40 cn_R_271 ?_
        refine x_ldiv dR_chanceOf_43 (by decide) ?_
        refine x_goto (tgt := 48) dR_chanceOf_44 (by decide) ?_
        refine x_lstoren_3 dR_chanceOf_48 rfl rfl ?_
        refine x_iincp_5 dR_chanceOf_49 rfl rfl ?_
        refine x_goto (tgt := 7) dR_chanceOf_52 (by decide) ?_
        -- at 7: .iload 5
        rw [nI_1]
        exact ih (i + 1) _ I2 (by omega) (by rw [chanS, if_pos c1, ha]) (hF.tr hF2)
  exact loop (sN (rE I)) 0 1000000 I (by omega) (by rw [chanS]) Fr.rfl
theorem rSame.of2 {I I' : IM} (own : rOwn I) (hF : Fr [94, 95] I I') : rSame I I' := (rSame.refl own).fr (hF.wk (by decide))
def sp_R_chance : SpT := fun as S I L Post => ∃ p q : Int32, rSp [.int p, .int q] (fun E => .long (chanceS E p q)) (fun E => E) as S I L Post
set_option maxHeartbeats 4000000 in
set_option maxRecDepth 100000 in
theorem c_R_chance : Con mR_chance 6 0 0 sp_R_chance := by
  refine con_of_X rfl fun G as S I L Post hs => ?_
  obtain ⟨p, q, rfl, rfl, ⟨hok, own⟩, h1⟩ := hs
  dsimp only at h1
  have h1 := r_end h1
  refine ⟨0, Nat.le_of_ble_eq_true rfl, ?_⟩
  show X mR_chance G _ S1 I L 0 [.ref 59, .int p, .int q] [] Post
  have n1 := hok.a.2.1
  have n2 := hok.b.2.1
  have bad : (¬ inR p 0 (rE I 29 1 - 1) ∨ ¬ inR q 0 (rE I 29 2 - 1)) → X mR_chance G (6, 0, 0) S1 I L 25 [.ref 59, .int p, .int q] [] Post := by
    intro hc
    rw [chanceS, if_pos hc] at h1
    refine x_ldc2 dR_chance_25 cn_R_345 ?_
    -- at 28: .lreturn
    refine x_lreturn dR_chance_28 rfl ?_
    exact h1 (rSame.refl own)
  refine x_aload_n dR_chance_0 rfl ?_
  refine x_iload_n dR_chance_1 rfl ?_
  -- at 2: .invokevirtual 230
  refine x_callV_1 c_R_isOne ok_R_isOne ml_R_230 dR_chance_2 rfl rfl rfl rfl rfl ?_
  refine ⟨_, rfl, rfl, fun a1 => ?_, fun a1 => ?_⟩
  · refine x_if_eq (tgt := 25) dR_chance_5 (by decide) (fun h => absurd h (by decide)) (fun _ => ?_)
    refine x_aload_n dR_chance_8 rfl ?_
    refine x_iload_n dR_chance_9 rfl ?_
    -- at 10: .invokevirtual 236
    refine x_callV_1 c_R_isPromise ok_R_isPromise ml_R_236 dR_chance_10 rfl rfl rfl rfl rfl ?_
    refine ⟨_, rfl, rfl, fun a2 => ?_, fun a2 => ?_⟩
    · refine x_if_eq (tgt := 25) dR_chance_13 (by decide) (fun h => absurd h (by decide)) (fun _ => ?_)
      have a1 : inR p 0 (rE I 29 1 - 1) := a1
      have a2 : inR q 0 (rE I 29 2 - 1) := a2
      rw [chanceS, if_neg (fun z => z.elim (fun y => y a1) (fun y => y a2))] at h1
      rw [show rE I 29 1 = nI (pN (rE I)) from hok.a.1] at a1
      rw [show rE I 29 2 = nI (qN (rE I)) from hok.b.1] at a2
      obtain ⟨i, hi, rfl⟩ := has_nat (by omega) a1
      obtain ⟨j, hj, rfl⟩ := has_nat (by omega) a2
      rw [cl_nI (by omega), cl_nI (by omega)] at h1
      refine x_aload_n dR_chance_16 rfl ?_
      refine x_iload_n dR_chance_17 rfl ?_
      refine x_iload_n dR_chance_18 rfl ?_
      -- at 19: .invokevirtual 341
      refine x_callV_2 c_R_chanceOf ok_R_chanceOf ml_R_341 dR_chance_19 rfl rfl rfl rfl rfl ?_
      refine ⟨i, j, rfl, rfl, ⟨hok, own⟩, hi, fun I' L' hF => ?_⟩
      refine x_goto (tgt := 28) dR_chance_22 (by decide) ?_
      -- at 28: .lreturn
      refine x_lreturn dR_chance_28 rfl ?_
      exact h1 (rSame.of2 own hF)
    · refine x_if_eq (tgt := 25) dR_chance_13 (by decide) (fun _ => ?_) (fun h => absurd (by decide) h)
      exact bad (Or.inr a2)
  · refine x_if_eq (tgt := 25) dR_chance_5 (by decide) (fun _ => ?_) (fun h => absurd (by decide) h)
    exact bad (Or.inl a1)
def sp_R_lost : SpT := fun as S I L Post => ∃ q : Int32, rSp [.int q] (fun E => .long (lostS E q)) (fun E => E) as S I L Post
set_option maxHeartbeats 4000000 in
set_option maxRecDepth 100000 in
theorem c_R_lost : Con mR_lost 6 0 0 sp_R_lost := by
  refine con_of_X rfl fun G as S I L Post hs => ?_
  obtain ⟨q, rfl, rfl, ⟨hok, own⟩, h1⟩ := hs
  dsimp only at h1
  have h1 := r_end h1
  refine ⟨3, Nat.le_of_ble_eq_true rfl, ?_⟩
  show X mR_lost G _ S1 I L 0 [.ref 59, .int q, .null, .null, .null] [] Post
  have n1 := hok.a.2.1
  have n2 := hok.b.2.1
  refine x_aload_n dR_lost_0 rfl ?_
  refine x_iload_n dR_lost_1 rfl ?_
  -- at 2: .invokevirtual 236
  refine x_callV_1 c_R_isPromise ok_R_isPromise ml_R_236 dR_lost_2 rfl rfl rfl rfl rfl ?_
  refine ⟨_, rfl, rfl, fun a1 => ?_, fun a1 => ?_⟩
  · have a1 : inR q 0 (rE I 29 2 - 1) := a1
    refine x_if_ne (tgt := 12) dR_lost_5 (by decide) (fun _ => ?_) (fun h => absurd h (by decide))
    rw [lostS, if_neg (not_not_intro a1)] at h1
    rw [show rE I 29 2 = nI (qN (rE I)) from hok.b.1] at a1
    obtain ⟨i, hi, rfl⟩ := has_nat (by omega) a1
    rw [cl_nI (by omega)] at h1
    refine x_ldc2 dR_lost_12 cn_R_339 ?_
    refine x_lstoren_2 dR_lost_15 rfl rfl ?_
    refine x_iconst (v := 0) dR_lost_16 rfl ?_
    refine x_istore_4 dR_lost_17 rfl rfl ?_
    -- at 19: .iload 4
    have loop : ∀ (k j : Nat) (acc : Int64) (I' : IM) (L' : LM), j + k = pN (rE I) → acc = lostR (rE I) i j → rSame I I' → X mR_lost G (6, 0, 0) S1 I' L' 19 [.ref 59, .int (nI i), .long acc, .null, .int (nI j)] [] Post := by
      intro k
      induction k with
      | zero =>
        intro j acc I' L' hj ha sm
        have hj : j = pN (rE I) := by omega
        refine x_iload dR_lost_19 rfl ?_
        refine x_aload_n dR_lost_21 rfl ?_
        refine x_getI fl_R_148 rfl dR_lost_22 rfl rfl ?_
        -- at 25: .if_icmp .ge 52
        rw [show I' 59 3 = nI (pN (rE I)) by rw [← sm.2.1]; exact (sm.inv hok).a.1]
        refine x_icmp_ge (tgt := 77) dR_lost_25 (by decide) (fun _ => ?_) (fun h => absurd (by rw [hj]; exact Int32.le_refl _) h)
        refine x_lload_n dR_lost_77 rfl ?_
        -- at 78: .lreturn
        refine x_lreturn dR_lost_78 rfl ?_
        rw [ha, hj]
        exact h1 sm
      | succ k ih =>
        intro j acc I' L' hj ha sm
        have e62 : I' 62 = rE I 2 := congrFun sm.2.1 2
        have no : ¬ (canV (rE I) j i = true ∧ ¬ rE I 2 j = 4) → X mR_lost G (6, 0, 0) S1 I' L' 69 [.ref 59, .int (nI i), .long acc, .null, .int (nI j)] [] Post := by
          intro hn
          refine x_lload_n dR_lost_69 rfl ?_
          refine x_lstoren_2 dR_lost_70 rfl rfl ?_
          refine x_iincp_4 dR_lost_71 rfl rfl ?_
          refine x_goto (tgt := 19) dR_lost_74 (by decide) ?_
          -- at 19: .iload 4
          rw [nI_1]
          exact ih (j + 1) _ I' L' (by omega) (by rw [lostR, if_neg hn, ha]) sm
        refine x_iload dR_lost_19 rfl ?_
        refine x_aload_n dR_lost_21 rfl ?_
        refine x_getI fl_R_148 rfl dR_lost_22 rfl rfl ?_
        -- at 25: .if_icmp .ge 52
        rw [show I' 59 3 = nI (pN (rE I)) by rw [← sm.2.1]; exact (sm.inv hok).a.1]
        refine x_icmp_ge (tgt := 77) dR_lost_25 (by decide) (fun h => absurd h (nI_ge (by omega) (by omega))) (fun _ => ?_)
        refine x_aload_n dR_lost_28 rfl ?_
        refine x_iload dR_lost_29 rfl ?_
        refine x_iload_n dR_lost_31 rfl ?_
        -- at 32: .invokevirtual 283
        refine x_callV_2 c_R_can ok_R_can ml_R_283 dR_lost_32 rfl rfl rfl rfl rfl ?_
        refine ⟨j, i, rfl, rfl, by omega, by omega, fun b1 => ?_, fun b1 => ?_⟩
        · rw [can_eq (rVE I'), sm.2.1] at b1
          refine x_if_eq (tgt := 69) dR_lost_35 (by decide) (fun h => absurd h (by decide)) (fun _ => ?_)
          refine x_aload_n dR_lost_38 rfl ?_
          refine x_getR fl_R_20 rfl dR_lost_39 rfl rfl rfl ?_
          refine x_iload dR_lost_42 rfl ?_
          refine x_ialdJ (j := j) dR_lost_44 rfl rfl (by first | rfl | (simp only [← nI_add, ← pk_mul]; rfl)) (by omega) ?_
          refine x_iconst (v := 4) dR_lost_45 rfl ?_
          -- at 46: .if_icmp .eq 23
          rw [e62]
          by_cases b2 : rE I 2 j = 4
          · refine x_icmp_eq (tgt := 69) dR_lost_46 (by decide) (fun _ => ?_) (fun h => absurd b2 h)
            exact no (fun z => z.2 b2)
          · refine x_icmp_eq (tgt := 69) dR_lost_46 (by decide) (fun h => absurd h b2) (fun _ => ?_)
            refine x_lload_n dR_lost_49 rfl ?_
            refine x_ldc2 dR_lost_50 cn_R_339 ?_
            refine x_aload_n dR_lost_53 rfl ?_
            refine x_iload dR_lost_54 rfl ?_
            refine x_iload_n dR_lost_56 rfl ?_
            -- at 57: .invokevirtual 341
            refine x_callV_2 c_R_chanceOf ok_R_chanceOf ml_R_341 dR_lost_57 rfl rfl rfl rfl rfl ?_
            refine ⟨j, i, rfl, rfl, ⟨sm.inv hok, sm.2.2⟩, by rw [sm.2.1]; omega, fun I2 L2 hF2 => ?_⟩
            rw [sm.2.1]
            refine x_lsub dR_lost_60 ?_
            refine x_lmul dR_lost_61 ?_
            refine x_ldc2 dR_lost_62 cn_R_339 ?_
            refine x_ldiv dR_lost_65 (by decide) ?_
            refine x_goto (tgt := 70) dR_lost_66 (by decide) ?_
            refine x_lstoren_2 dR_lost_70 rfl rfl ?_
            refine x_iincp_4 dR_lost_71 rfl rfl ?_
            refine x_goto (tgt := 19) dR_lost_74 (by decide) ?_
            -- at 19: .iload 4
            rw [nI_1]
            exact ih (j + 1) _ I2 L2 (by omega) (by rw [lostR, if_pos ⟨b1, b2⟩, ha]) (sm.fr (hF2.wk (by decide)))
        · rw [can_eq (rVE I'), sm.2.1] at b1
          refine x_if_eq (tgt := 69) dR_lost_35 (by decide) (fun _ => ?_) (fun h => absurd (by decide) h)
          exact no (fun z => b1 z.1)
    exact loop (pN (rE I)) 0 1000000 I L (by omega) rfl (rSame.refl own)
  · have a1 : ¬ inR q 0 (rE I 29 2 - 1) := a1
    refine x_if_ne (tgt := 12) dR_lost_5 (by decide) (fun h => absurd (by decide) h) (fun _ => ?_)
    rw [lostS, if_pos a1] at h1
    refine x_ldc2 dR_lost_8 cn_R_345 ?_
    -- at 11: .lreturn
    refine x_lreturn dR_lost_11 rfl ?_
    exact h1 (rSame.refl own)
/-! each law in turn -/
theorem up59_59 {I : IM} {j : Nat} (x y : Int32) : up2 (up2 I 59 j x) 59 j y = up2 I 59 j y := by
  funext k
  by_cases e : k = 59
  · subst e
    rw [up2_s, up2_s, up2_s]
    funext i
    unfold up1
    by_cases e2 : i = j <;> simp [e2]
  · rw [up2_n _ _ _ e, up2_n _ _ _ e, up2_n _ _ _ e]
theorem up59_id {I : IM} {j : Nat} : up2 I 59 j (I 59 j) = I := by
  funext k
  by_cases e : k = 59
  · subst e
    rw [up2_s]
    funext i
    unfold up1
    by_cases e2 : i = j <;> simp [e2]
  · rw [up2_n _ _ _ e]
theorem Fr.up59 {I I' : IM} {ks : List Nat} (h : Fr ks I I') (h59 : 59 ∉ ks) (j : Nat) (x : Int32) : Fr ks (up2 I 59 j x) (up2 I' 59 j x) := by
  intro k hk
  by_cases e : k = 59
  · subst e
    rw [up2_s, up2_s, h 59 h59]
  · rw [up2_n _ _ _ e, up2_n _ _ _ e]
    exact h k hk
theorem neg_lt {x y : Int32} (hx : 0 ≤ x) (hy : 0 ≤ y) : -y < -x ↔ x < y := by
  have h1 := Int32.le_iff_toInt_le.mp hx
  have h2 := Int32.le_iff_toInt_le.mp hy
  have b1 := x.toInt_lt
  have b2 := y.toInt_lt
  rw [Int32.lt_iff_toInt_lt, Int32.lt_iff_toInt_lt, Int32.toInt_neg, Int32.toInt_neg]
  simp only [Int.bmod] at *
  have e0 : (0 : Int32).toInt = 0 := rfl
  rw [e0] at h1 h2
  split <;> split <;> omega
theorem pain_nn (V : IM) (P : Nat → List Int32) (T : Nat → Int32) : ∀ n, n ≤ 8 → rng (painA V P T n) (10000 * n + 1) := by
  intro n
  induction n with
  | zero => intro _; exact ⟨0, by omega, rfl⟩
  | succ k ih =>
    intro hk
    obtain ⟨a, ha, ea⟩ := ih (by omega)
    have hb : rng (painV V P T k) 10000 := by
      unfold painV
      generalize valP _ _ = x
      have h0 := bnd_nn x 9999
      refine rng_of (M := 10000) rfl (by omega) h0 ?_
      unfold bnd
      have hm : imin x 9999 ≤ 9999 := by
        unfold imin
        split
        · exact Int32.le_refl _
        · rename_i h; exact Int32.not_lt.mp h
      unfold imax
      split
      · exact Int32.lt_of_le_of_lt hm (by decide)
      · decide
    obtain ⟨b, hb, eb⟩ := hb
    rw [painA, ea, eb, nI_add]
    exact ⟨a + b, by omega, rfl⟩
/-- the same but for THE LAW -/
def rLawS (I I' : IM) : Prop := rSame I (up2 I' 59 27 (I 59 27))
theorem rLawS.fr {I I' I'' : IM} (h : rLawS I I') (hF : Fr [93, 94, 95, 96, 97, 98, 99] I' I'') : rLawS I I'' := by
  unfold rLawS at h ⊢
  exact h.fr (hF.up59 (by decide) _ _)
theorem rLawS.up {I I' : IM} (h : rLawS I I') (x : Int32) : rLawS I (up2 I' 59 27 x) := by
  unfold rLawS at h ⊢
  rw [up59_59]
  exact h
theorem rLawS.at {I I' : IM} (h : rLawS I I') {j : Nat} (hj : j ≠ 27) : I' 59 j = up2 I' 59 27 (I 59 27) 59 j := by
  rw [up2_s, up1_n _ _ hj]
def KpL (I' : IM) (E : IM) (t : Nat) : Prop := KpOk I' E (prog E t) (RT E t) (pN E) (qN E)
theorem TQ_L (E : IM) (t : Nat) : TQ (RT E t) (qN E) = TT E t := by
  funext p
  exact QV_tot E (prog E t) (pN E) (qN E) (-1) (sN E) p
/-- owes, by the law t -/
theorem rLaw_ow {I I' : IM} (hok : Inv (rE I)) (h : rLawS I I') {t : Nat} (ht : t < tN (rE I)) : RkOk (up2 I' 59 27 (nI t)) (prog (rE I) t) (pN (rE I)) (sN (rE I)) ∧ OwOk (up2 I' 59 27 (nI t)) (pN (rE I)) (sN (rE I)) (qN (rE I)) ∧ up2 I' 59 27 (nI t) 59 60 = -1 ∧ up2 I' 59 27 (nI t) 59 55 = 0 ∧ VEq (rV (up2 I' 59 27 (nI t))) (rE I) (pN (rE I)) (sN (rE I)) ∧ up2 I' 59 27 (nI t) 59 17 = nI (sN (rE I)) := by
  unfold rLawS at h
  have e : up2 I' 59 27 (nI t) = up2 (up2 I' 59 27 (I 59 27)) 59 27 (nI t) := (up59_59 _ _).symm
  rw [e]
  generalize up2 I' 59 27 (I 59 27) = J at h ⊢
  have hJ := h.inv hok
  obtain ⟨k1, k2, k3, k4, k5, k6⟩ := rRk hJ
  obtain ⟨w1, w2, w3, w4⟩ := rOw hJ (sN (rE J))
  have hV := rVE J
  have hs : J 59 17 = nI (sN (rE J)) := hJ.c.1
  have ht2 := rTxt hJ (t := t) (by rw [h.2.1]; exact ht)
  rw [h.2.1] at k1 k2 k3 k4 k5 w1 w2 w3 w4 hV hs ht2
  have hn : ∀ j, j ≠ 27 → up2 J 59 27 (nI t) 59 j = J 59 j := fun j hj => by rw [up2_s, up1_n _ _ hj]
  refine ⟨⟨by rw [hn 3 (by decide)]; exact k1, k2, k3, by rw [rV_59]; exact k4, by rw [rV_59]; exact k5, ⟨t, by rw [up2_s, up1_s], ?_⟩⟩, ⟨by rw [hn 12 (by decide)]; exact w1, w2, by rw [rV_59]; exact w3, by rw [rV_59]; exact w4⟩, by rw [hn 60 (by decide)]; exact h.2.2.2.1, by rw [hn 55 (by decide)]; exact h.2.2.1, by rw [rV_59]; exact hV, by rw [hn 17 (by decide)]; exact hs⟩
  unfold TxtR at ht2 ⊢
  rw [up2_n _ _ _ (by decide), up2_n _ _ _ (by decide)]
  exact ht2
/-- what is held of the best law so far -/
def lwI (E : IM) (w : Int32) (t : Nat) (a b : Int32) : Prop := w = 0 ∨ (w = 1 ∧ a = (lwF E 1 t).1 ∧ b = (lwF E 1 t).2) ∨ (w = 2 ∧ a = (lwF E 2 t).1 ∧ b = -(lwF E 2 t).2 ∧ 0 ≤ (lwF E 2 t).2)
def lwW (E : IM) (w : Int32) (t : Nat) (v : Int32) : Prop := w = 0 ∨ (w = 1 ∧ v = lawK E t 1) ∨ (w = 2 ∧ v = -lawK E t 2 ∧ 0 ≤ lawK E t 2)
theorem lwI.take {E : IM} {w : Int32} {t : Nat} {a b v : Int32} (h : lwI E w t a b) (hv : lwW E w t v) (hc : a = -1 ∨ b < v) : lwI E w (t + 1) (nI t) v := by
  rcases h with h | ⟨h, h1, h2⟩ | ⟨h, h1, h2, h3⟩
  · exact Or.inl h
  · refine Or.inr (Or.inl ⟨h, ?_⟩)
    subst h
    rcases hv with z | ⟨z, hv⟩ | ⟨z, hv, -⟩
    · exact absurd z (by decide)
    · have hs : lwF E 1 (t + 1) = (nI t, lawK E t 1) := by
        rw [lwF, if_pos]
        rw [h1, h2, hv] at hc
        exact hc.elim Or.inl (fun y => Or.inr (Or.inr ⟨by decide, y⟩))
      rw [hs]
      exact ⟨rfl, hv⟩
    · exact absurd z (by decide)
  · refine Or.inr (Or.inr ⟨h, ?_⟩)
    subst h
    rcases hv with z | ⟨z, hv⟩ | ⟨z, hv, hnn⟩
    · exact absurd z (by decide)
    · exact absurd z (by decide)
    · have hs : lwF E 2 (t + 1) = (nI t, lawK E t 2) := by
        rw [lwF, if_pos]
        rw [h1, h2, hv] at hc
        exact hc.elim Or.inl (fun y => Or.inr (Or.inl ⟨rfl, (neg_lt hnn h3).mp y⟩))
      rw [hs]
      exact ⟨rfl, hv, hnn⟩
theorem lwI.keep {E : IM} {w : Int32} {t : Nat} {a b v : Int32} (h : lwI E w t a b) (hv : lwW E w t v) (hc : ¬ a = -1) (hc2 : ¬ b < v) : lwI E w (t + 1) a b := by
  rcases h with h | ⟨h, h1, h2⟩ | ⟨h, h1, h2, h3⟩
  · exact Or.inl h
  · refine Or.inr (Or.inl ⟨h, ?_⟩)
    subst h
    rcases hv with z | ⟨z, hv⟩ | ⟨z, hv, -⟩
    · exact absurd z (by decide)
    · have hs : lwF E 1 (t + 1) = lwF E 1 t := by
        rw [lwF, if_neg]
        rw [h1] at hc
        rw [h2, hv] at hc2
        rintro (y | ⟨y, -⟩ | ⟨-, y⟩)
        · exact hc y
        · exact absurd y (by decide)
        · exact hc2 y
      rw [hs]
      exact ⟨h1, h2⟩
    · exact absurd z (by decide)
  · refine Or.inr (Or.inr ⟨h, ?_⟩)
    subst h
    rcases hv with z | ⟨z, hv⟩ | ⟨z, hv, hnn⟩
    · exact absurd z (by decide)
    · exact absurd z (by decide)
    · have hs : lwF E 2 (t + 1) = lwF E 2 t := by
        rw [lwF, if_neg]
        rw [h1] at hc
        rw [h2, hv] at hc2
        rintro (y | ⟨-, y⟩ | ⟨y, -⟩)
        · exact hc y
        · exact hc2 ((neg_lt hnn h3).mpr y)
        · exact absurd rfl y
      rw [hs]
      exact ⟨h1, h2, h3⟩
def sp_R_laws : SpT := fun as S I L Post => ∃ w : Int32, rSp [.int w] (fun E => .int (lawsS E w)) (fun E => E) as S I L Post
set_option maxHeartbeats 4000000 in
set_option maxRecDepth 100000 in
theorem c_R_laws : Con mR_laws 9 0 0 sp_R_laws := by
  refine con_of_X rfl fun G as S I L Post hs => ?_
  obtain ⟨w, rfl, rfl, ⟨hok, own⟩, h1⟩ := hs
  dsimp only at h1
  have h1 := r_end h1
  refine ⟨6, Nat.le_of_ble_eq_true rfl, ?_⟩
  show X mR_laws G _ S1 I L 0 [.ref 59, .int w, .null, .null, .null, .null, .null, .null] [] Post
  have n1 := hok.a.2.1
  have n2 := hok.b.2.1
  have n4 := hok.d.2.2.1
  refine x_iload_n dR_laws_0 rfl ?_
  refine x_iconst (v := 0) dR_laws_1 rfl ?_
  refine x_iconst (v := 2) dR_laws_2 rfl ?_
  -- at 3: .invokestatic 151
  refine x_callS_3 c_R_in ok_R_in ml_R_151 dR_laws_3 rfl rfl ?_
  refine ⟨_, _, _, rfl, fun a1 => ?_, fun a1 => ?_⟩
  · have a1 : inR w 0 2 := a1
    refine x_if_ne (tgt := 12) dR_laws_6 (by decide) (fun _ => ?_) (fun h => absurd h (by decide))
    rw [lawsS, if_neg (not_not_intro a1)] at h1
    refine x_aload_n dR_laws_12 rfl ?_
    refine x_getI fl_R_164 rfl dR_laws_13 rfl rfl ?_
    refine x_istoren_2 dR_laws_16 rfl rfl ?_
    refine x_iconst (v := 0) dR_laws_17 rfl ?_
    refine x_istoren_3 dR_laws_18 rfl rfl ?_
    refine x_iconst (v := -1) dR_laws_19 rfl ?_
    refine x_istore_4 dR_laws_20 rfl rfl ?_
    refine x_iconst (v := 0) dR_laws_22 rfl ?_
    refine x_istore_5 dR_laws_23 rfl rfl ?_
    refine x_iconst (v := 0) dR_laws_25 rfl ?_
    refine x_istore_6 dR_laws_26 rfl rfl ?_
    -- at 28: .iload 6
    have loop : ∀ (k i : Nat) (acc a4 a5 : Int32) (a7 : Value) (I' : IM) (L' : LM), i + k = tN (rE I) → cat1at [a7] 1 = true → acc = bs i (lwBit (rE I)) → lwI (rE I) w i a4 a5 → rLawS I I' →
        X mR_laws G (9, 0, 0) S1 I' L' 28 [.ref 59, .int w, .int (I 59 27), .int acc, .int a4, .int a5, .int (nI i), a7] [] Post := by
      intro k
      induction k with
      | zero =>
        intro i acc a4 a5 a7 I' L' hi q7 ha hl sm
        have hi : i = tN (rE I) := by omega
        have e26 : I' 59 26 = nI (tN (rE I)) := by
          rw [sm.at (by decide), ← sm.2.1]
          exact (sm.inv hok).d.1
        refine x_iload dR_laws_28 rfl ?_
        refine x_aload_n dR_laws_30 rfl ?_
        refine x_getI fl_R_161 rfl dR_laws_31 rfl rfl ?_
        -- at 34: .if_icmp .ge 89
        rw [e26]
        refine x_icmp_ge (tgt := 123) dR_laws_34 (by decide) (fun _ => ?_) (fun h => absurd (by rw [hi]; exact Int32.le_refl _) h)
        refine x_aload_n dR_laws_123 rfl ?_
        refine x_iload_n dR_laws_124 rfl ?_
        refine x_putI fl_R_164 rfl dR_laws_125 (by decide) rfl rfl rfl rfl ?_
        refine x_iload_n dR_laws_128 rfl ?_
        -- at 129: .ifCond .ne 7
        refine x_if_ne (tgt := 136) dR_laws_129 (by decide) (fun w0 => ?_) (fun w0 => ?_)
        · refine x_iload dR_laws_136 rfl ?_
          -- at 138: .ireturn
          refine x_ireturn dR_laws_138 rfl rfl ?_
          rw [if_neg w0] at h1
          have e4 : a4 = (lwF (rE I) w (tN (rE I))).1 := by
            rw [hi] at hl
            rcases hl with z | ⟨rfl, z, -⟩ | ⟨rfl, z, -⟩
            · exact absurd z w0
            · exact z
            · exact z
          rw [e4]
          exact h1 sm
        · refine x_iload_n dR_laws_132 rfl ?_
          refine x_goto (tgt := 138) dR_laws_133 (by decide) ?_
          -- at 138: .ireturn
          refine x_ireturn dR_laws_138 rfl rfl ?_
          rw [if_pos w0] at h1
          rw [ha, hi]
          exact h1 sm
      | succ k ih =>
        intro i acc a4 a5 a7 I' L' hi q7 ha hl sm
        have e26 : I' 59 26 = nI (tN (rE I)) := by
          rw [sm.at (by decide), ← sm.2.1]
          exact (sm.inv hok).d.1
        refine x_iload dR_laws_28 rfl ?_
        refine x_aload_n dR_laws_30 rfl ?_
        refine x_getI fl_R_161 rfl dR_laws_31 rfl rfl ?_
        -- at 34: .if_icmp .ge 89
        rw [e26]
        refine x_icmp_ge (tgt := 123) dR_laws_34 (by decide) (fun h => absurd h (nI_ge (by omega) (by omega))) (fun _ => ?_)
        refine x_aload_n dR_laws_37 rfl ?_
        refine x_iload dR_laws_38 rfl ?_
        refine x_putI fl_R_164 rfl dR_laws_40 (by decide) rfl rfl rfl rfl ?_
        refine x_aload_n dR_laws_43 rfl ?_
        refine x_aload_n dR_laws_44 rfl ?_
        refine x_getI fl_R_158 rfl dR_laws_45 rfl rfl ?_
        -- at 48: .invokevirtual 295
        obtain ⟨o1, o2, o3, o4, o5, o6⟩ := rLaw_ow hok sm (t := i) (by omega)
        have sm1 := sm.up (nI i)
        generalize up2 I' 59 27 (nI i) = I1 at o1 o2 o3 o4 o5 o6 sm1
        rw [o6]
        refine x_callV_1 cE_R_owes ok_R_owes ml_R_295 dR_laws_48 rfl rfl rfl rfl rfl ?_
        refine ⟨sN (rE I), pN (rE I), qN (rE I), -1, prog (rE I) i, rE I, rfl, rfl, o1, o2, o3, o4, o5, fun I2 L2 hF2 _ hk => ?_⟩
        have hk : KpL I2 (rE I) i := hk
        have sm2 : rLawS I I2 := sm1.fr (hF2.wk (by decide))
        refine x_iload_n dR_laws_51 rfl ?_
        refine x_aload_n dR_laws_52 rfl ?_
        -- at 53: .invokevirtual 310
        refine x_callV_0 c_R_keptNow ok_R_keptNow ml_R_310 dR_laws_53 rfl rfl rfl rfl rfl ?_
        refine ⟨_, _, _, _, _, rfl, rfl, hk, ?_⟩
        have e12 : I2 59 12 = rE I 29 2 := hk.2.2.2.1.trans hok.b.1.symm
        refine x_iconst (v := 1) dR_laws_56 rfl ?_
        refine x_aload_n dR_laws_57 rfl ?_
        refine x_getI fl_R_155 rfl dR_laws_58 rfl rfl ?_
        refine x_ishl dR_laws_61 ?_
        refine x_iconst (v := 1) dR_laws_62 rfl ?_
        refine x_isub dR_laws_63 ?_
        -- at 64: .if_icmp .ne 10
        rw [e12]
        have tail : ∀ (v : Int32) (acc2 : Int32) (I3 : IM), acc2 = bs (i + 1) (lwBit (rE I)) → rLawS I I3 → lwW (rE I) w i v → X mR_laws G (9, 0, 0) S1 I3 L2 94 [.ref 59, .int w, .int (I 59 27), .int acc2, .int a4, .int a5, .int (nI i), a7] [.int v] Post := by
          intro v acc2 I3 ha2 sm3 hv
          have take : (a4 = -1 ∨ a5 < v) → X mR_laws G (9, 0, 0) S1 I3 L2 109 [.ref 59, .int w, .int (I 59 27), .int acc2, .int a4, .int a5, .int (nI i), .int v] [] Post := by
            intro hc
            refine x_iload dR_laws_109 rfl ?_
            refine x_istore_4 dR_laws_111 rfl rfl ?_
            refine x_iload dR_laws_113 rfl ?_
            refine x_istore_5 dR_laws_115 rfl rfl ?_
            refine x_iincp_6 dR_laws_117 rfl rfl ?_
            refine x_goto (tgt := 28) dR_laws_120 (by decide) ?_
            -- at 28: .iload 6
            rw [nI_1]
            exact ih (i + 1) acc2 _ _ _ I3 L2 (by omega) rfl ha2 (hl.take hv hc) sm3
          refine x_istore_7 dR_laws_94 rfl rfl ?_
          refine x_iload dR_laws_96 rfl ?_
          refine x_iconst (v := -1) dR_laws_98 rfl ?_
          -- at 99: .if_icmp .eq 10
          refine x_icmp_eq (tgt := 109) dR_laws_99 (by decide) (fun c1 => ?_) (fun c1 => ?_)
          · exact take (Or.inl c1)
          · refine x_iload dR_laws_102 rfl ?_
            refine x_iload dR_laws_104 rfl ?_
            -- at 106: .if_icmp .le 11
            refine x_icmp_le (tgt := 117) dR_laws_106 (by decide) (fun c2 => ?_) (fun c2 => ?_)
            · refine x_iincp_6 dR_laws_117 rfl rfl ?_
              refine x_goto (tgt := 28) dR_laws_120 (by decide) ?_
              -- at 28: .iload 6
              rw [nI_1]
              exact ih (i + 1) acc2 _ _ _ I3 L2 (by omega) rfl ha2 (hl.keep hv c1 (Int32.not_lt.mpr c2)) sm3
            · exact take (Or.inr (Int32.not_le.mp c2))
        have mid : ∀ acc2 : Int32, acc2 = bs (i + 1) (lwBit (rE I)) → X mR_laws G (9, 0, 0) S1 I2 L2 76 [.ref 59, .int w, .int (I 59 27), .int acc, .int a4, .int a5, .int (nI i), a7] [.int acc2] Post := by
          intro acc2 ha2
          refine x_istoren_3 dR_laws_76 rfl rfl ?_
          refine x_iload_n dR_laws_77 rfl ?_
          refine x_iconst (v := 1) dR_laws_78 rfl ?_
          -- at 79: .if_icmp .ne 10
          refine x_icmp_ne (tgt := 89) dR_laws_79 (by decide) (fun w1 => ?_) (fun w1 => ?_)
          · refine x_aload_n dR_laws_89 rfl ?_
            -- at 90: .invokevirtual 316
            refine x_callV_0 c_R_painNow ok_R_painNow ml_R_316 dR_laws_90 rfl rfl rfl rfl rfl ?_
            refine ⟨_, _, _, _, _, rfl, rfl, hk, fun I3 hF3 => ?_⟩
            have hp : rng (painA (rE I) (prog (rE I) i) (TQ (RT (rE I) i) (qN (rE I))) (pN (rE I))) (10000 * pN (rE I) + 1) := pain_nn _ _ _ _ n1
            refine x_ineg dR_laws_93 ?_
            -- at 94: .istore 7
            refine tail _ acc2 I3 ha2 (sm2.fr (hF3.wk (by decide))) ?_
            obtain ⟨j, hj, rfl⟩ := inR_of (n := 2) (by decide) a1
            rcases (show j = 0 ∨ j = 1 ∨ j = 2 by omega) with rfl | rfl | rfl
            · exact Or.inl rfl
            · exact absurd rfl w1
            · refine Or.inr (Or.inr ⟨rfl, ?_, ?_⟩)
              · rw [TQ_L]; rfl
              · have := rng_nn hp (by omega)
                rw [TQ_L] at this
                exact this
          · subst w1
            refine x_aload_n dR_laws_82 rfl ?_
            -- at 83: .invokevirtual 313
            refine x_callV_0 c_R_worthNow ok_R_worthNow ml_R_313 dR_laws_83 rfl rfl rfl rfl rfl ?_
            refine ⟨_, _, _, _, _, rfl, rfl, hk, ?_⟩
            refine x_goto (tgt := 94) dR_laws_86 (by decide) ?_
            -- at 94: .istore 7
            exact tail _ acc2 I2 ha2 sm2 (Or.inr (Or.inl ⟨rfl, rfl⟩))
        refine x_icmp_ne (tgt := 74) dR_laws_64 (by decide) (fun c1 => ?_) (fun c1 => ?_)
        · refine x_iconst (v := 0) dR_laws_74 rfl ?_
          refine x_ior dR_laws_75 ?_
          -- at 76: .istore_n 3
          refine x_eqi (y := acc) (by simp) ?_
          refine mid acc ?_
          rw [bs, if_neg (show ¬ lwBit (rE I) i = true from fun z => c1 (of_decide_eq_true z)), ha]
        · refine x_iconst (v := 1) dR_laws_67 rfl ?_
          refine x_iload dR_laws_68 rfl ?_
          refine x_ishl dR_laws_70 ?_
          refine x_goto (tgt := 75) dR_laws_71 (by decide) ?_
          refine x_ior dR_laws_75 ?_
          -- at 76: .istore_n 3
          refine mid _ ?_
          rw [bs, if_pos (show lwBit (rE I) i = true from decide_eq_true c1), ha]
          rfl
    refine loop (tN (rE I)) 0 0 (-1) 0 .null I L (by omega) rfl rfl ?_ ?_
    · obtain ⟨j, hj, rfl⟩ := inR_of (n := 2) (by decide) a1
      rcases (show j = 0 ∨ j = 1 ∨ j = 2 by omega) with rfl | rfl | rfl
      · exact Or.inl rfl
      · exact Or.inr (Or.inl ⟨rfl, rfl, rfl⟩)
      · exact Or.inr (Or.inr ⟨rfl, rfl, by rw [lwF]; decide, Int32.le_refl _⟩)
    · unfold rLawS
      rw [up59_id]
      exact rSame.refl own
  · have a1 : ¬ inR w 0 2 := a1
    refine x_if_ne (tgt := 12) dR_laws_6 (by decide) (fun h => absurd (by decide) h) (fun _ => ?_)
    rw [lawsS, if_pos a1] at h1
    refine x_bipush (v := -2) dR_laws_9 rfl ?_
    -- at 11: .ireturn
    refine x_ireturn dR_laws_11 rfl rfl ?_
    exact h1 (rSame.refl own)
end
section
-- 76.rg
/-! the reference's calls: drawn, odds -/
theorem sd1 {k : Nat} (h : k ≤ 99999) : (nI k + 1).toInt64 = (nI k).toInt64 + 1 := by
  rw [nI_1, nI_l (by omega), nI_l (by omega), lN_1]
def KpD (I' E : IM) (seed : Int32) : Prop := KpOk I' E (PE E) (RD E seed) (pN E) (qN E)
theorem TQ_D (E : IM) (seed : Int32) : TQ (RD E seed) (qN E) = TD E seed := by
  funext p
  exact tot_sum _ _ _ _ _ _
def sp_R_draws : SpT := fun as S I L Post => ∃ k : Nat, as = [.ref 59, .int (nI k)] ∧ S = S1 ∧ rOk I ∧ k ≤ 99999 ∧ ∀ (I' : IM) (L' : LM), rSame I I' → KpD I' (rE I) (nI k) → Post none S1 I' L'
set_option maxHeartbeats 4000000 in
set_option maxRecDepth 100000 in
theorem c_R_draws : Con mR_draws 9 0 0 sp_R_draws := by
  refine con_of_X rfl fun G as S I L Post hs => ?_
  obtain ⟨k, rfl, rfl, ⟨hok, own⟩, hk, h1⟩ := hs
  refine ⟨0, Nat.le_of_ble_eq_true rfl, ?_⟩
  show X mR_draws G _ S1 I L 0 [.ref 59, .int (nI k)] [] Post
  refine x_aload_n dR_draws_0 rfl ?_
  refine x_iload_n dR_draws_1 rfl ?_
  refine x_i2l dR_draws_2 ?_
  refine x_lconst (v := 1) dR_draws_3 rfl ?_
  refine x_ladd dR_draws_4 ?_
  refine x_putJ fl_R_263 rfl dR_draws_5 (by decide) rfl rfl rfl rfl ?_
  refine x_aload_n dR_draws_8 rfl ?_
  refine x_iconst (v := 1) dR_draws_9 rfl ?_
  refine x_putI fl_R_259 rfl dR_draws_10 (by decide) rfl rfl rfl rfl ?_
  refine x_aload_n dR_draws_13 rfl ?_
  refine x_aload_n dR_draws_14 rfl ?_
  refine x_getI fl_R_158 rfl dR_draws_15 rfl rfl ?_
  -- at 18: .invokevirtual 295
  have e17 : up2 I 59 55 1 59 17 = nI (sN (rE I)) := by
    rw [up2_s, up1_n _ _ (by decide)]
    exact hok.c.1
  rw [e17]
  obtain ⟨k1, k2, k3, k4, k5, k6⟩ := rRk hok
  obtain ⟨w1, w2, w3, w4⟩ := rOw hok (sN (rE I))
  have hn : ∀ j, j ≠ 55 → up2 I 59 55 1 59 j = I 59 j := fun j hj => by rw [up2_s, up1_n _ _ hj]
  refine x_callV_1 c_R_owes ok_R_owes ml_R_295 dR_draws_18 rfl rfl rfl rfl rfl ?_
  refine ⟨sN (rE I), pN (rE I), qN (rE I), -1, PE (rE I), CDr (rV I) (PE (rE I)) (pN (rE I)) ((nI k).toInt64 + 1), rfl, rfl, ⟨by rw [hn 3 (by decide)]; exact k1, k2, k3, by rw [rV_59]; exact k4, by rw [rV_59]; exact k5, k6.up59 (by decide) _⟩, ⟨by rw [hn 12 (by decide)]; exact w1, w2, by rw [rV_59]; exact w3, by rw [rV_59]; exact w4⟩, by rw [hn 60 (by decide)]; exact own.2.1, Or.inl rfl, Or.inr ⟨by rw [up2_s, up1_s], (nI k).toInt64 + 1, ?_, by rw [rV_59]⟩, fun I2 L2 hF2 ho => ?_⟩
  · rw [up2_s, Nat.zero_mul, lot]
    simp [up1]
  · refine x_aload_n dR_draws_21 rfl ?_
    refine x_iconst (v := 0) dR_draws_22 rfl ?_
    refine x_putI fl_R_259 rfl dR_draws_23 (by decide) rfl rfl rfl rfl ?_
    -- at 26: .return_
    refine x_return dR_draws_26 rfl ?_
    rw [rV_59] at ho
    have ho2 := rowesR_eq (D' := DD (rE I) (PE (rE I)) (CDE (rE I) (nI k))) (rVE I) (Nat.le_refl _) (fun p hp s hs => by unfold DD CDE; rw [share_eq (rVE I) _ hs, CDr_eq (rVE I) _ _ hs, sd1 hk]) ho
    have hF3 : Fr [94, 95, 96, 97, 98] I (up2 I2 59 55 0) := fun j hj => by
      by_cases e : j = 59
      · subst e
        rw [up2_s, hF2 59 (by decide), up2_s]
        funext i
        unfold up1
        by_cases e2 : i = 55
        · subst e2; simp only [if_true]; exact own.1.symm
        · simp [e2]
      · rw [up2_n _ _ _ e, hF2 j hj, up2_n _ _ _ e]
    have hrow : RowR (up2 I2 59 55 0) (pN (rE I)) (RD (rE I) (nI k)) := by
      unfold RowR
      rw [up2_n _ _ _ (by decide)]
      exact ho2.1
    generalize up2 I2 59 55 0 = I3 at hF3 hrow
    have sm := rSame.of own hF3
    refine h1 I3 L2 sm ⟨⟨sN (rE I), by rw [rV_fr (hF3.wk (by decide))]; exact rVE I⟩, by rw [hF3 59 (by decide)]; exact k1, k2, by rw [hF3 59 (by decide)]; exact w1, w2, hrow, k6.fr (hF3 59 (by decide)) (hF3 79 (by decide)) (hF3 80 (by decide))⟩
def sp_R_drawn : SpT := fun as S I L Post => ∃ seed w : Int32, rSp [.int seed, .int w] (fun E => .int (drawnS E seed w)) (fun E => E) as S I L Post
set_option maxHeartbeats 4000000 in
set_option maxRecDepth 100000 in
theorem c_R_drawn : Con mR_drawn 10 0 0 sp_R_drawn := by
  refine con_of_X rfl fun G as S I L Post hs => ?_
  obtain ⟨seed, w, rfl, rfl, ⟨hok, own⟩, h1⟩ := hs
  dsimp only at h1
  have h1 := r_end h1
  refine ⟨0, Nat.le_of_ble_eq_true rfl, ?_⟩
  show X mR_drawn G _ S1 I L 0 [.ref 59, .int seed, .int w] [] Post
  have bad : ¬ drwC seed w → X mR_drawn G (10, 0, 0) S1 I L 20 [.ref 59, .int seed, .int w] [] Post := by
    intro hc
    rw [drawnS, if_pos hc] at h1
    refine x_bipush (v := -2) dR_drawn_20 rfl ?_
    -- at 22: .ireturn
    refine x_ireturn dR_drawn_22 rfl rfl ?_
    exact h1 (rSame.refl own)
  refine x_iload_n dR_drawn_0 rfl ?_
  refine x_iconst (v := 0) dR_drawn_1 rfl ?_
  refine x_ldcw dR_drawn_2 cn_R_353 ?_
  -- at 5: .invokestatic 151
  refine x_callS_3 c_R_in ok_R_in ml_R_151 dR_drawn_5 rfl rfl ?_
  refine ⟨_, _, _, rfl, fun a1 => ?_, fun a1 => ?_⟩
  · refine x_if_eq (tgt := 20) dR_drawn_8 (by decide) (fun h => absurd h (by decide)) (fun _ => ?_)
    refine x_iload_n dR_drawn_11 rfl ?_
    refine x_iconst (v := 0) dR_drawn_12 rfl ?_
    refine x_iconst (v := 2) dR_drawn_13 rfl ?_
    -- at 14: .invokestatic 151
    refine x_callS_3 c_R_in ok_R_in ml_R_151 dR_drawn_14 rfl rfl ?_
    refine ⟨_, _, _, rfl, fun a2 => ?_, fun a2 => ?_⟩
    · refine x_if_ne (tgt := 23) dR_drawn_17 (by decide) (fun _ => ?_) (fun h => absurd h (by decide))
      have a1 : inR seed 0 99999 := a1
      have a2 : inR w 0 2 := a2
      rw [drawnS, if_neg (not_not_intro (show drwC seed w from ⟨a1, a2⟩)), outE, outV] at h1
      obtain ⟨k, hk, rfl⟩ := inR_of (n := 99999) (by decide) a1
      refine x_aload_n dR_drawn_23 rfl ?_
      refine x_iload_n dR_drawn_24 rfl ?_
      -- at 25: .invokevirtual 354
      refine x_callV_1 c_R_draws ok_R_draws ml_R_354 dR_drawn_25 rfl rfl rfl rfl rfl ?_
      refine ⟨k, rfl, rfl, ⟨hok, own⟩, hk, fun I2 L2 sm hkp => ?_⟩
      refine x_iload_n dR_drawn_28 rfl ?_
      -- at 29: .ifCond .ne 10
      refine x_if_ne (tgt := 39) dR_drawn_29 (by decide) (fun w0 => ?_) (fun w0 => ?_)
      · rw [if_neg w0] at h1
        refine x_iload_n dR_drawn_39 rfl ?_
        refine x_iconst (v := 1) dR_drawn_40 rfl ?_
        -- at 41: .if_icmp .ne 10
        refine x_icmp_ne (tgt := 51) dR_drawn_41 (by decide) (fun w1 => ?_) (fun w1 => ?_)
        · rw [if_neg w1] at h1
          refine x_aload_n dR_drawn_51 rfl ?_
          -- at 52: .invokevirtual 316
          refine x_callV_0 c_R_painNow ok_R_painNow ml_R_316 dR_drawn_52 rfl rfl rfl rfl rfl ?_
          refine ⟨_, _, _, _, _, rfl, rfl, hkp, fun I3 hF3 => ?_⟩
          refine x_ireturn dR_drawn_55 rfl rfl ?_
          rw [TQ_D]
          exact h1 (sm.fr (hF3.wk (by decide)))
        · rw [if_pos w1] at h1
          refine x_aload_n dR_drawn_44 rfl ?_
          -- at 45: .invokevirtual 313
          refine x_callV_0 c_R_worthNow ok_R_worthNow ml_R_313 dR_drawn_45 rfl rfl rfl rfl rfl ?_
          refine ⟨_, _, _, _, _, rfl, rfl, hkp, ?_⟩
          refine x_goto (tgt := 55) dR_drawn_48 (by decide) ?_
          -- at 55: .ireturn
          refine x_ireturn dR_drawn_55 rfl rfl ?_
          exact h1 sm
      · rw [if_pos w0] at h1
        refine x_aload_n dR_drawn_32 rfl ?_
        -- at 33: .invokevirtual 310
        refine x_callV_0 c_R_keptNow ok_R_keptNow ml_R_310 dR_drawn_33 rfl rfl rfl rfl rfl ?_
        refine ⟨_, _, _, _, _, rfl, rfl, hkp, ?_⟩
        refine x_goto (tgt := 55) dR_drawn_36 (by decide) ?_
        -- at 55: .ireturn
        refine x_ireturn dR_drawn_55 rfl rfl ?_
        exact h1 sm
    · refine x_if_ne (tgt := 23) dR_drawn_17 (by decide) (fun h => absurd (by decide) h) (fun _ => ?_)
      exact bad (fun z => a2 z.2)
  · refine x_if_eq (tgt := 20) dR_drawn_8 (by decide) (fun _ => ?_) (fun h => absurd (by decide) h)
    exact bad (fun z => a1 z.1)
theorem lw_cmp : ∀ a, a ≤ 20 → (lg_cmp (lN a) 0 = 0 ↔ a = 0) := by decide +kernel
theorem lw_rem : ∀ a, a ≤ 20 → ∀ b, b ≤ 20 → ¬ b = 0 → lN a - lN a / lN b * lN b = lN (a % b) ∧ lN a / lN b = lN (a / b) ∧ ¬ lN b = 0 := by decide +kernel
def sp_R_lowest : SpT := fun as S I L Post => ∃ (a b : Nat) (part : Int32), as = [.long (lN a), .long (lN b), .int part] ∧ a ≤ 20 ∧ 1 ≤ b ∧ b ≤ 20 ∧ inR part 0 1 ∧ Post (some (.long (lowV a b part))) S I L
set_option maxHeartbeats 4000000 in
set_option maxRecDepth 100000 in
theorem c_R_lowest : Con mR_lowest 2 0 0 sp_R_lowest := by
  refine con_of_X rfl fun G as S I L Post hs => ?_
  obtain ⟨a, b, part, rfl, ha, hb1, hb, hp, h1⟩ := hs
  refine ⟨6, Nat.le_of_ble_eq_true rfl, ?_⟩
  show X mR_lowest G _ S I L 0 [.long (lN a), .null, .long (lN b), .null, .int part, .null, .null, .null, .null, .null, .null] [] Post
  refine x_lload_n dR_lowest_0 rfl ?_
  refine x_lconst (v := 0) dR_lowest_1 rfl ?_
  refine x_lcmp dR_lowest_2 ?_
  -- at 3: .ifCond .ne 7
  by_cases h0 : a = 0
  · subst h0
    refine x_if_ne (tgt := 10) dR_lowest_3 (by decide) (fun h => absurd ((lw_cmp 0 (by omega)).mpr rfl) h) (fun _ => ?_)
    refine x_iload dR_lowest_6 rfl ?_
    refine x_i2l dR_lowest_8 ?_
    -- at 9: .lreturn
    refine x_lreturn dR_lowest_9 rfl ?_
    obtain ⟨j, hj, rfl⟩ := inR_of (n := 1) (by decide) hp
    have e : lowV 0 b (nI j) = (nI j).toInt64 := by
      unfold lowV
      rw [Nat.gcd_zero_left]
      rcases (show j = 0 ∨ j = 1 by omega) with rfl | rfl
      · rw [if_pos (by decide), Nat.zero_div]
      · rw [if_neg (by decide), Nat.div_self hb1]
    rw [← e]
    exact h1
  · refine x_if_ne (tgt := 10) dR_lowest_3 (by decide) (fun _ => ?_) (fun h => absurd h (fun z => h0 ((lw_cmp a ha).mp z)))
    refine x_lload_n dR_lowest_10 rfl ?_
    refine x_lstore_5 dR_lowest_11 rfl rfl ?_
    refine x_lload_n dR_lowest_13 rfl ?_
    refine x_lstore_7 dR_lowest_14 rfl rfl ?_
    -- at 16: .lload 7
    have loop : ∀ (k x y : Nat) (a9 : Value), y ≤ k → x ≤ 20 → y ≤ 20 → (a9 = .null ∨ ∃ z, a9 = .long z) → Nat.gcd y x = Nat.gcd a b → X mR_lowest G (2, 0, 0) S I L 16 [.long (lN a), .null, .long (lN b), .null, .int part, .long (lN x), .null, .long (lN y), .null, a9, .null] [] Post := by
      intro k
      have fin : ∀ (x : Nat) (a9 : Value), x = Nat.gcd a b → X mR_lowest G (2, 0, 0) S I L 41 [.long (lN a), .null, .long (lN b), .null, .int part, .long (lN x), .null, .long (lN 0), .null, a9, .null] [] Post := by
        intro x a9 hx
        subst hx
        have g0 : 0 < Nat.gcd a b := Nat.gcd_pos_of_pos_right a hb1
        have g1 : Nat.gcd a b ≤ b := Nat.gcd_le_right a hb1
        refine x_iload dR_lowest_41 rfl ?_
        -- at 43: .ifCond .ne 7
        refine x_if_ne (tgt := 50) dR_lowest_43 (by decide) (fun c1 => ?_) (fun c1 => ?_)
        · obtain ⟨-, e1, e2⟩ := lw_rem b hb (Nat.gcd a b) (by omega) (by omega)
          refine x_lload_n dR_lowest_50 rfl ?_
          refine x_lload dR_lowest_51 rfl ?_
          -- at 53: .ldiv
          refine x_ldiv dR_lowest_53 e2 ?_
          -- at 54: .lreturn
          refine x_lreturn dR_lowest_54 rfl ?_
          rw [e1]
          have e3 : lowV a b part = lN (b / Nat.gcd a b) := by
            unfold lowV
            rw [if_neg c1, nI_l (Nat.lt_of_le_of_lt (Nat.div_le_self _ _) (by omega))]
          rw [← e3]
          exact h1
        · obtain ⟨-, e1, e2⟩ := lw_rem a ha (Nat.gcd a b) (by omega) (by omega)
          refine x_lload_n dR_lowest_46 rfl ?_
          refine x_goto (tgt := 51) dR_lowest_47 (by decide) ?_
          refine x_lload dR_lowest_51 rfl ?_
          -- at 53: .ldiv
          refine x_ldiv dR_lowest_53 e2 ?_
          -- at 54: .lreturn
          refine x_lreturn dR_lowest_54 rfl ?_
          rw [e1]
          have e3 : lowV a b part = lN (a / Nat.gcd a b) := by
            unfold lowV
            rw [if_pos c1, nI_l (Nat.lt_of_le_of_lt (Nat.div_le_self _ _) (by omega))]
          rw [← e3]
          exact h1
      induction k with
      | zero =>
        intro x y a9 hy hx hy2 h9 hg
        obtain rfl : y = 0 := by omega
        refine x_lload dR_lowest_16 rfl ?_
        refine x_lconst (v := 0) dR_lowest_18 rfl ?_
        refine x_lcmp dR_lowest_19 ?_
        -- at 20: .ifCond .eq 21
        refine x_if_eq (tgt := 41) dR_lowest_20 (by decide) (fun _ => ?_) (fun h => absurd ((lw_cmp 0 (by omega)).mpr rfl) h)
        exact fin x a9 (by rw [← hg, Nat.gcd_zero_left])
      | succ k ih =>
        intro x y a9 hy hx hy2 h9 hg
        refine x_lload dR_lowest_16 rfl ?_
        refine x_lconst (v := 0) dR_lowest_18 rfl ?_
        refine x_lcmp dR_lowest_19 ?_
        -- at 20: .ifCond .eq 21
        by_cases hy0 : y = 0
        · subst hy0
          refine x_if_eq (tgt := 41) dR_lowest_20 (by decide) (fun _ => ?_) (fun h => absurd ((lw_cmp 0 (by omega)).mpr rfl) h)
          exact fin x a9 (by rw [← hg, Nat.gcd_zero_left])
        · obtain ⟨e1, -, e2⟩ := lw_rem x hx y hy2 hy0
          have hlt : x % y < y := Nat.mod_lt _ (by omega)
          refine x_if_eq (tgt := 41) dR_lowest_20 (by decide) (fun h => absurd h (fun z => hy0 ((lw_cmp y hy2).mp z))) (fun _ => ?_)
          rcases h9 with rfl | ⟨z9, rfl⟩
          · refine x_lload dR_lowest_23 rfl ?_
            refine x_lload dR_lowest_25 rfl ?_
            refine x_lrem dR_lowest_27 e2 ?_
            -- at 28: .lstore 9
            rw [e1]
            refine x_lstore_9 dR_lowest_28 rfl rfl ?_
            refine x_lload dR_lowest_30 rfl ?_
            refine x_lstore_5 dR_lowest_32 rfl rfl ?_
            refine x_lload dR_lowest_34 rfl ?_
            refine x_lstore_7 dR_lowest_36 rfl rfl ?_
            refine x_goto (tgt := 16) dR_lowest_38 (by decide) ?_
            -- at 16: .lload 7
            exact ih y (x % y) _ (by omega) hy2 (by omega) (Or.inr ⟨_, rfl⟩) (by rw [← hg]; exact (Nat.gcd_rec y x).symm)
          · refine x_lload dR_lowest_23 rfl ?_
            refine x_lload dR_lowest_25 rfl ?_
            refine x_lrem dR_lowest_27 e2 ?_
            -- at 28: .lstore 9
            rw [e1]
            refine x_lstore_9 dR_lowest_28 rfl rfl ?_
            refine x_lload dR_lowest_30 rfl ?_
            refine x_lstore_5 dR_lowest_32 rfl rfl ?_
            refine x_lload dR_lowest_34 rfl ?_
            refine x_lstore_7 dR_lowest_36 rfl rfl ?_
            refine x_goto (tgt := 16) dR_lowest_38 (by decide) ?_
            -- at 16: .lload 7
            exact ih y (x % y) _ (by omega) hy2 (by omega) (Or.inr ⟨_, rfl⟩) (by rw [← hg]; exact (Nat.gcd_rec y x).symm)
    exact loop b a b .null (Nat.le_refl _) ha hb (Or.inl rfl) (Nat.gcd_comm b a)
theorem imin_in {x : Int32} {i : Nat} (h : inR x 0 99999) (hi : i ≤ 20) : ∃ k, k ≤ 99999 ∧ imin (x + nI i) 99999 = nI k := by
  obtain ⟨n, hn, rfl⟩ := inR_of (n := 99999) (by decide) h
  rw [nI_add]
  unfold imin
  split
  · exact ⟨99999, Nat.le_refl _, rfl⟩
  · rename_i c
    refine ⟨n + i, ?_, rfl⟩
    exact (nI_leI (b := 99999) (by omega) (by omega)).mp (Int32.not_lt.mp c)
def sp_R_odds : SpT := fun as S I L Post => ∃ q seed many part : Int32, rSp [.int q, .int seed, .int many, .int part] (fun E => .long (oddsS E q seed many part)) (fun E => E) as S I L Post
set_option maxHeartbeats 4000000 in
set_option maxRecDepth 100000 in
theorem c_R_odds : Con mR_odds 10 0 0 sp_R_odds := by
  refine con_of_X rfl fun G as S I L Post hs => ?_
  obtain ⟨q0, seed, many, part, rfl, rfl, ⟨hok, own⟩, h1⟩ := hs
  dsimp only at h1
  have h1 := r_end h1
  refine ⟨4, Nat.le_of_ble_eq_true rfl, ?_⟩
  show X mR_odds G _ S1 I L 0 [.ref 59, .int q0, .int seed, .int many, .int part, .null, .null, .null, .null] [] Post
  have n2 := hok.b.2.1
  have bad : ¬ oddC (rE I) q0 seed many part → X mR_odds G (10, 0, 0) S1 I L 43 [.ref 59, .int q0, .int seed, .int many, .int part, .null, .null, .null, .null] [] Post := by
    intro hc
    rw [oddsS, if_pos hc] at h1
    refine x_iconst (v := 0) dR_odds_43 rfl ?_
    refine x_istore_5 dR_odds_44 rfl rfl ?_
    refine x_iload dR_odds_46 rfl ?_
    -- at 48: .ifCond .ne 7
    refine x_if_ne (tgt := 55) dR_odds_48 (by decide) (fun h => absurd rfl h) (fun _ => ?_)
    refine x_ldc2 dR_odds_51 cn_R_345 ?_
    -- at 54: .lreturn
    refine x_lreturn dR_odds_54 rfl ?_
    exact h1 (rSame.refl own)
  refine x_aload_n dR_odds_0 rfl ?_
  refine x_iload_n dR_odds_1 rfl ?_
  -- at 2: .invokevirtual 236
  refine x_callV_1 c_R_isPromise ok_R_isPromise ml_R_236 dR_odds_2 rfl rfl rfl rfl rfl ?_
  refine ⟨_, rfl, rfl, fun a1 => ?_, fun a1 => ?_⟩
  · refine x_if_eq (tgt := 43) dR_odds_5 (by decide) (fun h => absurd h (by decide)) (fun _ => ?_)
    refine x_iload_n dR_odds_8 rfl ?_
    refine x_iconst (v := 0) dR_odds_9 rfl ?_
    refine x_ldcw dR_odds_10 cn_R_353 ?_
    -- at 13: .invokestatic 151
    refine x_callS_3 c_R_in ok_R_in ml_R_151 dR_odds_13 rfl rfl ?_
    refine ⟨_, _, _, rfl, fun a2 => ?_, fun a2 => ?_⟩
    · refine x_if_eq (tgt := 43) dR_odds_16 (by decide) (fun h => absurd h (by decide)) (fun _ => ?_)
      refine x_iload_n dR_odds_19 rfl ?_
      refine x_iconst (v := 1) dR_odds_20 rfl ?_
      refine x_bipush (v := 20) dR_odds_21 rfl ?_
      -- at 23: .invokestatic 151
      refine x_callS_3 c_R_in ok_R_in ml_R_151 dR_odds_23 rfl rfl ?_
      refine ⟨_, _, _, rfl, fun a3 => ?_, fun a3 => ?_⟩
      · refine x_if_eq (tgt := 43) dR_odds_26 (by decide) (fun h => absurd h (by decide)) (fun _ => ?_)
        refine x_iload dR_odds_29 rfl ?_
        refine x_iconst (v := 0) dR_odds_31 rfl ?_
        refine x_iconst (v := 1) dR_odds_32 rfl ?_
        -- at 33: .invokestatic 151
        refine x_callS_3 c_R_in ok_R_in ml_R_151 dR_odds_33 rfl rfl ?_
        refine ⟨_, _, _, rfl, fun a4 => ?_, fun a4 => ?_⟩
        · refine x_if_eq (tgt := 43) dR_odds_36 (by decide) (fun h => absurd h (by decide)) (fun _ => ?_)
          refine x_iconst (v := 1) dR_odds_39 rfl ?_
          refine x_goto (tgt := 44) dR_odds_40 (by decide) ?_
          refine x_istore_5 dR_odds_44 rfl rfl ?_
          refine x_iload dR_odds_46 rfl ?_
          -- at 48: .ifCond .ne 7
          refine x_if_ne (tgt := 55) dR_odds_48 (by decide) (fun _ => ?_) (fun h => absurd h (by decide))
          have a1 : inR q0 0 (rE I 29 2 - 1) := a1
          have a3 : inR many 1 20 := a3
          rw [oddsS, if_neg (not_not_intro (show oddC (rE I) q0 seed many part from ⟨a1, a2, a3, a4⟩))] at h1
          rw [show rE I 29 2 = nI (qN (rE I)) from hok.b.1] at a1
          obtain ⟨q, hq, rfl⟩ := has_nat (by omega) a1
          have hm : ∃ m, 1 ≤ m ∧ m ≤ 20 ∧ many = nI m := by
            obtain ⟨m, hm, e⟩ := inR_of (n := 20) (by decide) (show inR many 0 20 from ⟨Int32.le_trans (by decide) a3.1, a3.2⟩)
            refine ⟨m, ?_, hm, e⟩
            by_cases h0 : m = 0
            · subst h0
              subst e
              exact absurd a3.1 (by decide)
            · omega
          obtain ⟨m, hm1, hm20, rfl⟩ := hm
          rw [cl_nI (by omega), cl_nI (by omega)] at h1
          refine x_lconst (v := 0) dR_odds_55 rfl ?_
          refine x_lstore_6 dR_odds_56 rfl rfl ?_
          refine x_iconst (v := 0) dR_odds_58 rfl ?_
          refine x_istore_8 dR_odds_59 rfl rfl ?_
          -- at 61: .iload 8
          have loop : ∀ (k i : Nat) (I' : IM) (L' : LM) (x : Int32), i + k = m → rSame I I' → X mR_odds G (10, 0, 0) S1 I' L' 61 [.ref 59, .int (nI q), .int seed, .int (nI m), .int part, .int x, .long (lN (odN (rE I) q seed i)), .null, .int (nI i)] [] Post := by
            intro k
            induction k with
            | zero =>
              intro i I' L' x hi sm
              obtain rfl : i = m := by omega
              have hle := odN_le (rE I) q seed i
              refine x_iload dR_odds_61 rfl ?_
              refine x_iload_n dR_odds_63 rfl ?_
              -- at 64: .if_icmp .ge 51
              refine x_icmp_ge (tgt := 115) dR_odds_64 (by decide) (fun _ => ?_) (fun h => absurd (Int32.le_refl _) h)
              refine x_lload dR_odds_115 rfl ?_
              refine x_iload_n dR_odds_117 rfl ?_
              refine x_i2l dR_odds_118 ?_
              refine x_iload dR_odds_119 rfl ?_
              -- at 121: .invokestatic 357
              rw [nI_l (by omega)]
              refine x_callS_3 c_R_lowest ok_R_lowest ml_R_357 dR_odds_121 rfl rfl ?_
              refine ⟨odN (rE I) q seed i, i, part, rfl, by omega, hm1, hm20, a4, ?_⟩
              refine x_lreturn dR_odds_124 rfl ?_
              exact h1 sm
            | succ k ih =>
              intro i I' L' x hi sm
              have hle := odN_le (rE I) q seed i
              refine x_iload dR_odds_61 rfl ?_
              refine x_iload_n dR_odds_63 rfl ?_
              -- at 64: .if_icmp .ge 51
              refine x_icmp_ge (tgt := 115) dR_odds_64 (by decide) (fun h => absurd h (nI_ge (by omega) (by omega))) (fun _ => ?_)
              have go : X mR_odds G (10, 0, 0) S1 I' L' 88 [.ref 59, .int (nI q), .int seed, .int (nI m), .int part, .int x, .long (lN (odN (rE I) q seed i)), .null, .int (nI i)] [.int (imin (seed + nI i) 99999), .ref 59] Post := by
                obtain ⟨s2, hs2, es2⟩ := imin_in (i := i) a2 (by omega)
                have hs : odN (rE I) q seed (i + 1) = if keepsV (rE I) (pN (rE I)) (RD (rE I) (nI s2)) q = true then odN (rE I) q seed i + 1 else odN (rE I) q seed i := by rw [odN, es2]
                rw [es2]
                refine x_callV_1 c_R_draws ok_R_draws ml_R_354 dR_odds_88 rfl rfl rfl rfl rfl ?_
                refine ⟨s2, rfl, rfl, ⟨sm.inv hok, sm.2.2⟩, hs2, fun I2 L2 sm2 hk => ?_⟩
                rw [sm.2.1] at hk
                refine x_lload dR_odds_91 rfl ?_
                refine x_aload_n dR_odds_93 rfl ?_
                refine x_iload_n dR_odds_94 rfl ?_
                -- at 95: .invokevirtual 307
                refine x_callV_1 c_R_isKept ok_R_isKept ml_R_307 dR_odds_95 rfl rfl rfl rfl rfl ?_
                refine ⟨q, _, _, _, _, _, rfl, rfl, by omega, hk, fun g => ?_, fun g => ?_⟩
                · rw [if_pos g] at hs
                  refine x_if_eq (tgt := 105) dR_odds_98 (by decide) (fun h => absurd h (by decide)) (fun _ => ?_)
                  refine x_lconst (v := 1) dR_odds_101 rfl ?_
                  refine x_goto (tgt := 106) dR_odds_102 (by decide) ?_
                  refine x_ladd dR_odds_106 ?_
                  refine x_lstore_6 dR_odds_107 rfl rfl ?_
                  refine x_iincp_8 dR_odds_109 rfl rfl ?_
                  refine x_goto (tgt := 61) dR_odds_112 (by decide) ?_
                  -- at 61: .iload 8
                  rw [nI_1, lN_1, ← hs]
                  exact ih (i + 1) I2 L2 x (by omega) (sm.tr sm2)
                · rw [if_neg g] at hs
                  refine x_if_eq (tgt := 105) dR_odds_98 (by decide) (fun _ => ?_) (fun h => absurd (by decide) h)
                  refine x_lconst (v := 0) dR_odds_105 rfl ?_
                  refine x_ladd dR_odds_106 ?_
                  refine x_lstore_6 dR_odds_107 rfl rfl ?_
                  refine x_iincp_8 dR_odds_109 rfl rfl ?_
                  refine x_goto (tgt := 61) dR_odds_112 (by decide) ?_
                  -- at 61: .iload 8
                  rw [nI_1, Int64.add_zero, ← hs]
                  exact ih (i + 1) I2 L2 x (by omega) (sm.tr sm2)
              refine x_aload_n dR_odds_67 rfl ?_
              refine x_iload_n dR_odds_68 rfl ?_
              refine x_iload dR_odds_69 rfl ?_
              refine x_iadd dR_odds_71 ?_
              refine x_ldcw dR_odds_72 cn_R_353 ?_
              -- at 75: .if_icmp .le 9
              refine x_icmp_le (tgt := 84) dR_odds_75 (by decide) (fun c1 => ?_) (fun c1 => ?_)
              · refine x_iload_n dR_odds_84 rfl ?_
                refine x_iload dR_odds_85 rfl ?_
                refine x_iadd dR_odds_87 ?_
                -- at 88: .invokevirtual 354
                have e : imin (seed + nI i) 99999 = seed + nI i := by unfold imin; rw [if_neg (Int32.not_lt.mpr c1)]
                rw [← e]
                exact go
              · refine x_ldcw dR_odds_78 cn_R_353 ?_
                refine x_goto (tgt := 88) dR_odds_81 (by decide) ?_
                -- at 88: .invokevirtual 354
                have e : imin (seed + nI i) 99999 = 99999 := by unfold imin; rw [if_pos (Int32.not_le.mp c1)]
                rw [← e]
                exact go
          exact loop m 0 I L 1 (by omega) (rSame.refl own)
        · refine x_if_eq (tgt := 43) dR_odds_36 (by decide) (fun _ => ?_) (fun h => absurd (by decide) h)
          exact bad (fun z => a4 z.2.2.2)
      · refine x_if_eq (tgt := 43) dR_odds_26 (by decide) (fun _ => ?_) (fun h => absurd (by decide) h)
        exact bad (fun z => a3 z.2.2.1)
    · refine x_if_eq (tgt := 43) dR_odds_16 (by decide) (fun _ => ?_) (fun h => absurd (by decide) h)
      exact bad (fun z => a2 z.2.1)
  · refine x_if_eq (tgt := 43) dR_odds_5 (by decide) (fun _ => ?_) (fun h => absurd (by decide) h)
    exact bad (fun z => a1 z.1)
/-! sheets that tell: what keeps them from it, else any answer -/
def rwSp (args : List Value) (bad : IM → Int32) : SpT := fun as S I L Post => as = .ref 59 :: args ∧ S = S1 ∧ rOk I ∧ ∀ (v : Int32) (I' : IM) (L' : LM), rSame I I' → (¬ bad (rE I) = 0 → v = bad (rE I)) → Post (some (.int v)) S1 I' L'
def sp_R_sheetWrong : SpT := fun as S I L Post => ∃ s : Int32, as = [.ref 59, .int s] ∧ S = S1 ∧ Post (some (.int (wRef (rE I) s))) S1 I L
set_option maxHeartbeats 4000000 in
set_option maxRecDepth 100000 in
theorem c_R_sheetWrong : Con mR_sheetWrong 3 0 0 sp_R_sheetWrong := by
  refine con_of_X rfl fun G as S I L Post hs => ?_
  obtain ⟨s, rfl, rfl, h1⟩ := hs
  refine ⟨0, Nat.le_of_ble_eq_true rfl, ?_⟩
  show X mR_sheetWrong G _ S1 I L 0 [.ref 59, .int s] [] Post
  refine x_iload_n dR_sheetWrong_0 rfl ?_
  refine x_iconst (v := 0) dR_sheetWrong_1 rfl ?_
  refine x_iconst (v := 3) dR_sheetWrong_2 rfl ?_
  -- at 3: .invokestatic 151
  refine x_callS_3 c_R_in ok_R_in ml_R_151 dR_sheetWrong_3 rfl rfl ?_
  refine ⟨_, _, _, rfl, fun a1 => ?_, fun a1 => ?_⟩
  · have a1 : inR s 0 3 := a1
    refine x_if_ne (tgt := 12) dR_sheetWrong_6 (by decide) (fun _ => ?_) (fun h => absurd h (by decide))
    rw [wRef, if_neg (not_not_intro a1)] at h1
    obtain ⟨k, hk, rfl⟩ := inR_of (n := 3) (by decide) a1
    rw [cl_nI (by omega)] at h1
    refine x_aload_n dR_sheetWrong_12 rfl ?_
    refine x_getR fl_R_98 rfl dR_sheetWrong_13 rfl rfl rfl ?_
    refine x_iload_n dR_sheetWrong_16 rfl ?_
    refine x_ialdJ (j := k) dR_sheetWrong_17 rfl rfl (by first | rfl | (simp only [← nI_add, ← pk_mul]; rfl)) (by omega) ?_
    refine x_iconst (v := -1) dR_sheetWrong_18 rfl ?_
    -- at 19: .if_icmp .ne 6
    have h1 : Post (some (.int (if I 88 k = -1 then -11 else if I 89 k = I 59 17 then 0 else -2))) S1 I L := h1
    refine x_icmp_ne (tgt := 25) dR_sheetWrong_19 (by decide) (fun c1 => ?_) (fun c1 => ?_)
    · rw [if_neg c1] at h1
      refine x_aload_n dR_sheetWrong_25 rfl ?_
      refine x_getR fl_R_101 rfl dR_sheetWrong_26 rfl rfl rfl ?_
      refine x_iload_n dR_sheetWrong_29 rfl ?_
      refine x_ialdJ (j := k) dR_sheetWrong_30 rfl rfl (by first | rfl | (simp only [← nI_add, ← pk_mul]; rfl)) (by omega) ?_
      refine x_aload_n dR_sheetWrong_31 rfl ?_
      refine x_getI fl_R_158 rfl dR_sheetWrong_32 rfl rfl ?_
      -- at 35: .if_icmp .ne 7
      refine x_icmp_ne (tgt := 42) dR_sheetWrong_35 (by decide) (fun c2 => ?_) (fun c2 => ?_)
      · rw [if_neg c2] at h1
        refine x_bipush (v := -2) dR_sheetWrong_42 rfl ?_
        -- at 44: .ireturn
        refine x_ireturn dR_sheetWrong_44 rfl rfl ?_
        exact h1
      · rw [if_pos c2] at h1
        refine x_iconst (v := 0) dR_sheetWrong_38 rfl ?_
        refine x_goto (tgt := 44) dR_sheetWrong_39 (by decide) ?_
        -- at 44: .ireturn
        refine x_ireturn dR_sheetWrong_44 rfl rfl ?_
        exact h1
    · rw [if_pos c1] at h1
      refine x_bipush (v := -11) dR_sheetWrong_22 rfl ?_
      -- at 24: .ireturn
      refine x_ireturn dR_sheetWrong_24 rfl rfl ?_
      exact h1
  · have a1 : ¬ inR s 0 3 := a1
    refine x_if_ne (tgt := 12) dR_sheetWrong_6 (by decide) (fun h => absurd (by decide) h) (fun _ => ?_)
    rw [wRef, if_pos a1] at h1
    refine x_bipush (v := -2) dR_sheetWrong_9 rfl ?_
    -- at 11: .ireturn
    refine x_ireturn dR_sheetWrong_11 rfl rfl ?_
    exact h1
def sp_R_unlike : SpT := fun as S I L Post => ∃ s : Nat, as = [.ref 59, .int (nI s)] ∧ S = S1 ∧ rOk I ∧ s < 4 ∧ ∀ (v : Int32) (I' : IM) (L' : LM), Fr [94, 95] I I' → Post (some (.int v)) S1 I' L'
set_option maxHeartbeats 4000000 in
set_option maxRecDepth 100000 in
theorem c_R_unlike : Con mR_unlike 7 0 0 sp_R_unlike := by
  refine con_of_X rfl fun G as S I L Post hs => ?_
  obtain ⟨s, rfl, rfl, ⟨hok, own⟩, hs, h1⟩ := hs
  refine ⟨1, Nat.le_of_ble_eq_true rfl, ?_⟩
  show X mR_unlike G _ S1 I L 0 [.ref 59, .int (nI s), .null] [] Post
  have n3 := hok.c.2.1
  refine x_iconst (v := 0) dR_unlike_0 rfl ?_
  refine x_istoren_2 dR_unlike_1 rfl rfl ?_
  -- at 2: .iload_n 2
  have loop : ∀ (k i : Nat) (I' : IM) (L' : LM), i + k = sN (rE I) → Fr [94, 95] I I' → X mR_unlike G (7, 0, 0) S1 I' L' 2 [.ref 59, .int (nI s), .int (nI i)] [] Post := by
    intro k
    induction k with
    | zero =>
      intro i I' L' hi hF
      have hi : i = sN (rE I) := by omega
      refine x_iload_n dR_unlike_2 rfl ?_
      refine x_aload_n dR_unlike_3 rfl ?_
      refine x_getI fl_R_158 rfl dR_unlike_4 rfl rfl ?_
      -- at 7: .if_icmp .ge 30
      rw [hF 59 (by decide), show I 59 17 = nI (sN (rE I)) from hok.c.1]
      refine x_icmp_ge (tgt := 37) dR_unlike_7 (by decide) (fun _ => ?_) (fun h => absurd (by rw [hi]; exact Int32.le_refl _) h)
      refine x_iconst (v := -1) dR_unlike_37 rfl ?_
      -- at 38: .ireturn
      refine x_ireturn dR_unlike_38 rfl rfl ?_
      exact h1 _ I' L' hF
    | succ k ih =>
      intro i I' L' hi hF
      have sm := rSame.of2 own hF
      refine x_iload_n dR_unlike_2 rfl ?_
      refine x_aload_n dR_unlike_3 rfl ?_
      refine x_getI fl_R_158 rfl dR_unlike_4 rfl rfl ?_
      -- at 7: .if_icmp .ge 30
      rw [hF 59 (by decide), show I 59 17 = nI (sN (rE I)) from hok.c.1]
      refine x_icmp_ge (tgt := 37) dR_unlike_7 (by decide) (fun h => absurd h (nI_ge (by omega) (by omega))) (fun _ => ?_)
      refine x_aload_n dR_unlike_10 rfl ?_
      refine x_getR fl_R_104 rfl dR_unlike_11 rfl rfl rfl ?_
      refine x_bipush (v := 40) dR_unlike_14 rfl ?_
      refine x_iload_n dR_unlike_16 rfl ?_
      refine x_imul dR_unlike_17 ?_
      refine x_iload_n dR_unlike_18 rfl ?_
      refine x_iadd dR_unlike_19 ?_
      refine x_ialdJ dR_unlike_20 rfl rfl (r40 s i) (by omega) ?_
      refine x_aload_n dR_unlike_21 rfl ?_
      refine x_iload_n dR_unlike_22 rfl ?_
      -- at 23: .invokevirtual 277
      refine x_callV_1 cE_R_clear ok_R_clearTo ml_R_277 dR_unlike_23 rfl rfl rfl rfl rfl ?_
      refine ⟨i, rfl, rfl, ⟨sm.inv hok, sm.2.2⟩, by rw [sm.2.1]; omega, fun I2 L2 hF2 => ?_⟩
      refine x_icmp_eq (tgt := 31) dR_unlike_26 (by decide) (fun c1 => ?_) (fun c1 => ?_)
      · refine x_iincp_2 dR_unlike_31 rfl rfl ?_
        refine x_goto (tgt := 2) dR_unlike_34 (by decide) ?_
        -- at 2: .iload_n 2
        rw [nI_1]
        exact ih (i + 1) I2 L2 (by omega) (hF.tr hF2)
      · refine x_iload_n dR_unlike_29 rfl ?_
        -- at 30: .ireturn
        refine x_ireturn dR_unlike_30 rfl rfl ?_
        exact h1 _ I2 L2 (hF.tr hF2)
  exact loop (sN (rE I)) 0 I L (by omega) Fr.rfl
theorem wRef_in {E : IM} {s : Int32} (h : wRef E s = 0) : inR s 0 3 := by
  by_cases h1 : inR s 0 3
  · exact h1
  · rw [wRef, if_pos h1] at h
    exact absurd h (by decide)
def sp_R_witness : SpT := fun as S I L Post => ∃ s : Int32, rwSp [.int s] (fun E => wRef E s) as S I L Post
set_option maxHeartbeats 4000000 in
set_option maxRecDepth 100000 in
theorem c_R_witness : Con mR_witness 8 0 0 sp_R_witness := by
  refine con_of_X rfl fun G as S I L Post hs => ?_
  obtain ⟨s, rfl, rfl, ⟨hok, own⟩, h1⟩ := hs
  dsimp only at h1
  refine ⟨1, Nat.le_of_ble_eq_true rfl, ?_⟩
  show X mR_witness G _ S1 I L 0 [.ref 59, .int s, .null] [] Post
  refine x_aload_n dR_witness_0 rfl ?_
  refine x_iload_n dR_witness_1 rfl ?_
  -- at 2: .invokevirtual 347
  refine x_callV_1 c_R_sheetWrong ok_R_sheetWrong ml_R_347 dR_witness_2 rfl rfl rfl rfl rfl ?_
  refine ⟨s, rfl, rfl, ?_⟩
  refine x_istoren_2 dR_witness_5 rfl rfl ?_
  refine x_iload_n dR_witness_6 rfl ?_
  -- at 7: .ifCond .ne 11
  refine x_if_ne (tgt := 18) dR_witness_7 (by decide) (fun c1 => ?_) (fun c1 => ?_)
  · refine x_iload_n dR_witness_18 rfl ?_
    -- at 19: .ireturn
    refine x_ireturn dR_witness_19 rfl rfl ?_
    exact h1 _ I L (rSame.refl own) (fun _ => rfl)
  · obtain ⟨k, hk, rfl⟩ := inR_of (n := 3) (by decide) (wRef_in c1)
    refine x_aload_n dR_witness_10 rfl ?_
    refine x_iload_n dR_witness_11 rfl ?_
    -- at 12: .invokevirtual 350
    refine x_callV_1 c_R_unlike ok_R_unlike ml_R_350 dR_witness_12 rfl rfl rfl rfl rfl ?_
    refine ⟨k, rfl, rfl, ⟨hok, own⟩, by omega, fun v I' L' hF => ?_⟩
    refine x_goto (tgt := 19) dR_witness_15 (by decide) ?_
    -- at 19: .ireturn
    refine x_ireturn dR_witness_19 rfl rfl ?_
    exact h1 v I' L' (rSame.of2 own hF) (fun z => absurd c1 z)
def sp_R_alibi : SpT := fun as S I L Post => ∃ p s : Int32, rwSp [.int p, .int s] (fun E => alBad E p s) as S I L Post
set_option maxHeartbeats 4000000 in
set_option maxRecDepth 100000 in
theorem c_R_alibi : Con mR_alibi 8 0 0 sp_R_alibi := by
  refine con_of_X rfl fun G as S I L Post hs => ?_
  obtain ⟨p, s, rfl, rfl, ⟨hok, own⟩, h1⟩ := hs
  dsimp only at h1
  refine ⟨4, Nat.le_of_ble_eq_true rfl, ?_⟩
  show X mR_alibi G _ S1 I L 0 [.ref 59, .int p, .int s, .null, .null, .null, .null] [] Post
  have n1 := hok.a.2.1
  refine x_aload_n dR_alibi_0 rfl ?_
  refine x_iload_n dR_alibi_1 rfl ?_
  -- at 2: .invokevirtual 230
  refine x_callV_1 c_R_isOne ok_R_isOne ml_R_230 dR_alibi_2 rfl rfl rfl rfl rfl ?_
  refine ⟨_, rfl, rfl, fun a1 => ?_, fun a1 => ?_⟩
  · have a1 : inR p 0 (rE I 29 1 - 1) := a1
    refine x_if_ne (tgt := 11) dR_alibi_5 (by decide) (fun _ => ?_) (fun h => absurd h (by decide))
    rw [show ∀ x, alBad (rE I) p x = wRef (rE I) x from fun x => by rw [alBad, if_neg (not_not_intro a1)]] at h1
    rw [show rE I 29 1 = nI (pN (rE I)) from hok.a.1] at a1
    obtain ⟨j, hj, rfl⟩ := has_nat (by omega) a1
    refine x_aload_n dR_alibi_11 rfl ?_
    refine x_iload_n dR_alibi_12 rfl ?_
    -- at 13: .invokevirtual 347
    refine x_callV_1 c_R_sheetWrong ok_R_sheetWrong ml_R_347 dR_alibi_13 rfl rfl rfl rfl rfl ?_
    refine ⟨s, rfl, rfl, ?_⟩
    refine x_istoren_3 dR_alibi_16 rfl rfl ?_
    refine x_iload_n dR_alibi_17 rfl ?_
    -- at 18: .ifCond .eq 5
    by_cases c1 : wRef (rE I) s = 0
    · obtain ⟨k, hk, es⟩ := inR_of (n := 3) (by decide) (wRef_in c1)
      rw [c1] at h1 ⊢
      subst es
      refine x_if_eq (tgt := 23) dR_alibi_18 (by decide) (fun _ => ?_) (fun h => absurd rfl h)
      refine x_aload_n dR_alibi_23 rfl ?_
      refine x_getR fl_R_41 rfl dR_alibi_24 rfl rfl rfl ?_
      refine x_iload_n dR_alibi_27 rfl ?_
      refine x_ialdJ (j := j) dR_alibi_28 rfl rfl (by first | rfl | (simp only [← nI_add, ← pk_mul]; rfl)) (by omega) ?_
      refine x_istore_4 dR_alibi_29 rfl rfl ?_
      refine x_iconst (v := 0) dR_alibi_31 rfl ?_
      refine x_istore_5 dR_alibi_32 rfl rfl ?_
      refine x_iconst (v := 0) dR_alibi_34 rfl ?_
      refine x_istore_6 dR_alibi_35 rfl rfl ?_
      -- at 37: .iload 6
      have loop : ∀ (z i : Nat) (acc : Int32) (I' : IM) (L' : LM), i + z = 6 → rSame I (up2 I' 69 j (I 69 j)) → X mR_alibi G (8, 0, 0) S1 I' L' 37 [.ref 59, .int (nI j), .int (nI k), .int 0, .int (I 69 j), .int acc, .int (nI i)] [] Post := by
        intro z
        induction z with
        | zero =>
          intro i acc I' L' hi sm
          obtain rfl : i = 6 := by omega
          refine x_iload dR_alibi_37 rfl ?_
          refine x_iconst (v := 5) dR_alibi_39 rfl ?_
          -- at 40: .if_icmp .gt 39
          refine x_icmp_gt (tgt := 79) dR_alibi_40 (by decide) (fun _ => ?_) (fun h => absurd (by decide) h)
          refine x_aload_n dR_alibi_79 rfl ?_
          refine x_getR fl_R_41 rfl dR_alibi_80 rfl rfl rfl ?_
          refine x_iload_n dR_alibi_83 rfl ?_
          refine x_iload dR_alibi_84 rfl ?_
          refine x_iastJ (j := j) dR_alibi_86 rfl rfl (by first | rfl | (simp only [← nI_add, ← pk_mul]; rfl)) (by omega) ?_
          refine x_iload dR_alibi_87 rfl ?_
          -- at 89: .ireturn
          refine x_ireturn dR_alibi_89 rfl rfl ?_
          exact h1 _ _ L' sm (fun y => absurd rfl y)
        | succ z ih =>
          intro i acc I' L' hi sm
          refine x_iload dR_alibi_37 rfl ?_
          refine x_iconst (v := 5) dR_alibi_39 rfl ?_
          -- at 40: .if_icmp .gt 39
          refine x_icmp_gt (tgt := 79) dR_alibi_40 (by decide) (fun h => absurd h (Int32.not_lt.mpr ((nI_leI (b := 5) (by omega) (by omega)).mpr (by omega)))) (fun _ => ?_)
          refine x_aload_n dR_alibi_43 rfl ?_
          refine x_getR fl_R_41 rfl dR_alibi_44 rfl rfl rfl ?_
          refine x_iload_n dR_alibi_47 rfl ?_
          refine x_iload dR_alibi_48 rfl ?_
          refine x_iastJ (j := j) dR_alibi_50 rfl rfl (by first | rfl | (simp only [← nI_add, ← pk_mul]; rfl)) (by omega) ?_
          refine x_iload dR_alibi_51 rfl ?_
          refine x_aload_n dR_alibi_53 rfl ?_
          refine x_iload_n dR_alibi_54 rfl ?_
          -- at 55: .invokevirtual 350
          have e2 : up2 (up2 I' 69 j (I 69 j)) 69 j (nI i) = up2 I' 69 j (nI i) := by
            funext x
            by_cases e : x = 69
            · subst e
              rw [up2_s, up2_s, up2_s]
              funext y
              unfold up1
              by_cases e3 : y = j <;> simp [e3]
            · rw [up2_n _ _ _ e, up2_n _ _ _ e, up2_n _ _ _ e]
          have hJ := sm.inv hok
          have e9 : rE (up2 I' 69 j (nI i)) = up2 (rE I) 9 j (nI i) := by
            rw [← e2, rE_u9 _ _ (by have e := congrArg pN sm.2.1; unfold pN at e; exact Nat.lt_of_lt_of_eq hj e.symm), sm.2.1]
          have own2 : rOwn (up2 I' 69 j (nI i)) := by
            rw [← e2]
            exact sm.2.2.up (by decide) (Or.inl (by decide))
          have hst : up2 (up2 I' 69 j (nI i)) 69 j (I 69 j) = up2 I' 69 j (I 69 j) := by
            funext x
            by_cases e : x = 69
            · subst e
              rw [up2_s, up2_s, up2_s]
              funext y
              unfold up1
              by_cases e3 : y = j <;> simp [e3]
            · rw [up2_n _ _ _ e, up2_n _ _ _ e, up2_n _ _ _ e]
          rw [← hst] at sm
          generalize up2 I' 69 j (nI i) = I1 at e9 own2 sm
          refine x_callV_1 c_R_unlike ok_R_unlike ml_R_350 dR_alibi_55 rfl rfl rfl rfl rfl ?_
          refine ⟨k, rfl, rfl, ⟨by rw [e9]; exact Inv_mv hok j (by omega), own2⟩, by omega, fun v I2 L2 hF2 => ?_⟩
          have sm2 : rSame I (up2 I2 69 j (I 69 j)) := by
            refine sm.fr (fun x hx => ?_)
            by_cases e : x = 69
            · subst e
              rw [up2_s, up2_s, hF2 69 (by decide)]
            · rw [up2_n _ _ _ e, up2_n _ _ _ e]
              exact hF2 x (fun y => hx (by simp at y ⊢; omega))
          refine x_iconst (v := -1) dR_alibi_58 rfl ?_
          -- at 59: .if_icmp .ne 10
          refine x_icmp_ne (tgt := 69) dR_alibi_59 (by decide) (fun c2 => ?_) (fun c2 => ?_)
          · refine x_iconst (v := 0) dR_alibi_69 rfl ?_
            refine x_ior dR_alibi_70 ?_
            refine x_istore_5 dR_alibi_71 rfl rfl ?_
            refine x_iincp_6 dR_alibi_73 rfl rfl ?_
            refine x_goto (tgt := 37) dR_alibi_76 (by decide) ?_
            -- at 37: .iload 6
            rw [nI_1]
            exact ih (i + 1) _ I2 L2 (by omega) sm2
          · refine x_iconst (v := 1) dR_alibi_62 rfl ?_
            refine x_iload dR_alibi_63 rfl ?_
            refine x_ishl dR_alibi_65 ?_
            refine x_goto (tgt := 70) dR_alibi_66 (by decide) ?_
            refine x_ior dR_alibi_70 ?_
            refine x_istore_5 dR_alibi_71 rfl rfl ?_
            refine x_iincp_6 dR_alibi_73 rfl rfl ?_
            refine x_goto (tgt := 37) dR_alibi_76 (by decide) ?_
            -- at 37: .iload 6
            rw [nI_1]
            exact ih (i + 1) _ I2 L2 (by omega) sm2
      refine loop 6 0 0 I L rfl ?_
      have e0 : up2 I 69 j (I 69 j) = I := by
        funext x
        by_cases e : x = 69
        · subst e
          rw [up2_s]
          funext y
          unfold up1
          by_cases e3 : y = j <;> simp [e3]
        · rw [up2_n _ _ _ e]
      rw [e0]
      exact rSame.refl own
    · refine x_if_eq (tgt := 23) dR_alibi_18 (by decide) (fun h => absurd h c1) (fun _ => ?_)
      refine x_iload_n dR_alibi_21 rfl ?_
      -- at 22: .ireturn
      refine x_ireturn dR_alibi_22 rfl rfl ?_
      exact h1 _ I L (rSame.refl own) (fun _ => rfl)
  · have a1 : ¬ inR p 0 (rE I 29 1 - 1) := a1
    refine x_if_ne (tgt := 11) dR_alibi_5 (by decide) (fun h => absurd (by decide) h) (fun _ => ?_)
    rw [show ∀ x, alBad (rE I) p x = -5 from fun x => by rw [alBad, if_pos a1]] at h1
    refine x_bipush (v := -5) dR_alibi_8 rfl ?_
    -- at 10: .ireturn
    refine x_ireturn dR_alibi_10 rfl rfl ?_
    exact h1 _ I L (rSame.refl own) (fun _ => rfl)
end
