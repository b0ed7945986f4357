/-! even loads: the class -/
theorem bs_or (f g : Nat → Bool) {n : Nat} (hn : n ≤ 32) : bs n f ||| bs n g = bs n (fun i => f i || g i) := by
  refine b_ext fun i hi => ?_
  rw [b_or, bt_bs f n hn i hi, bt_bs g n hn i hi, bt_bs _ n hn i hi]
  by_cases e : i < n <;> simp [e]
def anyF (V : IM) (P : Nat → List Int32) (q : Int32) (m : Nat) : Nat → Bool := match m with
  | 0 => fun _ => false
  | s + 1 => fun p => anyF V P q s p || (decide (V 14 s = q) && clF V P s p)
def evF (V : IM) (P : Nat → List Int32) (m q : Nat) : Nat → Bool := fun p => anyF V P (nI q) m p && (!decide (V 2 p = 4) && canV V p q)
theorem bs_z (n : Nat) : bs n (fun _ => false) = 0 := by
  induction n with
  | zero => rfl
  | succ k ih => rw [bs, if_neg (by decide), ih]
def sp_Ledger_evenBits : SpT := fun as S I L Post => ∃ (q m n : Nat) (P : Nat → List Int32), as = [.ref 35, .int (nI q)] ∧ S = S1 ∧ q < 8 ∧ I 18 4 = nI m ∧ m ≤ 10 ∧ I 4 8 = nI n ∧ n ≤ 8 ∧ (∀ s, s < m → I 37 s = CC (cV I) P n s) ∧ Post (some (.int (bs n (evF (cV I) P m q)))) S1 I L
set_option maxHeartbeats 4000000 in
set_option maxRecDepth 100000 in
theorem c_Ledger_evenBits : Con mLedger_evenBits 3 0 0 sp_Ledger_evenBits := by
  refine con_of_X rfl fun G as S I L Post hs => ?_
  obtain ⟨q, m, n, P, rfl, rfl, hq, hm, hm10, hn, hn8, hc, h1⟩ := hs
  refine ⟨2, Nat.le_of_ble_eq_true rfl, ?_⟩
  show X mLedger_evenBits G _ S1 I L 0 [.ref 35, .int (nI q), .null, .null] [] Post
  refine x_iconst (v := 0) dLedger_evenBits_0 rfl ?_
  refine x_istoren_2 dLedger_evenBits_1 rfl rfl ?_
  refine x_iconst (v := 0) dLedger_evenBits_2 rfl ?_
  refine x_istoren_3 dLedger_evenBits_3 rfl rfl ?_
  -- at 4: .iload_n 3
  have loop2 : ∀ (k i : Nat) (acc : Int32), i + k = n → acc = bs n (fun p => anyF (cV I) P (nI q) m p && (decide (i ≤ p) || (!decide (cV I 2 p = 4) && canV (cV I) p q))) → X mLedger_evenBits G (3, 0, 0) S1 I L 45 [.ref 35, .int (nI q), .int acc, .int (nI i)] [] Post := by
    intro k
    induction k with
    | zero =>
      intro i acc hi ha
      obtain rfl : i = n := by omega
      refine x_iload_n dLedger_evenBits_45 rfl ?_
      refine x_aload_n dLedger_evenBits_46 rfl ?_
      refine x_getR fl_Ledger_47 rfl dLedger_evenBits_47 rfl rfl rfl ?_
      refine x_getI fl_Ledger_82 rfl dLedger_evenBits_50 rfl rfl ?_
      -- at 53: .if_icmp .ge 48
      rw [hn]
      refine x_icmp_ge (tgt := 101) dLedger_evenBits_53 (by decide) (fun _ => ?_) (fun h => absurd (Int32.le_refl _) h)
      refine x_iload_n dLedger_evenBits_101 rfl ?_
      -- at 102: .ireturn
      refine x_ireturn dLedger_evenBits_102 rfl rfl ?_
      rw [ha, show bs i (fun p => anyF (cV I) P (nI q) m p && (decide (i ≤ p) || (!decide (cV I 2 p = 4) && canV (cV I) p q))) = bs i (evF (cV I) P m q) from bs_congr i (fun p hp => by unfold evF; simp [show ¬ i ≤ p by omega])]
      exact h1
    | succ k ih =>
      intro i acc hi ha
      have drop : (!decide (cV I 2 i = 4) && canV (cV I) i q) = false → X mLedger_evenBits G (3, 0, 0) S1 I L 87 [.ref 35, .int (nI q), .int acc, .int (nI i)] [] Post := by
        intro hd
        refine x_iload_n dLedger_evenBits_87 rfl ?_
        refine x_iconst (v := 1) dLedger_evenBits_88 rfl ?_
        refine x_iload_n dLedger_evenBits_89 rfl ?_
        refine x_ishl dLedger_evenBits_90 ?_
        refine x_iconst (v := -1) dLedger_evenBits_91 rfl ?_
        refine x_ixor dLedger_evenBits_92 ?_
        refine x_iand dLedger_evenBits_93 ?_
        refine x_istoren_2 dLedger_evenBits_94 rfl rfl ?_
        refine x_iincp_3 dLedger_evenBits_95 rfl rfl ?_
        refine x_goto (tgt := 45) dLedger_evenBits_98 (by decide) ?_
        -- at 45: .iload_n 3
        rw [nI_1]
        refine ih (i + 1) _ (by omega) ?_
        rw [ha]
        refine (setB_in (n := n) (p := i) _ (by omega) (by omega) false).trans (bs_congr n (fun p hp => ?_))
        by_cases y : p = i
        · subst y
          simp [hd]
        · simp only [y, if_false]
          rw [show decide (i + 1 ≤ p) = decide (i ≤ p) from by
            by_cases z : i + 1 ≤ p
            · simp [z]; omega
            · simp [z]; omega]
      refine x_iload_n dLedger_evenBits_45 rfl ?_
      refine x_aload_n dLedger_evenBits_46 rfl ?_
      refine x_getR fl_Ledger_47 rfl dLedger_evenBits_47 rfl rfl rfl ?_
      refine x_getI fl_Ledger_82 rfl dLedger_evenBits_50 rfl rfl ?_
      -- at 53: .if_icmp .ge 48
      rw [hn]
      refine x_icmp_ge (tgt := 101) dLedger_evenBits_53 (by decide) (fun h => absurd h (nI_ge (b := n) (by omega) (by omega))) (fun _ => ?_)
      refine x_aload_n dLedger_evenBits_56 rfl ?_
      refine x_getR fl_Ledger_47 rfl dLedger_evenBits_57 rfl rfl rfl ?_
      refine x_iload_n dLedger_evenBits_60 rfl ?_
      -- at 61: .invokevirtual 140
      refine x_callV_1 c_Folk_isBound ok_Folk_isBound ml_Ledger_140 dLedger_evenBits_61 rfl rfl rfl rfl rfl ?_
      refine ⟨i, rfl, rfl, by omega, fun hb => ?_, fun hb => ?_⟩
      · refine x_if_eq (tgt := 87) dLedger_evenBits_64 (by decide) (fun h => absurd h (by decide)) (fun _ => ?_)
        refine x_aload_n dLedger_evenBits_67 rfl ?_
        refine x_getR fl_Ledger_47 rfl dLedger_evenBits_68 rfl rfl rfl ?_
        refine x_iload_n dLedger_evenBits_71 rfl ?_
        refine x_aload_n dLedger_evenBits_72 rfl ?_
        refine x_getR fl_Ledger_51 rfl dLedger_evenBits_73 rfl rfl rfl ?_
        refine x_getR fl_Ledger_158 rfl dLedger_evenBits_76 rfl rfl rfl ?_
        refine x_iload_n dLedger_evenBits_79 rfl ?_
        refine x_ialdJ dLedger_evenBits_80 rfl rfl rfl (by omega) ?_
        -- at 81: .invokevirtual 161
        refine x_callV_2 c_Folk_canDo ok_Folk_canDo ml_Ledger_161 dLedger_evenBits_81 rfl rfl rfl rfl rfl ?_
        refine ⟨i, _, rfl, rfl, by omega, fun hd => ?_, fun hd => ?_⟩
        · refine x_if_ne (tgt := 95) dLedger_evenBits_84 (by decide) (fun _ => ?_) (fun h => absurd h (by decide))
          refine x_iincp_3 dLedger_evenBits_95 rfl rfl ?_
          refine x_goto (tgt := 45) dLedger_evenBits_98 (by decide) ?_
          -- at 45: .iload_n 3
          rw [nI_1]
          refine ih (i + 1) _ (by omega) ?_
          rw [ha]
          refine bs_congr n (fun p hp => ?_)
          by_cases y : p = i
          · subst y
            have hb' : ¬ cV I 2 p = 4 := hb
            have hd' : canV (cV I) p q = true := by simpa [canV, cV] using hd
            simp [hb', hd']
          · rw [show decide (i + 1 ≤ p) = decide (i ≤ p) from by
              by_cases z : i + 1 ≤ p
              · simp [z]; omega
              · simp [z]; omega]
        · refine x_if_ne (tgt := 95) dLedger_evenBits_84 (by decide) (fun h => absurd (by decide) h) (fun _ => ?_)
          refine drop ?_
          have hd' : canV (cV I) i q = false := by simpa [canV, cV] using hd
          simp [hd']
      · refine x_if_eq (tgt := 87) dLedger_evenBits_64 (by decide) (fun _ => ?_) (fun h => absurd (by decide) h)
        refine drop ?_
        have hb' : cV I 2 i = 4 := Classical.not_not.mp hb
        simp [hb']
  have loop1 : ∀ (k i : Nat) (acc : Int32), i + k = m → acc = bs n (anyF (cV I) P (nI q) i) → X mLedger_evenBits G (3, 0, 0) S1 I L 4 [.ref 35, .int (nI q), .int acc, .int (nI i)] [] Post := by
    intro k
    induction k with
    | zero =>
      intro i acc hi ha
      obtain rfl : i = m := by omega
      refine x_iload_n dLedger_evenBits_4 rfl ?_
      refine x_aload_n dLedger_evenBits_5 rfl ?_
      refine x_getR fl_Ledger_55 rfl dLedger_evenBits_6 rfl rfl rfl ?_
      refine x_getI fl_Ledger_70 rfl dLedger_evenBits_9 rfl rfl ?_
      -- at 12: .if_icmp .ge 31
      rw [hm]
      refine x_icmp_ge (tgt := 43) dLedger_evenBits_12 (by decide) (fun _ => ?_) (fun h => absurd (Int32.le_refl _) h)
      refine x_iconst (v := 0) dLedger_evenBits_43 rfl ?_
      refine x_istoren_3 dLedger_evenBits_44 rfl rfl ?_
      -- at 45: .iload_n 3
      refine loop2 n 0 _ (by omega) ?_
      rw [ha]
      exact bs_congr n (fun p hp => by simp)
    | succ k ih =>
      intro i acc hi ha
      refine x_iload_n dLedger_evenBits_4 rfl ?_
      refine x_aload_n dLedger_evenBits_5 rfl ?_
      refine x_getR fl_Ledger_55 rfl dLedger_evenBits_6 rfl rfl rfl ?_
      refine x_getI fl_Ledger_70 rfl dLedger_evenBits_9 rfl rfl ?_
      -- at 12: .if_icmp .ge 31
      rw [hm]
      refine x_icmp_ge (tgt := 43) dLedger_evenBits_12 (by decide) (fun h => absurd h (nI_ge (b := m) (by omega) (by omega))) (fun _ => ?_)
      refine x_aload_n dLedger_evenBits_15 rfl ?_
      refine x_getR fl_Ledger_55 rfl dLedger_evenBits_16 rfl rfl rfl ?_
      refine x_getR fl_Ledger_144 rfl dLedger_evenBits_19 rfl rfl rfl ?_
      refine x_iload_n dLedger_evenBits_22 rfl ?_
      refine x_ialdJ dLedger_evenBits_23 rfl rfl rfl (by omega) ?_
      refine x_iload_n dLedger_evenBits_24 rfl ?_
      -- at 25: .if_icmp .ne 12
      refine x_icmp_ne (tgt := 37) dLedger_evenBits_25 (by decide) (fun c1 => ?_) (fun c1 => ?_)
      · refine x_iincp_3 dLedger_evenBits_37 rfl rfl ?_
        refine x_goto (tgt := 4) dLedger_evenBits_40 (by decide) ?_
        -- at 4: .iload_n 3
        rw [nI_1]
        refine ih (i + 1) _ (by omega) ?_
        rw [ha]
        refine bs_congr n (fun p hp => ?_)
        have c1' : ¬ cV I 14 i = nI q := c1
        simp [anyF, c1']
      · refine x_iload_n dLedger_evenBits_28 rfl ?_
        refine x_aload_n dLedger_evenBits_29 rfl ?_
        refine x_getR fl_Ledger_19 rfl dLedger_evenBits_30 rfl rfl rfl ?_
        refine x_iload_n dLedger_evenBits_33 rfl ?_
        refine x_ialdJ dLedger_evenBits_34 rfl rfl rfl (by omega) ?_
        -- at 35: .ior
        rw [hc i (by omega)]
        refine x_ior dLedger_evenBits_35 ?_
        refine x_istoren_2 dLedger_evenBits_36 rfl rfl ?_
        refine x_iincp_3 dLedger_evenBits_37 rfl rfl ?_
        refine x_goto (tgt := 4) dLedger_evenBits_40 (by decide) ?_
        -- at 4: .iload_n 3
        rw [nI_1]
        refine ih (i + 1) _ (by omega) ?_
        rw [ha]
        refine (bs_or _ _ (by omega)).trans (bs_congr n (fun p hp => ?_))
        have c1' : cV I 14 i = nI q := c1
        simp [anyF, c1']
  exact loop1 m 0 0 (by omega) (bs_z n).symm
def ltS (V : IM) (E : Nat → Int32) (am : Int32) (p : Nat) (o : Int32 × Int32) : Int32 × Int32 :=
  if (bt am p = true ∧ E p < V 8 p) ∧ (o.1 = -1 ∨ V 7 p * (E p + 1) < o.2) then (nI p, V 7 p * (E p + 1)) else o
def ltR (V : IM) (E : Nat → Int32) (am : Int32) (n : Nat) : Int32 × Int32 := match n with
  | 0 => (-1, 0)
  | p + 1 => ltS V E am p (ltR V E am p)
theorem ltR_in (V : IM) (E : Nat → Int32) (am : Int32) : ∀ n : Nat, (ltR V E am n).1 = -1 ∨ ∃ p, p < n ∧ (ltR V E am n).1 = nI p := by
  intro n
  induction n with
  | zero => exact Or.inl rfl
  | succ k ih =>
    rw [ltR, ltS]
    split
    · exact Or.inr ⟨k, by omega, rfl⟩
    · rcases ih with h | ⟨p, hp, h⟩
      · exact Or.inl h
      · exact Or.inr ⟨p, by omega, h⟩
theorem ltR_congr {V : IM} {E E' : Nat → Int32} {am : Int32} : ∀ n : Nat, (∀ p, p < n → E p = E' p) → ltR V E am n = ltR V E' am n := by
  intro n
  induction n with
  | zero => intro _; rfl
  | succ k ih =>
    intro h
    rw [ltR, ltR, ih (fun p hp => h p (by omega)), ltS, ltS, h k (by omega)]
def sp_Ledger_lightest : SpT := fun as S I L Post => ∃ (n : Nat) (am : Int32), as = [.ref 35, .int am] ∧ S = S1 ∧ I 4 8 = nI n ∧ n ≤ 8 ∧ Post (some (.int (ltR (cV I) (I 43) am n).1)) S1 I L
set_option maxHeartbeats 4000000 in
set_option maxRecDepth 100000 in
theorem c_Ledger_lightest : Con mLedger_lightest 2 0 0 sp_Ledger_lightest := by
  refine con_of_X rfl fun G as S I L Post hs => ?_
  obtain ⟨n, am, rfl, rfl, hn, hn8, h1⟩ := hs
  refine ⟨5, Nat.le_of_ble_eq_true rfl, ?_⟩
  show X mLedger_lightest G _ S1 I L 0 [.ref 35, .int am, .null, .null, .null, .null, .null] [] Post
  refine x_iconst (v := -1) dLedger_lightest_0 rfl ?_
  refine x_istoren_2 dLedger_lightest_1 rfl rfl ?_
  refine x_iconst (v := 0) dLedger_lightest_2 rfl ?_
  refine x_istoren_3 dLedger_lightest_3 rfl rfl ?_
  refine x_iconst (v := 0) dLedger_lightest_4 rfl ?_
  refine x_istore_4 dLedger_lightest_5 rfl rfl ?_
  -- at 7: .iload 4
  have loop : ∀ (k i : Nat) (o : Int32 × Int32) (a5 a6 : Value), i + k = n → o = ltR (cV I) (I 43) am i → X mLedger_lightest G (2, 0, 0) S1 I L 7 [.ref 35, .int am, .int o.1, .int o.2, .int (nI i), a5, a6] [] Post := by
    intro k
    induction k with
    | zero =>
      intro i o a5 a6 hi ho
      obtain rfl : i = n := by omega
      refine x_iload dLedger_lightest_7 rfl ?_
      refine x_aload_n dLedger_lightest_9 rfl ?_
      refine x_getR fl_Ledger_47 rfl dLedger_lightest_10 rfl rfl rfl ?_
      refine x_getI fl_Ledger_82 rfl dLedger_lightest_13 rfl rfl ?_
      -- at 16: .if_icmp .ge 90
      rw [hn]
      refine x_icmp_ge (tgt := 106) dLedger_lightest_16 (by decide) (fun _ => ?_) (fun h => absurd (Int32.le_refl _) h)
      refine x_iload_n dLedger_lightest_106 rfl ?_
      -- at 107: .ireturn
      refine x_ireturn dLedger_lightest_107 rfl rfl ?_
      rw [ho]
      exact h1
    | succ k ih =>
      intro i o a5 a6 hi ho
      have hs : ltR (cV I) (I 43) am (i + 1) = ltS (cV I) (I 43) am i o := by rw [ltR, ← ho]
      rw [ltS] at hs
      refine x_iload dLedger_lightest_7 rfl ?_
      refine x_aload_n dLedger_lightest_9 rfl ?_
      refine x_getR fl_Ledger_47 rfl dLedger_lightest_10 rfl rfl rfl ?_
      refine x_getI fl_Ledger_82 rfl dLedger_lightest_13 rfl rfl ?_
      -- at 16: .if_icmp .ge 90
      rw [hn]
      refine x_icmp_ge (tgt := 106) dLedger_lightest_16 (by decide) (fun h => absurd h (nI_ge (b := n) (by omega) (by omega))) (fun _ => ?_)
      refine x_aload_n dLedger_lightest_19 rfl ?_
      refine x_getR fl_Ledger_47 rfl dLedger_lightest_20 rfl rfl rfl ?_
      refine x_getR fl_Ledger_199 rfl dLedger_lightest_23 rfl rfl rfl ?_
      refine x_iload dLedger_lightest_26 rfl ?_
      refine x_ialdJ dLedger_lightest_28 rfl rfl rfl (by omega) ?_
      refine x_aload_n dLedger_lightest_29 rfl ?_
      refine x_getR fl_Ledger_37 rfl dLedger_lightest_30 rfl rfl rfl ?_
      refine x_iload dLedger_lightest_33 rfl ?_
      refine x_ialdJ dLedger_lightest_35 rfl rfl rfl (by omega) ?_
      refine x_iconst (v := 1) dLedger_lightest_36 rfl ?_
      refine x_iadd dLedger_lightest_37 ?_
      refine x_imul dLedger_lightest_38 ?_
      refine x_istore_5 dLedger_lightest_39 rfl rfl ?_
      refine x_iload_n dLedger_lightest_41 rfl ?_
      refine x_iload dLedger_lightest_42 rfl ?_
      refine x_ishr dLedger_lightest_44 ?_
      refine x_iconst (v := 1) dLedger_lightest_45 rfl ?_
      refine x_iand dLedger_lightest_46 ?_
      -- at 47: .iconst 1
      have no : ¬ (bt am i = true ∧ I 43 i < I 11 i) → X mLedger_lightest G (2, 0, 0) S1 I L 75 [.ref 35, .int am, .int o.1, .int o.2, .int (nI i), .int (I 10 i * (I 43 i + 1)), a6] [] Post := by
        intro hno
        refine x_iconst (v := 0) dLedger_lightest_75 rfl ?_
        refine x_istore_6 dLedger_lightest_76 rfl rfl ?_
        refine x_iload dLedger_lightest_78 rfl ?_
        -- at 80: .ifCond .eq 20
        refine x_if_eq (tgt := 100) dLedger_lightest_80 (by decide) (fun _ => ?_) (fun h => absurd (by decide) h)
        refine x_iincp_4 dLedger_lightest_100 rfl rfl ?_
        refine x_goto (tgt := 7) dLedger_lightest_103 (by decide) ?_
        -- at 7: .iload 4
        rw [nI_1]
        refine ih (i + 1) o _ _ (by omega) ?_
        rw [hs, if_neg (fun z => hno z.1)]
      refine x_eqi (tst_bit (by omega)) ?_
      by_cases hb : bt am i = true
      · rw [if_pos hb]
        refine x_iconst (v := 1) dLedger_lightest_47 rfl ?_
        -- at 48: .if_icmp .ne 27
        refine x_icmp_ne (tgt := 75) dLedger_lightest_48 (by decide) (fun h => absurd (by decide) h) (fun _ => ?_)
        refine x_aload_n dLedger_lightest_51 rfl ?_
        refine x_getR fl_Ledger_37 rfl dLedger_lightest_52 rfl rfl rfl ?_
        refine x_iload dLedger_lightest_55 rfl ?_
        refine x_ialdJ dLedger_lightest_57 rfl rfl rfl (by omega) ?_
        refine x_aload_n dLedger_lightest_58 rfl ?_
        refine x_getR fl_Ledger_47 rfl dLedger_lightest_59 rfl rfl rfl ?_
        refine x_getR fl_Ledger_187 rfl dLedger_lightest_62 rfl rfl rfl ?_
        refine x_iload dLedger_lightest_65 rfl ?_
        refine x_ialdJ dLedger_lightest_67 rfl rfl rfl (by omega) ?_
        -- at 68: .if_icmp .ge 7
        refine x_icmp_ge (tgt := 75) dLedger_lightest_68 (by decide) (fun c1 => ?_) (fun c1 => ?_)
        · exact no (fun z => absurd z.2 (Int32.not_lt.mpr c1))
        · have htk : bt am i = true ∧ I 43 i < I 11 i := ⟨hb, Int32.not_le.mp c1⟩
          refine x_iconst (v := 1) dLedger_lightest_71 rfl ?_
          refine x_goto (tgt := 76) dLedger_lightest_72 (by decide) ?_
          refine x_istore_6 dLedger_lightest_76 rfl rfl ?_
          refine x_iload dLedger_lightest_78 rfl ?_
          -- at 80: .ifCond .eq 20
          refine x_if_eq (tgt := 100) dLedger_lightest_80 (by decide) (fun h => absurd h (by decide)) (fun _ => ?_)
          refine x_iload_n dLedger_lightest_83 rfl ?_
          refine x_iconst (v := -1) dLedger_lightest_84 rfl ?_
          -- at 85: .if_icmp .eq 9
          refine x_icmp_eq (tgt := 94) dLedger_lightest_85 (by decide) (fun c2 => ?_) (fun c2 => ?_)
          · refine x_iload dLedger_lightest_94 rfl ?_
            refine x_istoren_2 dLedger_lightest_96 rfl rfl ?_
            refine x_iload dLedger_lightest_97 rfl ?_
            refine x_istoren_3 dLedger_lightest_99 rfl rfl ?_
            refine x_iincp_4 dLedger_lightest_100 rfl rfl ?_
            refine x_goto (tgt := 7) dLedger_lightest_103 (by decide) ?_
            -- at 7: .iload 4
            rw [nI_1]
            refine ih (i + 1) (nI i, I 10 i * (I 43 i + 1)) _ _ (by omega) ?_
            rw [hs, if_pos ⟨htk, Or.inl c2⟩]
            rfl
          · refine x_iload dLedger_lightest_88 rfl ?_
            refine x_iload_n dLedger_lightest_90 rfl ?_
            -- at 91: .if_icmp .ge 9
            refine x_icmp_ge (tgt := 100) dLedger_lightest_91 (by decide) (fun c3 => ?_) (fun c3 => ?_)
            · refine x_iincp_4 dLedger_lightest_100 rfl rfl ?_
              refine x_goto (tgt := 7) dLedger_lightest_103 (by decide) ?_
              -- at 7: .iload 4
              rw [nI_1]
              refine ih (i + 1) o _ _ (by omega) ?_
              rw [hs, if_neg (fun z => z.2.elim c2 (fun y => absurd y (Int32.not_lt.mpr c3)))]
            · refine x_iload dLedger_lightest_94 rfl ?_
              refine x_istoren_2 dLedger_lightest_96 rfl rfl ?_
              refine x_iload dLedger_lightest_97 rfl ?_
              refine x_istoren_3 dLedger_lightest_99 rfl rfl ?_
              refine x_iincp_4 dLedger_lightest_100 rfl rfl ?_
              refine x_goto (tgt := 7) dLedger_lightest_103 (by decide) ?_
              -- at 7: .iload 4
              rw [nI_1]
              refine ih (i + 1) (nI i, I 10 i * (I 43 i + 1)) _ _ (by omega) ?_
              rw [hs, if_pos ⟨htk, Or.inr (Int32.not_le.mp c3)⟩]
              rfl
      · rw [if_neg hb]
        refine x_iconst (v := 1) dLedger_lightest_47 rfl ?_
        -- at 48: .if_icmp .ne 27
        refine x_icmp_ne (tgt := 75) dLedger_lightest_48 (by decide) (fun _ => ?_) (fun h => absurd h (by decide))
        exact no (fun z => hb z.1)
  exact loop n 0 (-1, 0) _ _ (by omega) rfl
/-- shared out k times: the loads, or there isn't ROOM -/
def shR (V : IM) (am : Int32) (n k : Nat) : Option (Nat → Int32) := match k with
  | 0 => some (fun _ => 0)
  | j + 1 => match shR V am n j with
    | none => none
    | some E => if (ltR V E am n).1 = -1 then none else some (up1 E (cl (ltR V E am n).1) (E (cl (ltR V E am n).1) + 1))
theorem shR_none {V : IM} {am : Int32} {n j k : Nat} (h : shR V am n j = none) (hjk : j ≤ k) : shR V am n k = none := by
  induction k with
  | zero =>
    obtain rfl : j = 0 := by omega
    exact h
  | succ k ih =>
    by_cases e : j = k + 1
    · subst e; exact h
    · rw [shR, ih (by omega)]
def sp_Ledger_sharesOut : SpT := fun as S I L Post => ∃ (q m n nd : Nat) (P : Nat → List Int32), as = [.ref 35, .int (nI q)] ∧ S = S1 ∧ q < 8 ∧ I 18 4 = nI m ∧ m ≤ 10 ∧ I 4 8 = nI n ∧ n ≤ 8 ∧ (∀ s, s < m → I 37 s = CC (cV I) P n s) ∧ I 15 q = nI nd ∧ nd < 100 ∧
  (shR (cV I) (bs n (evF (cV I) P m q)) n nd = none → ∀ I' : IM, Fr [43] I I' → Post (some (.int 0)) S1 I' L) ∧
  (∀ E, shR (cV I) (bs n (evF (cV I) P m q)) n nd = some E → ∀ I' : IM, Fr [43] I I' → (∀ p, p < 8 → I' 43 p = E p) → Post (some (.int 1)) S1 I' L)
set_option maxHeartbeats 4000000 in
set_option maxRecDepth 100000 in
theorem c_Ledger_sharesOut : Con mLedger_sharesOut 4 0 0 sp_Ledger_sharesOut := by
  refine con_of_X rfl fun G as S I L Post hs => ?_
  obtain ⟨q, m, n, nd, P, rfl, rfl, hq, hm, hm10, hn, hn8, hc, hnd, hnd1, h1, h2⟩ := hs
  refine ⟨3, Nat.le_of_ble_eq_true rfl, ?_⟩
  show X mLedger_sharesOut G _ S1 I L 0 [.ref 35, .int (nI q), .null, .null, .null] [] Post
  refine x_iconst (v := 0) dLedger_sharesOut_0 rfl ?_
  refine x_istoren_2 dLedger_sharesOut_1 rfl rfl ?_
  -- at 2: .iload_n 2
  have loop2 : ∀ (k i : Nat) (I' : IM) (E : Nat → Int32) (a4 : Value), i + k = nd → Fr [43] I I' → shR (cV I) (bs n (evF (cV I) P m q)) n i = some E → (∀ p, p < 8 → I' 43 p = E p) →
      X mLedger_sharesOut G (4, 0, 0) S1 I' L 29 [.ref 35, .int (nI q), .int (bs n (evF (cV I) P m q)), .int (nI i), a4] [] Post := by
    intro k
    induction k with
    | zero =>
      intro i I' E a4 hi hF hE he
      obtain rfl : i = nd := by omega
      refine x_iload_n dLedger_sharesOut_29 rfl ?_
      refine x_aload_n dLedger_sharesOut_30 rfl ?_
      refine x_getR fl_Ledger_51 rfl dLedger_sharesOut_31 rfl rfl rfl ?_
      refine x_getR fl_Ledger_147 rfl dLedger_sharesOut_34 rfl rfl rfl ?_
      refine x_iload_n dLedger_sharesOut_37 rfl ?_
      refine x_ialdJ dLedger_sharesOut_38 rfl rfl rfl (by omega) ?_
      -- at 39: .if_icmp .ge 35
      rw [hF 15 (by decide), hnd]
      refine x_icmp_ge (tgt := 74) dLedger_sharesOut_39 (by decide) (fun _ => ?_) (fun h => absurd (Int32.le_refl _) h)
      refine x_iconst (v := 1) dLedger_sharesOut_74 rfl ?_
      -- at 75: .ireturn
      refine x_ireturn dLedger_sharesOut_75 rfl rfl ?_
      exact h2 E hE I' hF he
    | succ k ih =>
      intro i I' E a4 hi hF hE he
      have eV : cV I' = cV I := cV_fr (hF.wk (by decide))
      refine x_iload_n dLedger_sharesOut_29 rfl ?_
      refine x_aload_n dLedger_sharesOut_30 rfl ?_
      refine x_getR fl_Ledger_51 rfl dLedger_sharesOut_31 rfl rfl rfl ?_
      refine x_getR fl_Ledger_147 rfl dLedger_sharesOut_34 rfl rfl rfl ?_
      refine x_iload_n dLedger_sharesOut_37 rfl ?_
      refine x_ialdJ dLedger_sharesOut_38 rfl rfl rfl (by omega) ?_
      -- at 39: .if_icmp .ge 35
      rw [hF 15 (by decide), hnd]
      refine x_icmp_ge (tgt := 74) dLedger_sharesOut_39 (by decide) (fun h => absurd h (nI_ge (b := nd) (by omega) (by omega))) (fun _ => ?_)
      refine x_aload_n dLedger_sharesOut_42 rfl ?_
      refine x_iload_n dLedger_sharesOut_43 rfl ?_
      -- at 44: .invokevirtual 233
      refine x_callV_1 c_Ledger_lightest ok_Ledger_lightest ml_Ledger_233 dLedger_sharesOut_44 rfl rfl rfl rfl rfl ?_
      refine ⟨n, _, rfl, rfl, by rw [hF 4 (by decide)]; exact hn, hn8, ?_⟩
      rw [eV, ltR_congr (E' := E) n (fun p hp => he p (by omega))]
      have hs : shR (cV I) (bs n (evF (cV I) P m q)) n (i + 1) = if (ltR (cV I) E (bs n (evF (cV I) P m q)) n).1 = -1 then none else some (up1 E (cl (ltR (cV I) E (bs n (evF (cV I) P m q)) n).1) (E (cl (ltR (cV I) E (bs n (evF (cV I) P m q)) n).1) + 1)) := by
        rw [shR, hE]
      have hin := ltR_in (cV I) E (bs n (evF (cV I) P m q)) n
      generalize (ltR (cV I) E (bs n (evF (cV I) P m q)) n).1 = lt at hs hin ⊢
      refine x_istore_4 dLedger_sharesOut_47 rfl rfl ?_
      refine x_iload dLedger_sharesOut_49 rfl ?_
      refine x_iconst (v := -1) dLedger_sharesOut_51 rfl ?_
      -- at 52: .if_icmp .ne 5
      refine x_icmp_ne (tgt := 57) dLedger_sharesOut_52 (by decide) (fun c1 => ?_) (fun c1 => ?_)
      · rw [if_neg c1] at hs
        obtain ⟨p, hp, rfl⟩ := hin.elim (fun z => absurd z c1) id
        rw [cl_nI (by omega)] at hs
        refine x_aload_n dLedger_sharesOut_57 rfl ?_
        refine x_getR fl_Ledger_37 rfl dLedger_sharesOut_58 rfl rfl rfl ?_
        refine x_iload dLedger_sharesOut_61 rfl ?_
        refine x_dup2 dLedger_sharesOut_63 rfl rfl ?_
        refine x_ialdJ dLedger_sharesOut_64 rfl rfl rfl (by omega) ?_
        -- at 65: .iconst 1
        rw [he p (by omega)]
        refine x_iconst (v := 1) dLedger_sharesOut_65 rfl ?_
        refine x_iadd dLedger_sharesOut_66 ?_
        refine x_iastJ dLedger_sharesOut_67 rfl rfl rfl (by omega) ?_
        refine x_iincp_3 dLedger_sharesOut_68 rfl rfl ?_
        refine x_goto (tgt := 29) dLedger_sharesOut_71 (by decide) ?_
        -- at 29: .iload_n 3
        rw [nI_1]
        refine ih (i + 1) _ _ _ (by omega) (hF.up (by decide) _ _) hs (fun j hj => ?_)
        rw [up2_s, up1, up1]
        split
        · rfl
        · exact he j hj
      · rw [if_pos c1] at hs
        refine x_iconst (v := 0) dLedger_sharesOut_55 rfl ?_
        -- at 56: .ireturn
        refine x_ireturn dLedger_sharesOut_56 rfl rfl ?_
        exact h1 (shR_none hs (by omega)) I' hF
  have loop1 : ∀ (k i : Nat) (I' : IM), i + k = 8 → Fr [43] I I' → (∀ p, p < i → I' 43 p = 0) → X mLedger_sharesOut G (4, 0, 0) S1 I' L 2 [.ref 35, .int (nI q), .int (nI i), .null, .null] [] Post := by
    intro k
    induction k with
    | zero =>
      intro i I' hi hF he
      obtain rfl : i = 8 := by omega
      have eV : cV I' = cV I := cV_fr (hF.wk (by decide))
      refine x_iload_n dLedger_sharesOut_2 rfl ?_
      refine x_bipush (v := 8) dLedger_sharesOut_3 rfl ?_
      -- at 5: .if_icmp .ge 16
      refine x_icmp_ge (tgt := 21) dLedger_sharesOut_5 (by decide) (fun _ => ?_) (fun h => absurd (by decide) h)
      refine x_aload_n dLedger_sharesOut_21 rfl ?_
      refine x_iload_n dLedger_sharesOut_22 rfl ?_
      -- at 23: .invokevirtual 230
      refine x_callV_1 c_Ledger_evenBits ok_Ledger_evenBits ml_Ledger_230 dLedger_sharesOut_23 rfl rfl rfl rfl rfl ?_
      refine ⟨q, m, n, P, rfl, rfl, hq, by rw [hF 18 (by decide)]; exact hm, hm10, by rw [hF 4 (by decide)]; exact hn, hn8, fun s hs => by rw [eV, hF 37 (by decide)]; exact hc s hs, ?_⟩
      rw [eV]
      refine x_istoren_2 dLedger_sharesOut_26 rfl rfl ?_
      refine x_iconst (v := 0) dLedger_sharesOut_27 rfl ?_
      refine x_istoren_3 dLedger_sharesOut_28 rfl rfl ?_
      -- at 29: .iload_n 3
      exact loop2 nd 0 I' (fun _ => 0) _ (by omega) hF rfl he
    | succ k ih =>
      intro i I' hi hF he
      refine x_iload_n dLedger_sharesOut_2 rfl ?_
      refine x_bipush (v := 8) dLedger_sharesOut_3 rfl ?_
      -- at 5: .if_icmp .ge 16
      refine x_icmp_ge (tgt := 21) dLedger_sharesOut_5 (by decide) (fun h => absurd h (nI_ge (b := 8) (by omega) (by omega))) (fun _ => ?_)
      refine x_aload_n dLedger_sharesOut_8 rfl ?_
      refine x_getR fl_Ledger_37 rfl dLedger_sharesOut_9 rfl rfl rfl ?_
      refine x_iload_n dLedger_sharesOut_12 rfl ?_
      refine x_iconst (v := 0) dLedger_sharesOut_13 rfl ?_
      refine x_iastJ dLedger_sharesOut_14 rfl rfl rfl (by omega) ?_
      refine x_iincp_2 dLedger_sharesOut_15 rfl rfl ?_
      refine x_goto (tgt := 2) dLedger_sharesOut_18 (by decide) ?_
      -- at 2: .iload_n 2
      rw [nI_1]
      refine ih (i + 1) _ (by omega) (hF.up (by decide) _ _) (fun p hp => ?_)
      rw [up2_s, up1]
      split
      · rfl
      · exact he p (by omega)
  exact loop1 8 0 I (by omega) Fr.rfl (fun p hp => absurd hp (Nat.not_lt_zero p))
