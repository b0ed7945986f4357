/-! even loads: the class -/
theorem bs_or (f g : Nat → Bool) {n : Nat} (hn : n ≤ 32) : bs n f ||| bs n g = bs n (fun i => f i || g i) := by
  refine b_ext fun i hi => ?_
  rw [b_or, bt_bs f n hn i hi, bt_bs g n hn i hi, bt_bs _ n hn i hi]
  by_cases e : i < n <;> simp [e]
def anyF (V : IM) (P : Nat → List Int32) (q : Int32) (m : Nat) : Nat → Bool := match m with
  | 0 => fun _ => false
  | s + 1 => fun p => anyF V P q s p || (decide (V 14 s = q) && clF V P s p)
def evF (V : IM) (P : Nat → List Int32) (m q : Nat) : Nat → Bool := fun p => anyF V P (nI q) m p && (!decide (V 2 p = 4) && canV V p q)
theorem bs_z (n : Nat) : bs n (fun _ => false) = 0 := by
  induction n with
  | zero => rfl
  | succ k ih => rw [bs, if_neg (by decide), ih]
def sp_Ledger_evenBits : SpT := fun as S I L Post => ∃ (q m n : Nat) (P : Nat → List Int32), as = [.ref 35, .int (nI q)] ∧ S = S1 ∧ q < 8 ∧ I 18 4 = nI m ∧ m ≤ 10 ∧ I 4 8 = nI n ∧ n ≤ 8 ∧ (∀ s, s < m → I 37 s = CC (cV I) P n s) ∧ Post (some (.int (bs n (evF (cV I) P m q)))) S1 I L
set_option maxHeartbeats 4000000 in
set_option maxRecDepth 100000 in
theorem c_Ledger_evenBits : Con mLedger_evenBits 3 0 0 sp_Ledger_evenBits := by
  refine con_of_X rfl fun G as S I L Post hs => ?_
  obtain ⟨q, m, n, P, rfl, rfl, hq, hm, hm10, hn, hn8, hc, h1⟩ := hs
  refine ⟨2, Nat.le_of_ble_eq_true rfl, ?_⟩
  show X mLedger_evenBits G _ S1 I L 0 [.ref 35, .int (nI q), .null, .null] [] Post
  refine x_iconst (v := 0) dLedger_evenBits_0 rfl ?_
  refine x_istoren_2 dLedger_evenBits_1 rfl rfl ?_
  refine x_iconst (v := 0) dLedger_evenBits_2 rfl ?_
  refine x_istoren_3 dLedger_evenBits_3 rfl rfl ?_
  -- at 4: .iload_n 3
  have loop2 : ∀ (k i : Nat) (acc : Int32), i + k = n → acc = bs n (fun p => anyF (cV I) P (nI q) m p && (decide (i ≤ p) || (!decide (cV I 2 p = 4) && canV (cV I) p q))) → X mLedger_evenBits G (3, 0, 0) S1 I L 45 [.ref 35, .int (nI q), .int acc, .int (nI i)] [] Post := by
    intro k
    induction k with
    | zero =>
      intro i acc hi ha
      obtain rfl : i = n := by omega
      refine x_iload_n dLedger_evenBits_45 rfl ?_
      refine x_aload_n dLedger_evenBits_46 rfl ?_
      refine x_getR fl_Ledger_47 rfl dLedger_evenBits_47 rfl rfl rfl ?_
      refine x_getI fl_Ledger_82 rfl dLedger_evenBits_50 rfl rfl ?_
      -- at 53: .if_icmp .ge 48
      rw [hn]
      refine x_icmp_ge (tgt := 101) dLedger_evenBits_53 (by decide) (fun _ => ?_) (fun h => absurd (Int32.le_refl _) h)
      refine x_iload_n dLedger_evenBits_101 rfl ?_
      -- at 102: .ireturn
      refine x_ireturn dLedger_evenBits_102 rfl rfl ?_
      rw [ha, show bs i (fun p => anyF (cV I) P (nI q) m p && (decide (i ≤ p) || (!decide (cV I 2 p = 4) && canV (cV I) p q))) = bs i (evF (cV I) P m q) from bs_congr i (fun p hp => by unfold evF; simp [show ¬ i ≤ p by omega])]
      exact h1
    | succ k ih =>
      intro i acc hi ha
      have drop : (!decide (cV I 2 i = 4) && canV (cV I) i q) = false → X mLedger_evenBits G (3, 0, 0) S1 I L 87 [.ref 35, .int (nI q), .int acc, .int (nI i)] [] Post := by
        intro hd
        refine x_iload_n dLedger_evenBits_87 rfl ?_
        refine x_iconst (v := 1) dLedger_evenBits_88 rfl ?_
        refine x_iload_n dLedger_evenBits_89 rfl ?_
        refine x_ishl dLedger_evenBits_90 ?_
        refine x_iconst (v := -1) dLedger_evenBits_91 rfl ?_
        refine x_ixor dLedger_evenBits_92 ?_
        refine x_iand dLedger_evenBits_93 ?_
        refine x_istoren_2 dLedger_evenBits_94 rfl rfl ?_
        refine x_iincp_3 dLedger_evenBits_95 rfl rfl ?_
        refine x_goto (tgt := 45) dLedger_evenBits_98 (by decide) ?_
        -- at 45: .iload_n 3
        rw [nI_1]
        refine ih (i + 1) _ (by omega) ?_
        rw [ha]
        refine (setB_in (n := n) (p := i) _ (by omega) (by omega) false).trans (bs_congr n (fun p hp => ?_))
        by_cases y : p = i
        · subst y
          simp [hd]
        · simp only [y, if_false]
          rw [show decide (i + 1 ≤ p) = decide (i ≤ p) from by
            by_cases z : i + 1 ≤ p
            · simp [z]; omega
            · simp [z]; omega]
      refine x_iload_n dLedger_evenBits_45 rfl ?_
      refine x_aload_n dLedger_evenBits_46 rfl ?_
      refine x_getR fl_Ledger_47 rfl dLedger_evenBits_47 rfl rfl rfl ?_
      refine x_getI fl_Ledger_82 rfl dLedger_evenBits_50 rfl rfl ?_
      -- at 53: .if_icmp .ge 48
      rw [hn]
      refine x_icmp_ge (tgt := 101) dLedger_evenBits_53 (by decide) (fun h => absurd h (nI_ge (b := n) (by omega) (by omega))) (fun _ => ?_)
      refine x_aload_n dLedger_evenBits_56 rfl ?_
      refine x_getR fl_Ledger_47 rfl dLedger_evenBits_57 rfl rfl rfl ?_
      refine x_iload_n dLedger_evenBits_60 rfl ?_
      -- at 61: .invokevirtual 140
      refine x_callV_1 c_Folk_isBound ok_Folk_isBound ml_Ledger_140 dLedger_evenBits_61 rfl rfl rfl rfl rfl ?_
      refine ⟨i, rfl, rfl, by omega, fun hb => ?_, fun hb => ?_⟩
      · refine x_if_eq (tgt := 87) dLedger_evenBits_64 (by decide) (fun h => absurd h (by decide)) (fun _ => ?_)
        refine x_aload_n dLedger_evenBits_67 rfl ?_
        refine x_getR fl_Ledger_47 rfl dLedger_evenBits_68 rfl rfl rfl ?_
        refine x_iload_n dLedger_evenBits_71 rfl ?_
        refine x_aload_n dLedger_evenBits_72 rfl ?_
        refine x_getR fl_Ledger_51 rfl dLedger_evenBits_73 rfl rfl rfl ?_
        refine x_getR fl_Ledger_158 rfl dLedger_evenBits_76 rfl rfl rfl ?_
        refine x_iload_n dLedger_evenBits_79 rfl ?_
        refine x_ialdJ dLedger_evenBits_80 rfl rfl rfl (by omega) ?_
        -- at 81: .invokevirtual 161
        refine x_callV_2 c_Folk_canDo ok_Folk_canDo ml_Ledger_161 dLedger_evenBits_81 rfl rfl rfl rfl rfl ?_
        refine ⟨i, _, rfl, rfl, by omega, fun hd => ?_, fun hd => ?_⟩
        · refine x_if_ne (tgt := 95) dLedger_evenBits_84 (by decide) (fun _ => ?_) (fun h => absurd h (by decide))
          refine x_iincp_3 dLedger_evenBits_95 rfl rfl ?_
          refine x_goto (tgt := 45) dLedger_evenBits_98 (by decide) ?_
          -- at 45: .iload_n 3
          rw [nI_1]
          refine ih (i + 1) _ (by omega) ?_
          rw [ha]
          refine bs_congr n (fun p hp => ?_)
          by_cases y : p = i
          · subst y
            have hb' : ¬ cV I 2 p = 4 := hb
            have hd' : canV (cV I) p q = true := by simpa [canV, cV] using hd
            simp [hb', hd']
          · rw [show decide (i + 1 ≤ p) = decide (i ≤ p) from by
              by_cases z : i + 1 ≤ p
              · simp [z]; omega
              · simp [z]; omega]
        · refine x_if_ne (tgt := 95) dLedger_evenBits_84 (by decide) (fun h => absurd (by decide) h) (fun _ => ?_)
          refine drop ?_
          have hd' : canV (cV I) i q = false := by simpa [canV, cV] using hd
          simp [hd']
      · refine x_if_eq (tgt := 87) dLedger_evenBits_64 (by decide) (fun _ => ?_) (fun h => absurd (by decide) h)
        refine drop ?_
        have hb' : cV I 2 i = 4 := Classical.not_not.mp hb
        simp [hb']
  have loop1 : ∀ (k i : Nat) (acc : Int32), i + k = m → acc = bs n (anyF (cV I) P (nI q) i) → X mLedger_evenBits G (3, 0, 0) S1 I L 4 [.ref 35, .int (nI q), .int acc, .int (nI i)] [] Post := by
    intro k
    induction k with
    | zero =>
      intro i acc hi ha
      obtain rfl : i = m := by omega
      refine x_iload_n dLedger_evenBits_4 rfl ?_
      refine x_aload_n dLedger_evenBits_5 rfl ?_
      refine x_getR fl_Ledger_55 rfl dLedger_evenBits_6 rfl rfl rfl ?_
      refine x_getI fl_Ledger_70 rfl dLedger_evenBits_9 rfl rfl ?_
      -- at 12: .if_icmp .ge 31
      rw [hm]
      refine x_icmp_ge (tgt := 43) dLedger_evenBits_12 (by decide) (fun _ => ?_) (fun h => absurd (Int32.le_refl _) h)
      refine x_iconst (v := 0) dLedger_evenBits_43 rfl ?_
      refine x_istoren_3 dLedger_evenBits_44 rfl rfl ?_
      -- at 45: .iload_n 3
      refine loop2 n 0 _ (by omega) ?_
      rw [ha]
      exact bs_congr n (fun p hp => by simp)
    | succ k ih =>
      intro i acc hi ha
      refine x_iload_n dLedger_evenBits_4 rfl ?_
      refine x_aload_n dLedger_evenBits_5 rfl ?_
      refine x_getR fl_Ledger_55 rfl dLedger_evenBits_6 rfl rfl rfl ?_
      refine x_getI fl_Ledger_70 rfl dLedger_evenBits_9 rfl rfl ?_
      -- at 12: .if_icmp .ge 31
      rw [hm]
      refine x_icmp_ge (tgt := 43) dLedger_evenBits_12 (by decide) (fun h => absurd h (nI_ge (b := m) (by omega) (by omega))) (fun _ => ?_)
      refine x_aload_n dLedger_evenBits_15 rfl ?_
      refine x_getR fl_Ledger_55 rfl dLedger_evenBits_16 rfl rfl rfl ?_
      refine x_getR fl_Ledger_144 rfl dLedger_evenBits_19 rfl rfl rfl ?_
      refine x_iload_n dLedger_evenBits_22 rfl ?_
      refine x_ialdJ dLedger_evenBits_23 rfl rfl rfl (by omega) ?_
      refine x_iload_n dLedger_evenBits_24 rfl ?_
      -- at 25: .if_icmp .ne 12
      refine x_icmp_ne (tgt := 37) dLedger_evenBits_25 (by decide) (fun c1 => ?_) (fun c1 => ?_)
      · refine x_iincp_3 dLedger_evenBits_37 rfl rfl ?_
        refine x_goto (tgt := 4) dLedger_evenBits_40 (by decide) ?_
        -- at 4: .iload_n 3
        rw [nI_1]
        refine ih (i + 1) _ (by omega) ?_
        rw [ha]
        refine bs_congr n (fun p hp => ?_)
        have c1' : ¬ cV I 14 i = nI q := c1
        simp [anyF, c1']
      · refine x_iload_n dLedger_evenBits_28 rfl ?_
        refine x_aload_n dLedger_evenBits_29 rfl ?_
        refine x_getR fl_Ledger_19 rfl dLedger_evenBits_30 rfl rfl rfl ?_
        refine x_iload_n dLedger_evenBits_33 rfl ?_
        refine x_ialdJ dLedger_evenBits_34 rfl rfl rfl (by omega) ?_
        -- at 35: .ior
        rw [hc i (by omega)]
        refine x_ior dLedger_evenBits_35 ?_
        refine x_istoren_2 dLedger_evenBits_36 rfl rfl ?_
        refine x_iincp_3 dLedger_evenBits_37 rfl rfl ?_
        refine x_goto (tgt := 4) dLedger_evenBits_40 (by decide) ?_
        -- at 4: .iload_n 3
        rw [nI_1]
        refine ih (i + 1) _ (by omega) ?_
        rw [ha]
        refine (bs_or _ _ (by omega)).trans (bs_congr n (fun p hp => ?_))
        have c1' : cV I 14 i = nI q := c1
        simp [anyF, c1']
  exact loop1 m 0 0 (by omega) (bs_z n).symm
def ltS (V : IM) (E : Nat → Int32) (am : Int32) (p : Nat) (o : Int32 × Int32) : Int32 × Int32 :=
  if (bt am p = true ∧ E p < V 8 p) ∧ (o.1 = -1 ∨ V 7 p * (E p + 1) < o.2) then (nI p, V 7 p * (E p + 1)) else o
def ltR (V : IM) (E : Nat → Int32) (am : Int32) (n : Nat) : Int32 × Int32 := match n with
  | 0 => (-1, 0)
  | p + 1 => ltS V E am p (ltR V E am p)
theorem ltR_in (V : IM) (E : Nat → Int32) (am : Int32) : ∀ n : Nat, (ltR V E am n).1 = -1 ∨ ∃ p, p < n ∧ (ltR V E am n).1 = nI p := by
  intro n
  induction n with
  | zero => exact Or.inl rfl
  | succ k ih =>
    rw [ltR, ltS]
    split
    · exact Or.inr ⟨k, by omega, rfl⟩
    · rcases ih with h | ⟨p, hp, h⟩
      · exact Or.inl h
      · exact Or.inr ⟨p, by omega, h⟩
theorem ltR_congr {V : IM} {E E' : Nat → Int32} {am : Int32} : ∀ n : Nat, (∀ p, p < n → E p = E' p) → ltR V E am n = ltR V E' am n := by
  intro n
  induction n with
  | zero => intro _; rfl
  | succ k ih =>
    intro h
    rw [ltR, ltR, ih (fun p hp => h p (by omega)), ltS, ltS, h k (by omega)]
def sp_Ledger_lightest : SpT := fun as S I L Post => ∃ (n : Nat) (am : Int32), as = [.ref 35, .int am] ∧ S = S1 ∧ I 4 8 = nI n ∧ n ≤ 8 ∧ Post (some (.int (ltR (cV I) (I 43) am n).1)) S1 I L
set_option maxHeartbeats 4000000 in
set_option maxRecDepth 100000 in
theorem c_Ledger_lightest : Con mLedger_lightest 2 0 0 sp_Ledger_lightest := by
  refine con_of_X rfl fun G as S I L Post hs => ?_
  obtain ⟨n, am, rfl, rfl, hn, hn8, h1⟩ := hs
  refine ⟨5, Nat.le_of_ble_eq_true rfl, ?_⟩
  show X mLedger_lightest G _ S1 I L 0 [.ref 35, .int am, .null, .null, .null, .null, .null] [] Post
  refine x_iconst (v := -1) dLedger_lightest_0 rfl ?_
  refine x_istoren_2 dLedger_lightest_1 rfl rfl ?_
  refine x_iconst (v := 0) dLedger_lightest_2 rfl ?_
  refine x_istoren_3 dLedger_lightest_3 rfl rfl ?_
  refine x_iconst (v := 0) dLedger_lightest_4 rfl ?_
  refine x_istore_4 dLedger_lightest_5 rfl rfl ?_
  -- at 7: .iload 4
  have loop : ∀ (k i : Nat) (o : Int32 × Int32) (a5 a6 : Value), i + k = n → o = ltR (cV I) (I 43) am i → X mLedger_lightest G (2, 0, 0) S1 I L 7 [.ref 35, .int am, .int o.1, .int o.2, .int (nI i), a5, a6] [] Post := by
    intro k
    induction k with
    | zero =>
      intro i o a5 a6 hi ho
      obtain rfl : i = n := by omega
      refine x_iload dLedger_lightest_7 rfl ?_
      refine x_aload_n dLedger_lightest_9 rfl ?_
      refine x_getR fl_Ledger_47 rfl dLedger_lightest_10 rfl rfl rfl ?_
      refine x_getI fl_Ledger_82 rfl dLedger_lightest_13 rfl rfl ?_
      -- at 16: .if_icmp .ge 90
      rw [hn]
      refine x_icmp_ge (tgt := 106) dLedger_lightest_16 (by decide) (fun _ => ?_) (fun h => absurd (Int32.le_refl _) h)
      refine x_iload_n dLedger_lightest_106 rfl ?_
      -- at 107: .ireturn
      refine x_ireturn dLedger_lightest_107 rfl rfl ?_
      rw [ho]
      exact h1
    | succ k ih =>
      intro i o a5 a6 hi ho
      have hs : ltR (cV I) (I 43) am (i + 1) = ltS (cV I) (I 43) am i o := by rw [ltR, ← ho]
      rw [ltS] at hs
      refine x_iload dLedger_lightest_7 rfl ?_
      refine x_aload_n dLedger_lightest_9 rfl ?_
      refine x_getR fl_Ledger_47 rfl dLedger_lightest_10 rfl rfl rfl ?_
      refine x_getI fl_Ledger_82 rfl dLedger_lightest_13 rfl rfl ?_
      -- at 16: .if_icmp .ge 90
      rw [hn]
      refine x_icmp_ge (tgt := 106) dLedger_lightest_16 (by decide) (fun h => absurd h (nI_ge (b := n) (by omega) (by omega))) (fun _ => ?_)
      refine x_aload_n dLedger_lightest_19 rfl ?_
      refine x_getR fl_Ledger_47 rfl dLedger_lightest_20 rfl rfl rfl ?_
      refine x_getR fl_Ledger_199 rfl dLedger_lightest_23 rfl rfl rfl ?_
      refine x_iload dLedger_lightest_26 rfl ?_
      refine x_ialdJ dLedger_lightest_28 rfl rfl rfl (by omega) ?_
      refine x_aload_n dLedger_lightest_29 rfl ?_
      refine x_getR fl_Ledger_37 rfl dLedger_lightest_30 rfl rfl rfl ?_
      refine x_iload dLedger_lightest_33 rfl ?_
      refine x_ialdJ dLedger_lightest_35 rfl rfl rfl (by omega) ?_
      refine x_iconst (v := 1) dLedger_lightest_36 rfl ?_
      refine x_iadd dLedger_lightest_37 ?_
      refine x_imul dLedger_lightest_38 ?_
      refine x_istore_5 dLedger_lightest_39 rfl rfl ?_
      refine x_iload_n dLedger_lightest_41 rfl ?_
      refine x_iload dLedger_lightest_42 rfl ?_
      refine x_ishr dLedger_lightest_44 ?_
      refine x_iconst (v := 1) dLedger_lightest_45 rfl ?_
      refine x_iand dLedger_lightest_46 ?_
      -- at 47: .iconst 1
      have no : ¬ (bt am i = true ∧ I 43 i < I 11 i) → X mLedger_lightest G (2, 0, 0) S1 I L 75 [.ref 35, .int am, .int o.1, .int o.2, .int (nI i), .int (I 10 i * (I 43 i + 1)), a6] [] Post := by
        intro hno
        refine x_iconst (v := 0) dLedger_lightest_75 rfl ?_
        refine x_istore_6 dLedger_lightest_76 rfl rfl ?_
        refine x_iload dLedger_lightest_78 rfl ?_
        -- at 80: .ifCond .eq 20
        refine x_if_eq (tgt := 100) dLedger_lightest_80 (by decide) (fun _ => ?_) (fun h => absurd (by decide) h)
        refine x_iincp_4 dLedger_lightest_100 rfl rfl ?_
        refine x_goto (tgt := 7) dLedger_lightest_103 (by decide) ?_
        -- at 7: .iload 4
        rw [nI_1]
        refine ih (i + 1) o _ _ (by omega) ?_
        rw [hs, if_neg (fun z => hno z.1)]
      by_cases hb : bt am i = true
      · refine x_nm (fun y hy => ?_)
        refine x_nm (fun y2 hy2 => ?_)
        sorry
      · sorry
  exact loop n 0 (-1, 0) _ _ (by omega) rfl
