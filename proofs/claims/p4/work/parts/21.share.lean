/-! what one owes by a saying: the class -/
def canV (V : IM) (p q : Nat) : Bool := decide ((V 6 p >>> (V 10 q &&& 31)) &&& 1 = 1)
def shareV (V : IM) (P : Nat → List Int32) (c : Int32) (s p : Nat) : Int32 :=
  if bt c p = true ∧ ¬ V 2 p = 4 then bnd (valP (nm6 (V 17 s) 0 0 (V 11 (cl (V 14 s))) (onesR c 8) (if canV V p (cl (V 14 s)) then 1 else 0)) (P 1)) 99 else 0
def sp_Ledger_shareOf : SpT := fun as S I L Post => ∃ (s p t c : Nat) (P : Nat → List Int32), as = [.ref 35, .int (nI s), .int (nI p)] ∧ S = S1 ∧ s < 11 ∧ p < 8 ∧ SayV (cV I) s ∧ I 37 s = nI c ∧ c < 256 ∧ I 35 5 = nI t ∧ TxtC I P t ∧
  ∀ I' : IM, Fr [33, 34] I I' → Post (some (.int (shareV (cV I) P (I 37 s) s p))) S1 I' L
set_option maxHeartbeats 4000000 in
set_option maxRecDepth 100000 in
theorem c_Ledger_shareOf : Con mLedger_shareOf 4 0 0 sp_Ledger_shareOf := by
  refine con_of_X rfl fun G as S I L Post hs => ?_
  obtain ⟨s, p, t, c, P, rfl, rfl, hs, hp, ⟨⟨q, hq, eq⟩, -, -⟩, ec, hc, ht, hT, h1⟩ := hs
  have eq : I 19 s = nI q := eq
  have eq2 : cl (cV I 14 s) = q := by
    rw [show cV I 14 s = nI q from eq]
    exact cl_nI (by omega)
  refine ⟨1, Nat.le_of_ble_eq_true rfl, ?_⟩
  show X mLedger_shareOf G _ S1 I L 0 [.ref 35, .int (nI s), .int (nI p), .null] [] Post
  have none0 : ¬ (bt (I 37 s) p = true ∧ ¬ cV I 2 p = 4) → X mLedger_shareOf G (4, 0, 0) S1 I L 24 [.ref 35, .int (nI s), .int (nI p), .null] [] Post := by
    intro hn
    refine x_iconst (v := 0) dLedger_shareOf_24 rfl ?_
    -- at 25: .ireturn
    refine x_ireturn dLedger_shareOf_25 rfl rfl ?_
    have := h1 I Fr.rfl
    rw [shareV, if_neg hn] at this
    exact this
  refine x_aload_n dLedger_shareOf_0 rfl ?_
  refine x_getR fl_Ledger_19 rfl dLedger_shareOf_1 rfl rfl rfl ?_
  refine x_iload_n dLedger_shareOf_4 rfl ?_
  refine x_ialdJ dLedger_shareOf_5 rfl rfl rfl (by omega) ?_
  refine x_iload_n dLedger_shareOf_6 rfl ?_
  refine x_ishr dLedger_shareOf_7 ?_
  refine x_iconst (v := 1) dLedger_shareOf_8 rfl ?_
  refine x_iand dLedger_shareOf_9 ?_
  -- at 10: .ifCond .eq 14
  refine x_eqi (tst_bit (by omega)) ?_
  by_cases hb : bt (I 37 s) p = true
  · rw [if_pos hb]
    refine x_if_eq (tgt := 24) dLedger_shareOf_10 (by decide) (fun h => absurd h (by decide)) (fun _ => ?_)
    refine x_aload_n dLedger_shareOf_13 rfl ?_
    refine x_getR fl_Ledger_47 rfl dLedger_shareOf_14 rfl rfl rfl ?_
    refine x_iload_n dLedger_shareOf_17 rfl ?_
    -- at 18: .invokevirtual 140
    refine x_callV_1 c_Folk_isBound ok_Folk_isBound ml_Ledger_140 dLedger_shareOf_18 rfl rfl rfl rfl rfl ?_
    refine ⟨p, rfl, rfl, hp, fun hk => ?_, fun hk => ?_⟩
    · refine x_if_ne (tgt := 26) dLedger_shareOf_21 (by decide) (fun _ => ?_) (fun h => absurd h (by decide))
      refine x_aload_n dLedger_shareOf_26 rfl ?_
      refine x_getR fl_Ledger_55 rfl dLedger_shareOf_27 rfl rfl rfl ?_
      refine x_getR fl_Ledger_144 rfl dLedger_shareOf_30 rfl rfl rfl ?_
      refine x_iload_n dLedger_shareOf_33 rfl ?_
      refine x_ialdJ dLedger_shareOf_34 rfl rfl rfl (by omega) ?_
      -- at 35: .istore_n 3
      rw [eq]
      refine x_istoren_3 dLedger_shareOf_35 rfl rfl ?_
      refine x_aload_n dLedger_shareOf_36 rfl ?_
      refine x_getR fl_Ledger_59 rfl dLedger_shareOf_37 rfl rfl rfl ?_
      -- at 40: .invokevirtual 88
      refine x_callV_0 c_Texts_giveNothing ok_Texts_giveNothing ml_Ledger_88 dLedger_shareOf_40 rfl rfl rfl rfl rfl ?_
      refine ⟨rfl, rfl, fun I1 hF1 hz => ?_⟩
      have f22 := hF1 22 (by decide)
      have f15 := hF1 15 (by decide)
      have f14 := hF1 14 (by decide)
      have f37 := hF1 37 (by decide)
      have f35 := hF1 35 (by decide)
      have f9 := hF1 9 (by decide)
      refine x_aload_n dLedger_shareOf_43 rfl ?_
      refine x_getR fl_Ledger_59 rfl dLedger_shareOf_44 rfl rfl rfl ?_
      refine x_getR fl_Ledger_93 rfl dLedger_shareOf_47 rfl rfl rfl ?_
      refine x_iconst (v := 0) dLedger_shareOf_50 rfl ?_
      refine x_aload_n dLedger_shareOf_51 rfl ?_
      refine x_getR fl_Ledger_55 rfl dLedger_shareOf_52 rfl rfl rfl ?_
      refine x_getR fl_Ledger_96 rfl dLedger_shareOf_55 rfl rfl rfl ?_
      refine x_iload_n dLedger_shareOf_58 rfl ?_
      refine x_ialdJ dLedger_shareOf_59 rfl rfl rfl (by omega) ?_
      -- at 60: .iastore
      simp only [up2_n, up2_s, ne_eq, Nat.reduceEqDiff, not_false_eq_true, f22]
      refine x_iastJ (j := 0) dLedger_shareOf_60 rfl rfl (by first | rfl | (simp only [← nI_add, ← pk_mul]; rfl)) (by omega) ?_
      -- at 61: .aload_n 0
      refine x_aload_n dLedger_shareOf_61 rfl ?_
      refine x_getR fl_Ledger_59 rfl dLedger_shareOf_62 rfl rfl rfl ?_
      refine x_getR fl_Ledger_93 rfl dLedger_shareOf_65 rfl rfl rfl ?_
      refine x_iconst (v := 3) dLedger_shareOf_68 rfl ?_
      refine x_aload_n dLedger_shareOf_69 rfl ?_
      refine x_getR fl_Ledger_51 rfl dLedger_shareOf_70 rfl rfl rfl ?_
      refine x_getR fl_Ledger_147 rfl dLedger_shareOf_73 rfl rfl rfl ?_
      refine x_iload_n dLedger_shareOf_76 rfl ?_
      refine x_ialdJ dLedger_shareOf_77 rfl rfl rfl (by omega) ?_
      -- at 78: .iastore
      simp only [up2_n, up2_s, ne_eq, Nat.reduceEqDiff, not_false_eq_true, f15]
      refine x_iastJ (j := 3) dLedger_shareOf_78 rfl rfl (by first | rfl | (simp only [← nI_add, ← pk_mul]; rfl)) (by omega) ?_
      -- at 79: .aload_n 0
      refine x_aload_n dLedger_shareOf_79 rfl ?_
      refine x_getR fl_Ledger_59 rfl dLedger_shareOf_80 rfl rfl rfl ?_
      refine x_getR fl_Ledger_93 rfl dLedger_shareOf_83 rfl rfl rfl ?_
      refine x_iconst (v := 4) dLedger_shareOf_86 rfl ?_
      refine x_aload_n dLedger_shareOf_87 rfl ?_
      refine x_getR fl_Ledger_19 rfl dLedger_shareOf_88 rfl rfl rfl ?_
      refine x_iload_n dLedger_shareOf_91 rfl ?_
      refine x_ialdJ dLedger_shareOf_92 rfl rfl rfl (by omega) ?_
      -- at 93: .invokestatic 152
      simp only [up2_n, up2_s, ne_eq, Nat.reduceEqDiff, not_false_eq_true, f37]
      rw [ec]
      refine x_callS_1 c_Integer_bitCount ok_Integer_bitCount ml_Ledger_152 dLedger_shareOf_93 rfl rfl ?_
      refine ⟨c, rfl, hc, ?_⟩
      rw [← ec]
      refine x_iastJ (j := 4) dLedger_shareOf_96 rfl rfl (by first | rfl | (simp only [← nI_add, ← pk_mul]; rfl)) (by omega) ?_
      -- at 97: .aload_n 0
      refine x_aload_n dLedger_shareOf_97 rfl ?_
      refine x_getR fl_Ledger_59 rfl dLedger_shareOf_98 rfl rfl rfl ?_
      refine x_getR fl_Ledger_93 rfl dLedger_shareOf_101 rfl rfl rfl ?_
      refine x_iconst (v := 5) dLedger_shareOf_104 rfl ?_
      refine x_aload_n dLedger_shareOf_105 rfl ?_
      refine x_getR fl_Ledger_47 rfl dLedger_shareOf_106 rfl rfl rfl ?_
      refine x_iload_n dLedger_shareOf_109 rfl ?_
      refine x_aload_n dLedger_shareOf_110 rfl ?_
      refine x_getR fl_Ledger_51 rfl dLedger_shareOf_111 rfl rfl rfl ?_
      refine x_getR fl_Ledger_158 rfl dLedger_shareOf_114 rfl rfl rfl ?_
      refine x_iload_n dLedger_shareOf_117 rfl ?_
      refine x_ialdJ dLedger_shareOf_118 rfl rfl rfl (by omega) ?_
      -- at 119: .invokevirtual 161
      simp only [up2_n, up2_s, ne_eq, Nat.reduceEqDiff, not_false_eq_true, f14]
      have fin : ∀ (v : Int32), v = (if canV (cV I) p q then 1 else 0) → X mLedger_shareOf G (4, 0, 0) S1 (up2 (up2 (up2 I1 33 0 (I 22 s)) 33 3 (I 15 q)) 33 4 (onesR (I 37 s) 8)) L 130 [.ref 35, .int (nI s), .int (nI p), .int (nI q)] [.int v, .int 5, .ref 33] Post := by
        intro v hv
        refine x_iastJ (j := 5) dLedger_shareOf_130 rfl rfl (by first | rfl | (simp only [← nI_add, ← pk_mul]; rfl)) (by omega) ?_
        -- at 131: .aload_n 0
        refine x_aload_n dLedger_shareOf_131 rfl ?_
        refine x_getR fl_Ledger_59 rfl dLedger_shareOf_132 rfl rfl rfl ?_
        refine x_aload_n dLedger_shareOf_135 rfl ?_
        refine x_getI fl_Ledger_9 rfl dLedger_shareOf_136 rfl rfl ?_
        refine x_iconst (v := 1) dLedger_shareOf_139 rfl ?_
        -- at 140: .invokevirtual 117
        simp only [up2_n, up2_s, ne_eq, Nat.reduceEqDiff, not_false_eq_true, f35]
        rw [ht]
        have hT2 := hT.fr (I' := up2 (up2 (up2 (up2 I1 33 0 (I 22 s)) 33 3 (I 15 q)) 33 4 (onesR (I 37 s) 8)) 33 5 v) (by simp only [up2_n, up2_s, ne_eq, Nat.reduceEqDiff, not_false_eq_true, hF1 32 (by decide)]) (by simp only [up2_n, up2_s, ne_eq, Nat.reduceEqDiff, not_false_eq_true, hF1 31 (by decide)])
        obtain ⟨a, ha, hb2, hab, hc2, hwf⟩ := hT2.2 1 (by omega)
        refine x_callV_2 c_Texts_value ok_Texts_value ml_Ledger_117 dLedger_shareOf_140 rfl rfl rfl rfl rfl ?_
        refine ⟨t, 1, a, P 1, rfl, rfl, hT.1, by omega, ha, hb2, hab, hc2, hwf, fun I2 hF2 => ?_⟩
        have eV : valP (up2 (up2 (up2 (up2 I1 33 0 (I 22 s)) 33 3 (I 15 q)) 33 4 (onesR (I 37 s) 8)) 33 5 v 33) (P 1) = valP (nm6 (cV I 17 s) 0 0 (cV I 11 q) (onesR (I 37 s) 8) (if canV (cV I) p q then 1 else 0)) (P 1) := by
          refine valP_congr (h := 0) (o := 1) (fun j hj => ?_) hwf
          simp only [up2_n, up2_s, ne_eq, Nat.reduceEqDiff, not_false_eq_true]
          rcases (show j = 0 ∨ j = 1 ∨ j = 2 ∨ j = 3 ∨ j = 4 ∨ j = 5 by omega) with rfl | rfl | rfl | rfl | rfl | rfl <;> simp [up1, nm6, cV, hz, hv]
        rw [eV]
        refine x_bipush (v := 99) dLedger_shareOf_143 rfl ?_
        -- at 145: .invokestatic 120
        refine x_callSN_2 c_W_bounded ok_W_bounded nw_Ledger_120 dLedger_shareOf_145 rfl rfl ?_
        refine ⟨_, _, rfl, ?_⟩
        refine x_ireturn dLedger_shareOf_148 rfl rfl ?_
        have := h1 I2 (fun i hi => by
          simp only [List.mem_cons, List.not_mem_nil, or_false, not_or] at hi
          rw [hF2 i (by simp; omega), up2_n _ _ _ (by omega), up2_n _ _ _ (by omega), up2_n _ _ _ (by omega), up2_n _ _ _ (by omega), hF1 i (by simp; omega)])
        rw [shareV, if_pos ⟨hb, hk⟩, eq2] at this
        exact this
      refine x_callV_2 c_Folk_canDo ok_Folk_canDo ml_Ledger_161 dLedger_shareOf_119 rfl rfl rfl rfl rfl ?_
      refine ⟨p, I 14 q, rfl, rfl, hp, fun hd => ?_, fun hd => ?_⟩
      · refine x_if_eq (tgt := 129) dLedger_shareOf_122 (by decide) (fun h => absurd h (by decide)) (fun _ => ?_)
        refine x_iconst (v := 1) dLedger_shareOf_125 rfl ?_
        refine x_goto (tgt := 130) dLedger_shareOf_126 (by decide) ?_
        -- at 130: .iastore
        refine fin 1 ?_
        simp only [up2_n, up2_s, ne_eq, Nat.reduceEqDiff, not_false_eq_true, f9] at hd
        rw [if_pos (by simpa [canV, cV] using hd)]
      · refine x_if_eq (tgt := 129) dLedger_shareOf_122 (by decide) (fun _ => ?_) (fun h => absurd (by decide) h)
        refine x_iconst (v := 0) dLedger_shareOf_129 rfl ?_
        -- at 130: .iastore
        refine fin 0 ?_
        simp only [up2_n, up2_s, ne_eq, Nat.reduceEqDiff, not_false_eq_true, f9] at hd
        rw [if_neg (by simpa [canV, cV] using hd)]
    · refine x_if_ne (tgt := 26) dLedger_shareOf_21 (by decide) (fun h => absurd (by decide) h) (fun _ => ?_)
      exact none0 (fun z => hk z.2)
  · rw [if_neg hb]
    refine x_if_eq (tgt := 24) dLedger_shareOf_10 (by decide) (fun _ => ?_) (fun h => absurd (by decide) h)
    exact none0 (fun z => hb z.1)
abbrev uScr : List Nat := [33, 34]
/-- what is due by a SAYING, its row in the class -/
def DueRow (V : IM) (P : Nat → List Int32) (n : Nat) (c : Int32) (s : Nat) (I' : IM) : Prop := ∀ p, p < n → I' 38 (s * 8 + p) = shareV V P c s p
def sp_Ledger_bindBy : SpT := fun as S I L Post => ∃ (s n c : Nat) (P : Nat → List Int32), as = [.ref 35, .int (nI s)] ∧ S = S1 ∧ s < 11 ∧ SayV (cV I) s ∧ I 37 s = nI c ∧ c < 256 ∧ LisOk I P n ∧
  ∀ I' : IM, Fr [33, 34, 38] I I' → DueRow (cV I) P n (I 37 s) s I' → (∀ i, (i < s * 8 ∨ s * 8 + n ≤ i) → I' 38 i = I 38 i) → Post none S1 I' L
set_option maxHeartbeats 4000000 in
set_option maxRecDepth 100000 in
theorem c_Ledger_bindBy : Con mLedger_bindBy 5 0 0 sp_Ledger_bindBy := by
  refine con_of_X rfl fun G as S I L Post hs => ?_
  obtain ⟨s, n, c, P, rfl, rfl, hs, hsv, ec, hc, hok, h1⟩ := hs
  have hn8 := hok.2.1
  refine ⟨1, Nat.le_of_ble_eq_true rfl, ?_⟩
  show X mLedger_bindBy G _ S1 I L 0 [.ref 35, .int (nI s), .null] [] Post
  refine x_iconst (v := 0) dLedger_bindBy_0 rfl ?_
  refine x_istoren_2 dLedger_bindBy_1 rfl rfl ?_
  -- at 2: .iload_n 2
  have loop : ∀ (k i : Nat) (I' : IM), i + k = n → Fr [33, 34, 38] I I' → (∀ p, p < i → I' 38 (s * 8 + p) = shareV (cV I) P (I 37 s) s p) → (∀ j, (j < s * 8 ∨ s * 8 + n ≤ j) → I' 38 j = I 38 j) →
      X mLedger_bindBy G (5, 0, 0) S1 I' L 2 [.ref 35, .int (nI s), .int (nI i)] [] Post := by
    intro k
    induction k with
    | zero =>
      intro i I' hi hF hh ho
      obtain rfl : i = n := by omega
      refine x_iload_n dLedger_bindBy_2 rfl ?_
      refine x_aload_n dLedger_bindBy_3 rfl ?_
      refine x_getR fl_Ledger_47 rfl dLedger_bindBy_4 rfl rfl rfl ?_
      refine x_getI fl_Ledger_82 rfl dLedger_bindBy_7 rfl rfl ?_
      -- at 10: .if_icmp .ge 26
      rw [hF 4 (by decide), hok.1]
      refine x_icmp_ge (tgt := 36) dLedger_bindBy_10 (by decide) (fun _ => ?_) (fun h => absurd (Int32.le_refl _) h)
      refine x_return dLedger_bindBy_36 rfl ?_
      exact h1 I' hF hh ho
    | succ k ih =>
      intro i I' hi hF hh ho
      have hok' : LisOk I' P n := hok.fr (hF.wk (by decide))
      have eV : cV I' = cV I := cV_fr (hF.wk (by decide))
      have e37 : I' 37 s = I 37 s := by rw [hF 37 (by decide)]
      refine x_iload_n dLedger_bindBy_2 rfl ?_
      refine x_aload_n dLedger_bindBy_3 rfl ?_
      refine x_getR fl_Ledger_47 rfl dLedger_bindBy_4 rfl rfl rfl ?_
      refine x_getI fl_Ledger_82 rfl dLedger_bindBy_7 rfl rfl ?_
      -- at 10: .if_icmp .ge 26
      rw [hF 4 (by decide), hok.1]
      refine x_icmp_ge (tgt := 36) dLedger_bindBy_10 (by decide) (fun h => absurd h (nI_ge (b := n) (by omega) (by omega))) (fun _ => ?_)
      refine x_aload_n dLedger_bindBy_13 rfl ?_
      refine x_getR fl_Ledger_22 rfl dLedger_bindBy_14 rfl rfl rfl ?_
      refine x_iload_n dLedger_bindBy_17 rfl ?_
      refine x_bipush (v := 8) dLedger_bindBy_18 rfl ?_
      refine x_imul dLedger_bindBy_20 ?_
      refine x_iload_n dLedger_bindBy_21 rfl ?_
      refine x_iadd dLedger_bindBy_22 ?_
      refine x_aload_n dLedger_bindBy_23 rfl ?_
      refine x_iload_n dLedger_bindBy_24 rfl ?_
      refine x_iload_n dLedger_bindBy_25 rfl ?_
      -- at 26: .invokevirtual 137
      obtain ⟨t, ht, hT⟩ := hok'.2.2.2
      refine x_callV_2 c_Ledger_shareOf ok_Ledger_shareOf ml_Ledger_137 dLedger_bindBy_26 rfl rfl rfl rfl rfl ?_
      refine ⟨s, i, t, c, P, rfl, rfl, hs, by omega, by rw [eV]; exact hsv, e37.trans ec, hc, ht, hT, fun I2 hF2 => ?_⟩
      rw [eV, e37]
      refine x_iastJ (j := s * 8 + i) dLedger_bindBy_29 rfl rfl (by first | rfl | (simp only [← nI_add, ← pk_mul]; rfl)) (by omega) ?_
      refine x_iincp_2 dLedger_bindBy_30 rfl rfl ?_
      refine x_goto (tgt := 2) dLedger_bindBy_33 (by decide) ?_
      -- at 2: .iload_n 2
      rw [nI_1]
      refine ih (i + 1) _ (by omega) ((hF.tr (hF2.wk (by decide))).up (by decide) _ _) (fun p hp => ?_) (fun j hj => ?_)
      · simp only [up2_n, up2_s, ne_eq, Nat.reduceEqDiff, not_false_eq_true]
        by_cases e : p = i
        · subst e; simp [up1]
        · rw [up1, if_neg (by omega), hF2 38 (by decide)]
          exact hh p (by omega)
      · simp only [up2_n, up2_s, ne_eq, Nat.reduceEqDiff, not_false_eq_true]
        rw [up1, if_neg (by omega), hF2 38 (by decide)]
        exact ho j hj
  exact loop n 0 I (by omega) Fr.rfl (fun p hp => absurd hp (Nat.not_lt_zero p)) (fun j _ => rfl)
