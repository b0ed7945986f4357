/-! lots, chances, even loads: the class -/
def remL (x y : Int64) : Int64 := x - x / y * y
def lot (a : Int64) (k : Nat) : Int64 := match k with
  | 0 => a
  | j + 1 => remL (lot a j * 48271) 2147483647
def dF (a : Int64) (n : Nat) (H : Nat → Nat → Int32) (s : Nat) : Nat → Bool := fun p => decide (remL (lot a (s * n + p + 1)) 100 < (H s p).toInt64)
def CDr (V : IM) (P : Nat → List Int32) (n : Nat) (a : Int64) : Nat → Int32 := fun s => bs n (dF a n (hearV V P) s)
/-- all SAYINGS' hearings stand, their sets are any -/
def HrdD (V : IM) (P : Nat → List Int32) (n m : Nat) (I : IM) : Prop := (∀ s, s < m → ∀ p, p < n → I 36 (s * 8 + p) = hearV V P s p) ∧ ∀ s, s < m → ∃ f, I 37 s = bs n f
def sp_Ledger_draw : SpT := fun as S I L Post => ∃ (seed : Int32) (t m n nq : Nat) (P : Nat → List Int32), as = [.ref 35, .int seed] ∧ S = S1 ∧ I 18 4 = nI m ∧ m ≤ 10 ∧ (∀ s, s < m → SayV (cV I) s) ∧ PplOk I n ∧ I 35 5 = nI t ∧ TxtC I P t ∧ VowOk I nq ∧ HrdD (cV I) P n m I ∧
  ∀ I' : IM, Fr [33, 34, 37, 38, 39, 40, 41, 42] I I' → HrdD (cV I) P n m I' → OwesN (cV I) (DD (cV I) P (CDr (cV I) P n (seed + 1).toInt64)) n nq (-1) m I' → Post none S1 I' L
set_option maxHeartbeats 4000000 in
set_option maxRecDepth 100000 in
theorem c_Ledger_draw : Con mLedger_draw 7 0 0 sp_Ledger_draw := by
  refine con_of_X rfl fun G as S I L Post hs => ?_
  obtain ⟨seed, t, m, n, nq, P, rfl, rfl, hm, hm10, hsv, hpp, ht, hT, hv, ⟨hh, hcl⟩, h1⟩ := hs
  have hn8 := hpp.2.1
  refine ⟨4, Nat.le_of_ble_eq_true rfl, ?_⟩
  show X mLedger_draw G _ S1 I L 0 [.ref 35, .int seed, .null, .null, .null, .null] [] Post
  refine x_iload_n dLedger_draw_0 rfl ?_
  refine x_iconst (v := 1) dLedger_draw_1 rfl ?_
  refine x_iadd dLedger_draw_2 ?_
  refine x_i2l dLedger_draw_3 ?_
  refine x_ldc2 dLedger_draw_4 cn_Ledger_218 ?_
  refine x_lmul dLedger_draw_7 ?_
  refine x_ldc2 dLedger_draw_8 cn_Ledger_220 ?_
  refine x_lrem dLedger_draw_11 (by decide) ?_
  refine x_lstoren_2 dLedger_draw_12 rfl rfl ?_
  refine x_iconst (v := 0) dLedger_draw_13 rfl ?_
  refine x_istore_4 dLedger_draw_14 rfl rfl ?_
  -- at 16: .iload 4
  generalize ha : (seed + 1).toInt64 = a0 at h1 ⊢
  have loop : ∀ (k i : Nat) (I' : IM) (a5 : Value), i + k = m → Fr [37] I I' → (∀ s, s < i → I' 37 s = CDr (cV I) P n a0 s) → (∀ s, i ≤ s → I' 37 s = I 37 s) →
      X mLedger_draw G (7, 0, 0) S1 I' L 16 [.ref 35, .int seed, .long (lot a0 (i * n + 1)), .null, .int (nI i), a5] [] Post := by
    intro k
    induction k with
    | zero =>
      intro i I' a5 hi hF hc ho
      obtain rfl : i = m := by omega
      have eV : cV I' = cV I := cV_fr (hF.wk (by decide))
      refine x_iload dLedger_draw_16 rfl ?_
      refine x_aload_n dLedger_draw_18 rfl ?_
      refine x_getR fl_Ledger_55 rfl dLedger_draw_19 rfl rfl rfl ?_
      refine x_getI fl_Ledger_70 rfl dLedger_draw_22 rfl rfl ?_
      -- at 25: .if_icmp .ge 76
      rw [hF 18 (by decide), hm]
      refine x_icmp_ge (tgt := 101) dLedger_draw_25 (by decide) (fun _ => ?_) (fun h => absurd (Int32.le_refl _) h)
      refine x_aload_n dLedger_draw_101 rfl ?_
      -- at 102: .invokevirtual 67
      refine x_callV_0 c_Ledger_bindAll ok_Ledger_bindAll ml_Ledger_67 dLedger_draw_102 rfl rfl rfl rfl rfl ?_
      refine ⟨i, n, nq, P, rfl, rfl, by rw [hF 18 (by decide)]; exact hm, hm10, by rw [eV]; exact hsv, fun s hs => ?_, (hpp.fr (hF.wk (by decide))).lis2 (by rw [hF 35 (by decide)]; exact ht) (hT.fr (hF _ (by decide)) (hF _ (by decide))), hv.fr (hF _ (by decide)) (hF _ (by decide)), fun I2 hF2 hd ho2 => ?_⟩
      · obtain ⟨c, hcb, e⟩ := bs_nat (dF a0 n (hearV (cV I) P) s) hn8
        exact ⟨c, hcb, (hc s hs).trans e⟩
      rw [eV] at ho2
      refine x_return dLedger_draw_105 rfl ?_
      refine h1 I2 ((hF.wk (by decide)).tr (hF2.wk (by decide))) ⟨fun s hs p hp => ?_, fun s hs => ⟨dF a0 n (hearV (cV I) P) s, ?_⟩⟩ (DD_congr hc ho2)
      · rw [hF2 36 (by decide), hF 36 (by decide)]
        exact hh s hs p hp
      · rw [hF2 37 (by decide)]
        exact hc s hs
    | succ k ih =>
      intro i I' a5 hi hF hc ho
      refine x_iload dLedger_draw_16 rfl ?_
      refine x_aload_n dLedger_draw_18 rfl ?_
      refine x_getR fl_Ledger_55 rfl dLedger_draw_19 rfl rfl rfl ?_
      refine x_getI fl_Ledger_70 rfl dLedger_draw_22 rfl rfl ?_
      -- at 25: .if_icmp .ge 76
      rw [hF 18 (by decide), hm]
      refine x_icmp_ge (tgt := 101) dLedger_draw_25 (by decide) (fun h => absurd h (nI_ge (b := m) (by omega) (by omega))) (fun _ => ?_)
      refine x_iconst (v := 0) dLedger_draw_28 rfl ?_
      refine x_istore_5 dLedger_draw_29 rfl rfl ?_
      -- at 31: .iload 5
      obtain ⟨f0, hf0⟩ := hcl i (by omega)
      have loop2 : ∀ (k2 j : Nat) (I2 : IM), j + k2 = n → Fr [37] I' I2 → I2 37 i = bs n (fun q => if q < j then dF a0 n (hearV (cV I) P) i q else f0 q) → (∀ s, s ≠ i → I2 37 s = I' 37 s) →
          X mLedger_draw G (7, 0, 0) S1 I2 L 31 [.ref 35, .int seed, .long (lot a0 (i * n + j + 1)), .null, .int (nI i), .int (nI j)] [] Post := by
        intro k2
        induction k2 with
        | zero =>
          intro j I2 hj hF2 hc2 ho2
          obtain rfl : j = n := by omega
          refine x_iload dLedger_draw_31 rfl ?_
          refine x_aload_n dLedger_draw_33 rfl ?_
          refine x_getR fl_Ledger_47 rfl dLedger_draw_34 rfl rfl rfl ?_
          refine x_getI fl_Ledger_82 rfl dLedger_draw_37 rfl rfl ?_
          -- at 40: .if_icmp .ge 55
          rw [hF2 4 (by decide), hF 4 (by decide), hpp.1]
          refine x_icmp_ge (tgt := 95) dLedger_draw_40 (by decide) (fun _ => ?_) (fun h => absurd (Int32.le_refl _) h)
          refine x_iincp_4 dLedger_draw_95 rfl rfl ?_
          refine x_goto (tgt := 16) dLedger_draw_98 (by decide) ?_
          -- at 16: .iload 4
          rw [nI_1, show i * j + j + 1 = (i + 1) * j + 1 by rw [Nat.add_mul]; omega]
          refine ih (i + 1) I2 _ (by omega) (hF.tr hF2) (fun s hs => ?_) (fun s hs => ?_)
          · by_cases y : s = i
            · subst y
              rw [hc2]
              exact bs_congr j (fun q hq => by simp [hq])
            · rw [ho2 s y]
              exact hc s (by omega)
          · rw [ho2 s (by omega)]
            exact ho s (by omega)
        | succ k2 ih2 =>
          intro j I2 hj hF2 hc2 ho2
          refine x_iload dLedger_draw_31 rfl ?_
          refine x_aload_n dLedger_draw_33 rfl ?_
          refine x_getR fl_Ledger_47 rfl dLedger_draw_34 rfl rfl rfl ?_
          refine x_getI fl_Ledger_82 rfl dLedger_draw_37 rfl rfl ?_
          -- at 40: .if_icmp .ge 55
          rw [hF2 4 (by decide), hF 4 (by decide), hpp.1]
          refine x_icmp_ge (tgt := 95) dLedger_draw_40 (by decide) (fun h => absurd h (nI_ge (b := n) (by omega) (by omega))) (fun _ => ?_)
          refine x_aload_n dLedger_draw_43 rfl ?_
          refine x_iload dLedger_draw_44 rfl ?_
          refine x_iload dLedger_draw_46 rfl ?_
          refine x_lload_n dLedger_draw_48 rfl ?_
          refine x_ldc2 dLedger_draw_49 cn_Ledger_222 ?_
          refine x_lrem dLedger_draw_52 (by decide) ?_
          refine x_aload_n dLedger_draw_53 rfl ?_
          refine x_getR fl_Ledger_15 rfl dLedger_draw_54 rfl rfl rfl ?_
          refine x_iload dLedger_draw_57 rfl ?_
          refine x_bipush (v := 8) dLedger_draw_59 rfl ?_
          refine x_imul dLedger_draw_61 ?_
          refine x_iload dLedger_draw_62 rfl ?_
          refine x_iadd dLedger_draw_64 ?_
          refine x_ialdJ (j := i * 8 + j) dLedger_draw_65 rfl rfl (by first | rfl | (simp only [← nI_add, ← pk_mul]; rfl)) (by omega) ?_
          -- at 66: .i2l
          rw [hF2 36 (by decide), hF 36 (by decide), hh i (by omega) j (by omega)]
          refine x_i2l dLedger_draw_66 ?_
          refine x_lcmp dLedger_draw_67 ?_
          -- at 68: .ifCond .ge 7
          have fin : ∀ (v : Int32) (b : Bool), ((v = 1 ∧ b = true) ∨ (v = 0 ∧ b = false)) → b = dF a0 n (hearV (cV I) P) i j → X mLedger_draw G (7, 0, 0) S1 I2 L 76 [.ref 35, .int seed, .long (lot a0 (i * n + j + 1)), .null, .int (nI i), .int (nI j)] [.int v, .int (nI j), .int (nI i), .ref 35] Post := by
            intro v b hvb hb
            refine x_callV_3 c_Ledger_setClear ok_Ledger_setClear ml_Ledger_127 dLedger_draw_76 rfl rfl rfl rfl rfl ?_
            refine ⟨i, j, v, b, rfl, rfl, by omega, hvb, ?_⟩
            refine x_lload_n dLedger_draw_79 rfl ?_
            refine x_ldc2 dLedger_draw_80 cn_Ledger_218 ?_
            refine x_lmul dLedger_draw_83 ?_
            refine x_ldc2 dLedger_draw_84 cn_Ledger_220 ?_
            refine x_lrem dLedger_draw_87 (by decide) ?_
            refine x_lstoren_2 dLedger_draw_88 rfl rfl ?_
            refine x_iincp_5 dLedger_draw_89 rfl rfl ?_
            refine x_goto (tgt := 31) dLedger_draw_92 (by decide) ?_
            -- at 31: .iload 5
            rw [nI_1]
            refine ih2 (j + 1) _ (by omega) (hF2.up (by decide) _ _) ?_ (fun s hs => ?_)
            · rw [up2_s, up1, if_pos rfl, hc2, setB_in _ (by omega) (by omega)]
              refine bs_congr n (fun q hq => ?_)
              by_cases y : q = j
              · subst y; simp [hb]
              · by_cases z : q < j
                · simp [y, z, show q < j + 1 by omega]
                · simp [y, z, show ¬ q < j + 1 by omega]
            · rw [up2_s, up1, if_neg hs]
              exact ho2 s hs
          refine x_if_ge (tgt := 75) dLedger_draw_68 (by decide) (fun c1 => ?_) (fun c1 => ?_)
          · refine x_iconst (v := 0) dLedger_draw_75 rfl ?_
            -- at 76: .invokevirtual 127
            refine fin 0 false (Or.inr ⟨rfl, rfl⟩) ?_
            have h3 := (lg_cmp_ge _ _).mp c1
            unfold dF
            simp only [Bool.false_eq, decide_eq_false_iff_not, Int64.not_lt]
            exact h3
          · refine x_iconst (v := 1) dLedger_draw_71 rfl ?_
            refine x_goto (tgt := 76) dLedger_draw_72 (by decide) ?_
            -- at 76: .invokevirtual 127
            refine fin 1 true (Or.inl ⟨rfl, rfl⟩) ?_
            have h3 : ¬ _ := fun z => c1 ((lg_cmp_ge _ _).mpr z)
            unfold dF
            simp only [Bool.true_eq, decide_eq_true_eq]
            exact Int64.not_le.mp h3
      have e := loop2 n 0 I' (by omega) Fr.rfl (by rw [ho i (Nat.le_refl _), hf0]; exact bs_congr n (fun q _ => by simp)) (fun s _ => rfl)
      exact e
  have e := loop m 0 I .null (by omega) Fr.rfl (fun s hs => absurd hs (Nat.not_lt_zero s)) (fun s _ => rfl)
  rw [Nat.zero_mul] at e
  exact e
def chanS (V : IM) (H : Nat → Nat → Int32) (p : Nat) (q : Int32) (m : Nat) : Int64 := match m with
  | 0 => 1000000
  | s + 1 => if V 14 s = q then chanS V H p q s * (100 - H s p).toInt64 / 100 else chanS V H p q s
def sp_Ledger_chanceOf : SpT := fun as S I L Post => ∃ (p m n : Nat) (q : Int32) (P : Nat → List Int32), as = [.ref 35, .int (nI p), .int q] ∧ S = S1 ∧ I 18 4 = nI m ∧ m ≤ 10 ∧ n ≤ 8 ∧ p < n ∧ (∀ s, s < m → ∀ p, p < n → I 36 (s * 8 + p) = hearV (cV I) P s p) ∧ Post (some (.long (1000000 - chanS (cV I) (hearV (cV I) P) p q m))) S1 I L
set_option maxHeartbeats 4000000 in
set_option maxRecDepth 100000 in
theorem c_Ledger_chanceOf : Con mLedger_chanceOf 2 0 0 sp_Ledger_chanceOf := by
  refine con_of_X rfl fun G as S I L Post hs => ?_
  obtain ⟨p, m, n, q, P, rfl, rfl, hm, hm10, hn8, hp, hh, h1⟩ := hs
  refine ⟨3, Nat.le_of_ble_eq_true rfl, ?_⟩
  show X mLedger_chanceOf G _ S1 I L 0 [.ref 35, .int (nI p), .int q, .null, .null, .null] [] Post
  refine x_ldc2 dLedger_chanceOf_0 cn_Ledger_236 ?_
  refine x_lstoren_3 dLedger_chanceOf_3 rfl rfl ?_
  refine x_iconst (v := 0) dLedger_chanceOf_4 rfl ?_
  refine x_istore_5 dLedger_chanceOf_5 rfl rfl ?_
  -- at 7: .iload 5
  have loop : ∀ (k i : Nat) (acc : Int64), i + k = m → acc = chanS (cV I) (hearV (cV I) P) p q i → X mLedger_chanceOf G (2, 0, 0) S1 I L 7 [.ref 35, .int (nI p), .int q, .long acc, .null, .int (nI i)] [] Post := by
    intro k
    induction k with
    | zero =>
      intro i acc hi ha
      obtain rfl : i = m := by omega
      refine x_iload dLedger_chanceOf_7 rfl ?_
      refine x_aload_n dLedger_chanceOf_9 rfl ?_
      refine x_getR fl_Ledger_55 rfl dLedger_chanceOf_10 rfl rfl rfl ?_
      refine x_getI fl_Ledger_70 rfl dLedger_chanceOf_13 rfl rfl ?_
      -- at 16: .if_icmp .ge 46
      rw [hm]
      refine x_icmp_ge (tgt := 62) dLedger_chanceOf_16 (by decide) (fun _ => ?_) (fun h => absurd (Int32.le_refl _) h)
      refine x_ldc2 dLedger_chanceOf_62 cn_Ledger_236 ?_
      refine x_lload_n dLedger_chanceOf_65 rfl ?_
      refine x_lsub dLedger_chanceOf_66 ?_
      -- at 67: .lreturn
      refine x_lreturn dLedger_chanceOf_67 rfl ?_
      rw [ha]
      exact h1
    | succ k ih =>
      intro i acc hi ha
      refine x_iload dLedger_chanceOf_7 rfl ?_
      refine x_aload_n dLedger_chanceOf_9 rfl ?_
      refine x_getR fl_Ledger_55 rfl dLedger_chanceOf_10 rfl rfl rfl ?_
      refine x_getI fl_Ledger_70 rfl dLedger_chanceOf_13 rfl rfl ?_
      -- at 16: .if_icmp .ge 46
      rw [hm]
      refine x_icmp_ge (tgt := 62) dLedger_chanceOf_16 (by decide) (fun h => absurd h (nI_ge (b := m) (by omega) (by omega))) (fun _ => ?_)
      refine x_aload_n dLedger_chanceOf_19 rfl ?_
      refine x_getR fl_Ledger_55 rfl dLedger_chanceOf_20 rfl rfl rfl ?_
      refine x_getR fl_Ledger_144 rfl dLedger_chanceOf_23 rfl rfl rfl ?_
      refine x_iload dLedger_chanceOf_26 rfl ?_
      refine x_ialdJ dLedger_chanceOf_28 rfl rfl rfl (by omega) ?_
      refine x_iload_n dLedger_chanceOf_29 rfl ?_
      -- at 30: .if_icmp .ne 26
      refine x_icmp_ne (tgt := 56) dLedger_chanceOf_30 (by decide) (fun c1 => ?_) (fun c1 => ?_)
      · refine x_iincp_5 dLedger_chanceOf_56 rfl rfl ?_
        refine x_goto (tgt := 7) dLedger_chanceOf_59 (by decide) ?_
        -- at 7: .iload 5
        rw [nI_1]
        refine ih (i + 1) _ (by omega) ?_
        rw [chanS, if_neg (show ¬ cV I 14 i = q from c1), ha]
      · refine x_lload_n dLedger_chanceOf_33 rfl ?_
        refine x_bipush (v := 100) dLedger_chanceOf_34 rfl ?_
        refine x_aload_n dLedger_chanceOf_36 rfl ?_
        refine x_getR fl_Ledger_15 rfl dLedger_chanceOf_37 rfl rfl rfl ?_
        refine x_iload dLedger_chanceOf_40 rfl ?_
        refine x_bipush (v := 8) dLedger_chanceOf_42 rfl ?_
        refine x_imul dLedger_chanceOf_44 ?_
        refine x_iload_n dLedger_chanceOf_45 rfl ?_
        refine x_iadd dLedger_chanceOf_46 ?_
        refine x_ialdJ (j := i * 8 + p) dLedger_chanceOf_47 rfl rfl (by first | rfl | (simp only [← nI_add, ← pk_mul]; rfl)) (by omega) ?_
        -- at 48: .isub
        rw [hh i (by omega) p hp]
        refine x_isub dLedger_chanceOf_48 ?_
        refine x_i2l dLedger_chanceOf_49 ?_
        refine x_lmul dLedger_chanceOf_50 ?_
        refine x_ldc2 dLedger_chanceOf_51 cn_Ledger_222 ?_
        refine x_ldiv dLedger_chanceOf_54 (by decide) ?_
        refine x_lstoren_3 dLedger_chanceOf_55 rfl rfl ?_
        refine x_iincp_5 dLedger_chanceOf_56 rfl rfl ?_
        refine x_goto (tgt := 7) dLedger_chanceOf_59 (by decide) ?_
        -- at 7: .iload 5
        rw [nI_1]
        refine ih (i + 1) _ (by omega) ?_
        rw [chanS, if_pos (show cV I 14 i = q from c1), ha]
  exact loop m 0 _ (by omega) rfl
