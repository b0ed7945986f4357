theorem cV_fr {I I' : IM} (h : Fr cScr I I') : cV I' = cV I := by
  have e : ∀ k, k ∉ cScr → I' k = I k := h
  funext a
  unfold cV
  rw [e 2 (by decide), e 3 (by decide), e 5 (by decide), e 6 (by decide), e 7 (by decide), e 8 (by decide), e 9 (by decide), e 10 (by decide), e 11 (by decide), e 12 (by decide), e 14 (by decide), e 15 (by decide), e 16 (by decide), e 17 (by decide), e 19 (by decide), e 20 (by decide), e 21 (by decide), e 22 (by decide)]
def clF (V : IM) (P : Nat → List Int32) (s : Nat) : Nat → Bool := fun p => decide (50 ≤ hearV V P s p)
abbrev lScr : List Nat := [33, 34, 36, 37]
/-- what listening rests on -/
def LisOk (I : IM) (P : Nat → List Int32) (n : Nat) : Prop := I 4 8 = nI n ∧ n ≤ 8 ∧ (∀ p, p < n → PerV (cV I) p) ∧ ∃ t, I 35 5 = nI t ∧ TxtC I P t
theorem LisOk.fr {I I' : IM} {P : Nat → List Int32} {n : Nat} (h : LisOk I P n) (hF : Fr [33, 34, 36, 37, 38, 39, 40, 41, 42, 43, 44] I I') : LisOk I' P n := by
  obtain ⟨h1, h2, h3, t, h4, h5⟩ := h
  have e : cV I' = cV I := cV_fr (hF.wk (by decide))
  refine ⟨by rw [hF 4 (by decide)]; exact h1, h2, by rw [e]; exact h3, t, by rw [hF 35 (by decide)]; exact h4, h5.fr (hF _ (by decide)) (hF _ (by decide))⟩
/-- a SAYING was listened to by all -/
def HrdRow (V : IM) (P : Nat → List Int32) (n s : Nat) (I' : IM) : Prop := (∀ p, p < n → I' 36 (s * 8 + p) = hearV V P s p) ∧ I' 37 s = bs n (clF V P s)
def sp_Ledger_listenTo : SpT := fun as S I L Post => ∃ (s n : Nat) (P : Nat → List Int32), as = [.ref 35, .int (nI s)] ∧ S = S1 ∧ s < 11 ∧ SayV (cV I) s ∧ LisOk I P n ∧
  ∀ I' : IM, Fr lScr I I' → HrdRow (cV I) P n s I' → (∀ i, (i < s * 8 ∨ s * 8 + n ≤ i) → I' 36 i = I 36 i) → (∀ i, i ≠ s → I' 37 i = I 37 i) → Post none S1 I' L
set_option maxHeartbeats 4000000 in
set_option maxRecDepth 100000 in
theorem c_Ledger_listenTo : Con mLedger_listenTo 5 0 0 sp_Ledger_listenTo := by
  refine con_of_X rfl fun G as S I L Post hs => ?_
  obtain ⟨s, n, P, rfl, rfl, hs, hsv, hok, h1⟩ := hs
  refine ⟨1, Nat.le_of_ble_eq_true rfl, ?_⟩
  show X mLedger_listenTo G _ S1 I L 0 [.ref 35, .int (nI s), .null] [] Post
  refine x_aload_n dLedger_listenTo_0 rfl ?_
  refine x_getR fl_Ledger_19 rfl dLedger_listenTo_1 rfl rfl rfl ?_
  refine x_iload_n dLedger_listenTo_4 rfl ?_
  refine x_iconst (v := 0) dLedger_listenTo_5 rfl ?_
  refine x_iastJ dLedger_listenTo_6 rfl rfl rfl (by omega) ?_
  refine x_iconst (v := 0) dLedger_listenTo_7 rfl ?_
  refine x_istoren_2 dLedger_listenTo_8 rfl rfl ?_
  -- at 9: .iload_n 2
  have loop : ∀ (k i : Nat) (I' : IM), i + k = n → Fr lScr I I' → (∀ p, p < i → I' 36 (s * 8 + p) = hearV (cV I) P s p) → I' 37 s = bs i (clF (cV I) P s) → (∀ j, (j < s * 8 ∨ s * 8 + n ≤ j) → I' 36 j = I 36 j) → (∀ j, j ≠ s → I' 37 j = I 37 j) →
      X mLedger_listenTo G (5, 0, 0) S1 I' L 9 [.ref 35, .int (nI s), .int (nI i)] [] Post := by
    have hn8 := hok.2.1
    intro k
    induction k with
    | zero =>
      intro i I' hi hF hh hcl hho hco
      obtain rfl : i = n := by omega
      refine x_iload_n dLedger_listenTo_9 rfl ?_
      refine x_aload_n dLedger_listenTo_10 rfl ?_
      refine x_getR fl_Ledger_47 rfl dLedger_listenTo_11 rfl rfl rfl ?_
      refine x_getI fl_Ledger_82 rfl dLedger_listenTo_14 rfl rfl ?_
      -- at 17: .if_icmp .ge 15
      rw [hF 4 (by decide), hok.1]
      refine x_icmp_ge (tgt := 32) dLedger_listenTo_17 (by decide) (fun _ => ?_) (fun h => absurd (Int32.le_refl _) h)
      refine x_return dLedger_listenTo_32 rfl ?_
      exact h1 I' hF ⟨hh, hcl⟩ hho hco
    | succ k ih =>
      intro i I' hi hF hh hcl hho hco
      have hok' : LisOk I' P n := hok.fr (hF.wk (by decide))
      have eV : cV I' = cV I := cV_fr (hF.wk (by decide))
      refine x_iload_n dLedger_listenTo_9 rfl ?_
      refine x_aload_n dLedger_listenTo_10 rfl ?_
      refine x_getR fl_Ledger_47 rfl dLedger_listenTo_11 rfl rfl rfl ?_
      refine x_getI fl_Ledger_82 rfl dLedger_listenTo_14 rfl rfl ?_
      -- at 17: .if_icmp .ge 15
      rw [hF 4 (by decide), hok.1]
      refine x_icmp_ge (tgt := 32) dLedger_listenTo_17 (by decide) (fun h => absurd h (nI_ge (b := n) (by omega) (by omega))) (fun _ => ?_)
      refine x_aload_n dLedger_listenTo_20 rfl ?_
      refine x_iload_n dLedger_listenTo_21 rfl ?_
      refine x_iload_n dLedger_listenTo_22 rfl ?_
      -- at 23: .invokevirtual 78
      refine x_callV_2 c_Ledger_listenOne ok_Ledger_listenOne ml_Ledger_78 dLedger_listenTo_23 rfl rfl rfl rfl rfl ?_
      obtain ⟨t, ht, hT⟩ := hok'.2.2.2
      refine ⟨s, i, t, P, rfl, rfl, hs, by omega, by rw [eV]; exact hsv, hok'.2.2.1 i (by omega), ht, hT, fun I2 hF2 e36 e37 => ?_⟩
      rw [eV] at e36 e37
      refine x_iincp_2 dLedger_listenTo_26 rfl rfl ?_
      refine x_goto (tgt := 9) dLedger_listenTo_29 (by decide) ?_
      -- at 9: .iload_n 2
      rw [nI_1]
      refine ih (i + 1) I2 (by omega) (hF.tr hF2) (fun p hp => ?_) ?_ (fun j hj => ?_) (fun j hj => ?_)
      · rw [e36]
        by_cases e : p = i
        · subst e; simp [up1]
        · rw [up1, if_neg (by omega)]
          exact hh p (by omega)
      · rw [e37, up1, if_pos rfl, hcl]
        exact setB_next _ (by omega) _ rfl
      · rw [e36, up1, if_neg (by omega)]
        exact hho j hj
      · rw [e37, up1, if_neg hj]
        exact hco j hj
  refine loop n 0 _ (by omega) (Fr.rfl.up (by decide) _ _) (fun p hp => absurd hp (Nat.not_lt_zero p)) ?_ (fun j _ => ?_) (fun j hj => ?_)
  · simp only [up2_n, up2_s, ne_eq, Nat.reduceEqDiff, not_false_eq_true]
    simp [up1, bs]
  · simp only [up2_n, up2_s, ne_eq, Nat.reduceEqDiff, not_false_eq_true]
  · simp only [up2_n, up2_s, ne_eq, Nat.reduceEqDiff, not_false_eq_true]
    simp [up1, hj]
/-- the SAYINGS of the first m rows were listened to -/
def Hrd (V : IM) (P : Nat → List Int32) (n m : Nat) (I' : IM) : Prop := ∀ s, s < m → HrdRow V P n s I'
/-- PEOPLE that listening rests on -/
def PplOk (I : IM) (n : Nat) : Prop := I 4 8 = nI n ∧ n ≤ 8 ∧ ∀ p, p < n → PerV (cV I) p
theorem PplOk.lis {I : IM} {P : Nat → List Int32} {n t : Nat} (h : PplOk I n) (hT : TxtC I P t) : LisOk (up2 I 35 5 (nI t)) P n := by
  refine ⟨by simp only [up2_n, up2_s, ne_eq, Nat.reduceEqDiff, not_false_eq_true]; exact h.1, h.2.1, ?_, t, by rw [up2_s]; rfl, hT.fr (by simp only [up2_n, up2_s, ne_eq, Nat.reduceEqDiff, not_false_eq_true]) (by simp only [up2_n, up2_s, ne_eq, Nat.reduceEqDiff, not_false_eq_true])⟩
  rw [cV_fr (Fr.rfl.up (by decide) _ _)]
  exact h.2.2
theorem PplOk.lis2 {I : IM} {P : Nat → List Int32} {n t : Nat} (h : PplOk I n) (ht : I 35 5 = nI t) (hT : TxtC I P t) : LisOk I P n := ⟨h.1, h.2.1, h.2.2, t, ht, hT⟩
theorem PplOk.fr {I I' : IM} {n : Nat} (h : PplOk I n) (hF : Fr cScr I I') : PplOk I' n := by
  unfold PplOk
  rw [cV_fr hF, hF 4 (by decide)]
  exact h
def sp_Ledger_listen : SpT := fun as S I L Post => ∃ (t m n : Nat) (P : Nat → List Int32), as = [.ref 35, .int (nI t)] ∧ S = S1 ∧ I 18 4 = nI m ∧ m ≤ 10 ∧ (∀ s, s < m → SayV (cV I) s) ∧ PplOk I n ∧ TxtC I P t ∧
  ∀ I' : IM, Fr [33, 34, 35, 36, 37] I I' → I' 35 5 = nI t → Hrd (cV I) P n m I' → Post none S1 I' L
set_option maxHeartbeats 4000000 in
set_option maxRecDepth 100000 in
theorem c_Ledger_listen : Con mLedger_listen 6 0 0 sp_Ledger_listen := by
  refine con_of_X rfl fun G as S I L Post hs => ?_
  obtain ⟨t, m, n, P, rfl, rfl, hm, hm10, hsv, hpp, hT, h1⟩ := hs
  have hok := hpp.lis hT
  refine ⟨1, Nat.le_of_ble_eq_true rfl, ?_⟩
  show X mLedger_listen G _ S1 I L 0 [.ref 35, .int (nI t), .null] [] Post
  refine x_aload_n dLedger_listen_0 rfl ?_
  refine x_iload_n dLedger_listen_1 rfl ?_
  refine x_putI fl_Ledger_9 rfl dLedger_listen_2 (by decide) rfl rfl rfl rfl ?_
  refine x_iconst (v := 0) dLedger_listen_5 rfl ?_
  refine x_istoren_2 dLedger_listen_6 rfl rfl ?_
  -- at 7: .iload_n 2
  have eI : cV (up2 I 35 5 (nI t)) = cV I := cV_fr (Fr.rfl.up (by decide) _ _)
  have loop : ∀ (k i : Nat) (I' : IM), i + k = m → Fr lScr (up2 I 35 5 (nI t)) I' → Hrd (cV I) P n i I' →
      X mLedger_listen G (6, 0, 0) S1 I' L 7 [.ref 35, .int (nI t), .int (nI i)] [] Post := by
    intro k
    induction k with
    | zero =>
      intro i I' hi hF hh
      obtain rfl : i = m := by omega
      refine x_iload_n dLedger_listen_7 rfl ?_
      refine x_aload_n dLedger_listen_8 rfl ?_
      refine x_getR fl_Ledger_55 rfl dLedger_listen_9 rfl rfl rfl ?_
      refine x_getI fl_Ledger_70 rfl dLedger_listen_12 rfl rfl ?_
      -- at 15: .if_icmp .ge 14
      rw [hF 18 (by decide)]
      simp only [up2_n, up2_s, ne_eq, Nat.reduceEqDiff, not_false_eq_true, hm]
      refine x_icmp_ge (tgt := 29) dLedger_listen_15 (by decide) (fun _ => ?_) (fun h => absurd (Int32.le_refl _) h)
      refine x_return dLedger_listen_29 rfl ?_
      refine h1 I' (fun j hj => ?_) ?_ hh
      · simp only [List.mem_cons, List.not_mem_nil, or_false, not_or] at hj
        rw [hF j (by simp; omega), up2_n _ _ _ (by omega)]
      · rw [hF 35 (by decide), up2_s]
        rfl
    | succ k ih =>
      intro i I' hi hF hh
      have hok' : LisOk I' P n := hok.fr (hF.wk (by decide))
      have eV : cV I' = cV I := (cV_fr (hF.wk (by decide))).trans eI
      refine x_iload_n dLedger_listen_7 rfl ?_
      refine x_aload_n dLedger_listen_8 rfl ?_
      refine x_getR fl_Ledger_55 rfl dLedger_listen_9 rfl rfl rfl ?_
      refine x_getI fl_Ledger_70 rfl dLedger_listen_12 rfl rfl ?_
      -- at 15: .if_icmp .ge 14
      rw [hF 18 (by decide)]
      simp only [up2_n, up2_s, ne_eq, Nat.reduceEqDiff, not_false_eq_true, hm]
      refine x_icmp_ge (tgt := 29) dLedger_listen_15 (by decide) (fun h => absurd h (nI_ge (b := m) (by omega) (by omega))) (fun _ => ?_)
      refine x_aload_n dLedger_listen_18 rfl ?_
      refine x_iload_n dLedger_listen_19 rfl ?_
      -- at 20: .invokevirtual 75
      refine x_callV_1 c_Ledger_listenTo ok_Ledger_listenTo ml_Ledger_75 dLedger_listen_20 rfl rfl rfl rfl rfl ?_
      refine ⟨i, n, P, rfl, rfl, by omega, by rw [eV]; exact hsv i (by omega), hok', fun I2 hF2 hr hho hco => ?_⟩
      rw [eV] at hr
      have hn8 := hok'.2.1
      refine x_iincp_2 dLedger_listen_23 rfl rfl ?_
      refine x_goto (tgt := 7) dLedger_listen_26 (by decide) ?_
      -- at 7: .iload_n 2
      rw [nI_1]
      refine ih (i + 1) I2 (by omega) (hF.tr hF2) (fun s hs => ?_)
      by_cases e : s = i
      · subst e; exact hr
      · obtain ⟨r1, r2⟩ := hh s (by omega)
        refine ⟨fun p hp => ?_, ?_⟩
        · rw [hho _ (by omega)]
          exact r1 p hp
        · rw [hco s e]
          exact r2
  exact loop m 0 _ (by omega) Fr.rfl (fun s hs => absurd hs (Nat.not_lt_zero s))
