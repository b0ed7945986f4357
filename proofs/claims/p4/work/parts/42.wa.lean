/-! the class's calls: movesAway, rest -/
theorem Inv_mv {E : IM} (h : Inv E) (p : Nat) {u : Nat} (hu : u < 6) : Inv (up2 E 9 p (nI u)) := by
  have e : ∀ a, a ≠ 9 → up2 E 9 p (nI u) a = E a := fun a ha => up2_n _ _ _ ha
  have e9 : ∀ x, up2 E 9 p (nI u) 9 x = E 9 x ∨ up2 E 9 p (nI u) 9 x = nI u := fun x => by
    rw [up2_s]
    unfold up1
    by_cases z : x = p <;> simp [z]
  generalize up2 E 9 p (nI u) = E' at e e9 ⊢
  obtain ⟨⟨a1, a2, a3⟩, h2, h3, h4, h5, h6, h7, h8⟩ := h
  have pn : pN E' = pN E := by unfold pN; rw [e 29 (by decide)]
  have qn : qN E' = qN E := by unfold qN; rw [e 29 (by decide)]
  have sn' : sN E' = sN E := by unfold sN; rw [e 29 (by decide)]
  have tn' : tN E' = tN E := by unfold tN; rw [e 29 (by decide)]
  have wn : wN E' = wN E := by unfold wN; rw [e 29 (by decide)]
  have zn : zN E' = zN E := by unfold zN; rw [e 29 (by decide)]
  have sa : sA E' = sA E := by funext t j; unfold sA; rw [e 30 (by decide)]
  have sg : seg E' = seg E := by funext t a b; unfold seg; rw [e 31 (by decide)]
  have tx : TextOk E' = TextOk E := by funext t; unfold TextOk; rw [sa, sg, e 30 (by decide)]
  have pq : PromiseOk E' = PromiseOk E := by funext q; unfold PromiseOk; rw [e 10 (by decide), e 11 (by decide), e 12 (by decide), e 13 (by decide)]
  unfold Inv
  rw [pn, qn, sn', tn', wn, zn, tx, pq, e 29 (by decide), e 0 (by decide), e 1 (by decide), e 19 (by decide), e 20 (by decide), e 14 (by decide), e 15 (by decide), e 16 (by decide), e 17 (by decide), e 18 (by decide), e 21 (by decide), e 22 (by decide), e 23 (by decide), e 24 (by decide), e 25 (by decide), e 26 (by decide), e 27 (by decide)]
  refine ⟨⟨a1, a2, fun x hx => ?_⟩, h2, h3, h4, h5, h6, h7, h8⟩
  obtain ⟨x1, x2, x3, x4, x5, x6, x7, x8⟩ := a3 x hx
  unfold PersonOk
  rw [e 2 (by decide), e 3 (by decide), e 4 (by decide), e 5 (by decide), e 6 (by decide), e 7 (by decide), e 8 (by decide)]
  refine ⟨x1, x2, x3, x4, x5, x6, x7, ?_⟩
  rcases e9 x with z | z
  · rw [z]; exact x8
  · rw [z]; exact Or.inr ⟨u, hu, rfl⟩
theorem start_nat {E : IM} (h : Inv E) {p : Nat} (hp : p < pN E) : ∃ b, b < 6 ∧ startV E p = nI b := by
  obtain ⟨⟨a1, a2, a3⟩, -⟩ := h
  obtain ⟨x1, x2, x3, x4, x5, x6, x7, x8⟩ := a3 p hp
  unfold startV
  split
  · exact x2
  · rcases x8 with z | z
    · contradiction
    · exact z
def goE (E : IM) (p : Nat) : Nat := leR (totE E p) 5
abbrev goB (E : IM) (p : Nat) : Prop := totE E p (goE E p) < totE E p (cl (startV E p))
def goU (E : IM) (p : Nat) : IM := up2 E 9 p (nI (goE E p))
def sp_W_movesAway : SpT := fun as S I L Post => ∃ p : Nat, as = [.ref 0, .int (nI p)] ∧ S = S1 ∧ cOk I ∧ p < pN (cE I) ∧
  (goB (cE I) p → ∀ I' : IM, (∀ k, 59 ≤ k → I' k = I k) → cE I' = goU (cE I) p → Post (some (.int 1)) S1 I' L) ∧
  (¬ goB (cE I) p → ∀ I' : IM, (∀ k, 59 ≤ k → I' k = I k) → cE I' = cE I → Post (some (.int 0)) S1 I' L)
set_option maxHeartbeats 4000000 in
set_option maxRecDepth 100000 in
theorem c_W_movesAway : Con mW_movesAway 7 0 0 sp_W_movesAway := by
  refine con_of_X rfl fun G as S I L Post hs => ?_
  obtain ⟨p, rfl, rfl, hok, hp, h1, h2⟩ := hs
  refine ⟨1, Nat.le_of_ble_eq_true rfl, ?_⟩
  show X mW_movesAway G _ S1 I L 0 [.ref 0, .int (nI p), .null] [] Post
  obtain ⟨c1, c2, -⟩ := hok.ppl
  obtain ⟨l1, l2⟩ := hok.law
  obtain ⟨b, hb, eb⟩ := start_nat hok hp
  refine x_aload_n dW_movesAway_0 rfl ?_
  refine x_getR fl_W_56 rfl dW_movesAway_1 rfl rfl rfl ?_
  refine x_aload_n dW_movesAway_4 rfl ?_
  refine x_getR fl_W_47 rfl dW_movesAway_5 rfl rfl rfl ?_
  refine x_getI fl_W_127 rfl dW_movesAway_8 rfl rfl ?_
  -- at 11: .invokevirtual 205
  rw [l1]
  refine x_callV_1 cE_listen ok_Ledger_listen ml_W_205 dW_movesAway_11 rfl rfl rfl rfl rfl ?_
  refine ⟨_, rfl, rfl, hok, l2, fun I1 hF1 hl hh _ => ?_⟩
  refine x_aload_n dW_movesAway_14 rfl ?_
  refine x_getR fl_W_56 rfl dW_movesAway_15 rfl rfl rfl ?_
  refine x_iload_n dW_movesAway_18 rfl ?_
  -- at 19: .invokevirtual 271
  refine x_callV_1 cE_tryPlaces ok_Ledger_tryPlaces ml_W_271 dW_movesAway_19 rfl rfl rfl rfl rfl ?_
  refine ⟨p, I, rfl, rfl, hok, hp, hF1, hl, hh, fun I2 hF2 ht => ?_⟩
  have hle : goE (cE I) p ≤ 5 := leR_le (totE (cE I) p) 5
  refine x_aload_n dW_movesAway_22 rfl ?_
  refine x_getR fl_W_56 rfl dW_movesAway_23 rfl rfl rfl ?_
  refine x_getR fl_W_274 rfl dW_movesAway_26 rfl rfl rfl ?_
  -- at 29: .invokestatic 277
  refine x_callS_1 c_W_leastOf ok_W_leastOf ml_W_277 dW_movesAway_29 rfl rfl ?_
  refine ⟨rfl, rfl, ?_⟩
  rw [leR_congr (g := totE (cE I) p) 5 (fun u hu => ht u (by omega))]
  refine x_istoren_2 dW_movesAway_32 rfl rfl ?_
  refine x_aload_n dW_movesAway_33 rfl ?_
  refine x_getR fl_W_56 rfl dW_movesAway_34 rfl rfl rfl ?_
  refine x_getR fl_W_274 rfl dW_movesAway_37 rfl rfl rfl ?_
  refine x_iload_n dW_movesAway_40 rfl ?_
  refine x_ialdJ (j := goE (cE I) p) dW_movesAway_41 rfl rfl (by first | rfl | (simp only [← nI_add, ← pk_mul]; rfl)) (by omega) ?_
  refine x_aload_n dW_movesAway_42 rfl ?_
  refine x_getR fl_W_56 rfl dW_movesAway_43 rfl rfl rfl ?_
  refine x_getR fl_W_274 rfl dW_movesAway_46 rfl rfl rfl ?_
  refine x_aload_n dW_movesAway_49 rfl ?_
  refine x_getR fl_W_19 rfl dW_movesAway_50 rfl rfl rfl ?_
  refine x_iload_n dW_movesAway_53 rfl ?_
  -- at 54: .invokevirtual 361
  rw [ht _ (by omega)]
  refine x_callV_1 c_Folk_startOf ok_Folk_startOf ml_W_361 dW_movesAway_54 rfl rfl rfl rfl rfl ?_
  refine ⟨p, rfl, rfl, by omega, ?_⟩
  have es : cStart I2 p = nI b := by
    rw [← eb]
    unfold cStart startV
    rw [hF2 12 (by decide), hF2 6 (by decide), show cE I 9 p = I 12 p from mk_lt hp]
    rfl
  rw [es]
  refine x_ialdJ (j := b) dW_movesAway_57 rfl rfl (by first | rfl | (simp only [← nI_add, ← pk_mul]; rfl)) (by omega) ?_
  -- at 58: .if_icmp .lt 5
  rw [ht b hb]
  have eg : goB (cE I) p ↔ totE (cE I) p (goE (cE I) p) < totE (cE I) p b := by
    unfold goB
    rw [eb, cl_nI (by omega)]
  refine x_icmp_lt (tgt := 63) dW_movesAway_58 (by decide) (fun d1 => ?_) (fun d1 => ?_)
  · refine x_aload_n dW_movesAway_63 rfl ?_
    refine x_getR fl_W_19 rfl dW_movesAway_64 rfl rfl rfl ?_
    refine x_getR fl_W_146 rfl dW_movesAway_67 rfl rfl rfl ?_
    refine x_iload_n dW_movesAway_70 rfl ?_
    refine x_iload_n dW_movesAway_71 rfl ?_
    refine x_iastJ (j := p) dW_movesAway_72 rfl rfl (by first | rfl | (simp only [← nI_add, ← pk_mul]; rfl)) (by omega) ?_
    refine x_iconst (v := 1) dW_movesAway_73 rfl ?_
    -- at 74: .ireturn
    refine x_ireturn dW_movesAway_74 rfl rfl ?_
    refine h1 (eg.mpr d1) _ (fun k hk => ?_) ?_
    · rw [up2_n _ _ _ (by omega)]
      exact bstay hF2 k hk
    · rw [cE_u9 I2 _ (by rw [hF2 4 (by decide)]; exact hp), cE_b hF2]
      rfl
  · refine x_iconst (v := 0) dW_movesAway_61 rfl ?_
    -- at 62: .ireturn
    refine x_ireturn dW_movesAway_62 rfl rfl ?_
    exact h2 (fun z => d1 (eg.mp z)) I2 (bstay hF2) (cE_b hF2)
def rsI (K : Nat) (k p : Nat) (E : IM) (d : Nat) : IM × Nat := match k with
  | 0 => (E, d)
  | j + 1 => if d < K then (if goB E p then rsI K j (p + 1) (goU E p) (d + 1) else rsI K j (p + 1) E d) else (E, d)
def rsO (K : Nat) (k : Nat) (E : IM) (d : Nat) : IM × Nat := match k with
  | 0 => (E, d)
  | j + 1 => if (rsI K (pN E) 0 E d).2 = d then rsI K (pN E) 0 E d else rsO K j (rsI K (pN E) 0 E d).1 (rsI K (pN E) 0 E d).2
theorem rsI_le (K : Nat) : ∀ (k p : Nat) (E : IM) (d : Nat), d ≤ K → (rsI K k p E d).2 ≤ K := by
  intro k
  induction k with
  | zero => intro p E d h; exact h
  | succ j ih =>
    intro p E d h
    rw [rsI]
    split
    · split
      · exact ih _ _ _ (by omega)
      · exact ih _ _ _ h
    · exact h
theorem pN_go (E : IM) (p : Nat) : pN (goU E p) = pN E := by
  unfold pN goU
  rw [up2_n _ _ _ (by decide)]
theorem rsI_pN (K : Nat) : ∀ (k p : Nat) (E : IM) (d : Nat), pN (rsI K k p E d).1 = pN E := by
  intro k
  induction k with
  | zero => intro p E d; rfl
  | succ j ih =>
    intro p E d
    rw [rsI]
    split
    · split
      · rw [ih, pN_go]
      · rw [ih]
    · rfl
def restF (E : IM) (k : Int32) : IM × Nat := rsO (cl k) 7 E 0
def restS (E : IM) (k : Int32) : Int32 := if ¬ inR k 0 6 then -2 else nI (restF E k).2
def restU (E : IM) (k : Int32) : IM := if ¬ inR k 0 6 then E else (restF E k).1
def sp_W_rest : SpT := fun as S I L Post => ∃ k : Int32, cSp [.int k] (fun E => .int (restS E k)) (fun E => restU E k) as S I L Post
set_option maxHeartbeats 4000000 in
set_option maxRecDepth 100000 in
theorem c_W_rest : Con mW_rest 8 0 0 sp_W_rest := by
  refine con_of_X rfl fun G as S I0 L Post hs => ?_
  obtain ⟨k, rfl, rfl, hok, h1⟩ := hs
  dsimp only at h1
  refine ⟨4, Nat.le_of_ble_eq_true rfl, ?_⟩
  show X mW_rest G _ S1 I0 L 0 [.ref 0, .int k, .null, .null, .null, .null] [] Post
  refine x_iload_n dW_rest_0 rfl ?_
  refine x_iconst (v := 0) dW_rest_1 rfl ?_
  refine x_bipush (v := 6) dW_rest_2 rfl ?_
  -- at 4: .invokestatic 101
  refine x_callS_3 c_W_within ok_W_within ml_W_101 dW_rest_4 rfl rfl ?_
  refine ⟨_, _, _, rfl, fun a1 => ?_, fun a1 => ?_⟩
  · have a1 : inR k 0 6 := a1
    refine x_if_ne (tgt := 13) dW_rest_7 (by decide) (fun _ => ?_) (fun h => absurd h (by decide))
    rw [restS, restU, if_neg (not_not_intro a1), if_neg (not_not_intro a1)] at h1
    obtain ⟨K, hK, rfl⟩ := inR_of (n := 6) (by decide) a1
    rw [restF, cl_nI (by omega)] at h1
    refine x_iconst (v := 0) dW_rest_13 rfl ?_
    refine x_istoren_2 dW_rest_14 rfl rfl ?_
    refine x_iconst (v := 0) dW_rest_15 rfl ?_
    refine x_istoren_3 dW_rest_16 rfl rfl ?_
    -- at 17: .iload_n 3
    have inner : ∀ (j p d : Nat) (I : IM) (r a4 : Int32), cOk I → (∀ k, 59 ≤ k → I k = I0 k) → p + j = pN (cE I) → d ≤ K →
        (∀ (I' : IM) (a5 : Value), cOk I' → (∀ k, 59 ≤ k → I' k = I0 k) → cE I' = (rsI K j p (cE I) d).1 → X mW_rest G (8, 0, 0) S1 I' L 64 [.ref 0, .int (nI K), .int (nI (rsI K j p (cE I) d).2), .int r, .int a4, a5] [] Post) →
        X mW_rest G (8, 0, 0) S1 I L 29 [.ref 0, .int (nI K), .int (nI d), .int r, .int a4, .int (nI p)] [] Post := by
      intro j
      induction j with
      | zero =>
        intro p d I r a4 ok st hp hd hc
        obtain rfl : p = pN (cE I) := by omega
        obtain ⟨c1, c2, -⟩ := ok.ppl
        refine x_iload dW_rest_29 rfl ?_
        refine x_aload_n dW_rest_31 rfl ?_
        refine x_getR fl_W_19 rfl dW_rest_32 rfl rfl rfl ?_
        refine x_getI fl_W_121 rfl dW_rest_35 rfl rfl ?_
        -- at 38: .if_icmp .ge 26
        rw [c1]
        refine x_icmp_ge (tgt := 64) dW_rest_38 (by decide) (fun _ => ?_) (fun h => absurd (Int32.le_refl _) h)
        exact hc I _ ok st rfl
      | succ j ih =>
        intro p d I r a4 ok st hp hd hc
        obtain ⟨c1, c2, -⟩ := ok.ppl
        refine x_iload dW_rest_29 rfl ?_
        refine x_aload_n dW_rest_31 rfl ?_
        refine x_getR fl_W_19 rfl dW_rest_32 rfl rfl rfl ?_
        refine x_getI fl_W_121 rfl dW_rest_35 rfl rfl ?_
        -- at 38: .if_icmp .ge 26
        rw [c1]
        refine x_icmp_ge (tgt := 64) dW_rest_38 (by decide) (fun h => absurd h (nI_ge (b := pN (cE I)) (by omega) (by omega))) (fun _ => ?_)
        refine x_iload_n dW_rest_41 rfl ?_
        refine x_iload_n dW_rest_42 rfl ?_
        -- at 43: .if_icmp .ge 21
        rw [rsI] at hc
        by_cases hdK : d < K
        · rw [if_pos hdK] at hc
          refine x_icmp_ge (tgt := 64) dW_rest_43 (by decide) (fun h => absurd h (nI_ge (b := K) (by omega) (by omega))) (fun _ => ?_)
          refine x_aload_n dW_rest_46 rfl ?_
          refine x_iload dW_rest_47 rfl ?_
          -- at 49: .invokevirtual 284
          refine x_callV_1 c_W_movesAway ok_W_movesAway ml_W_284 dW_rest_49 rfl rfl rfl rfl rfl ?_
          refine ⟨p, rfl, rfl, ok, by omega, fun g I' st' e' => ?_, fun g I' st' e' => ?_⟩
          · rw [if_pos g] at hc
            have ok' : cOk I' := by
              unfold cOk
              rw [e']
              exact Inv_mv ok p (Nat.lt_of_le_of_lt (leR_le _ 5) (by omega))
            refine x_if_eq (tgt := 58) dW_rest_52 (by decide) (fun h => absurd h (by decide)) (fun _ => ?_)
            refine x_iincp_2 dW_rest_55 rfl rfl ?_
            refine x_iincp_5 dW_rest_58 rfl rfl ?_
            refine x_goto (tgt := 29) dW_rest_61 (by decide) ?_
            -- at 29: .iload 5
            rw [nI_1, nI_1]
            refine ih (p + 1) (d + 1) I' r a4 ok' (fun k hk => (st' k hk).trans (st k hk)) (by rw [e', pN_go]; omega) (by omega) ?_
            rw [e']
            exact hc
          · rw [if_neg g] at hc
            have ok' : cOk I' := by
              unfold cOk
              rw [e']
              exact ok
            refine x_if_eq (tgt := 58) dW_rest_52 (by decide) (fun _ => ?_) (fun h => absurd (by decide) h)
            refine x_iincp_5 dW_rest_58 rfl rfl ?_
            refine x_goto (tgt := 29) dW_rest_61 (by decide) ?_
            -- at 29: .iload 5
            rw [nI_1]
            refine ih (p + 1) d I' r a4 ok' (fun k hk => (st' k hk).trans (st k hk)) (by rw [e']; omega) (by omega) ?_
            rw [e']
            exact hc
        · rw [if_neg hdK] at hc
          obtain rfl : d = K := by omega
          refine x_icmp_ge (tgt := 64) dW_rest_43 (by decide) (fun _ => ?_) (fun h => absurd (Int32.le_refl _) h)
          exact hc I _ ok st rfl
    have outer : ∀ (j r d : Nat) (I : IM) (a4 a5 : Value), cOk I → (∀ k, 59 ≤ k → I k = I0 k) → r + j = 7 → d ≤ K →
        (∀ I' : IM, (∀ k, 59 ≤ k → I' k = I0 k) → cE I' = (rsO K j (cE I) d).1 → Post (some (.int (nI (rsO K j (cE I) d).2))) S1 I' L) →
        X mW_rest G (8, 0, 0) S1 I L 17 [.ref 0, .int (nI K), .int (nI d), .int (nI r), a4, a5] [] Post := by
      intro j
      induction j with
      | zero =>
        intro r d I a4 a5 ok st hr hd hc
        obtain rfl : r = 7 := by omega
        refine x_iload_n dW_rest_17 rfl ?_
        refine x_bipush (v := 6) dW_rest_18 rfl ?_
        -- at 20: .if_icmp .gt 58
        refine x_icmp_gt (tgt := 78) dW_rest_20 (by decide) (fun _ => ?_) (fun h => absurd (show (6 : Int32) < nI 7 by decide) h)
        refine x_iload_n dW_rest_78 rfl ?_
        -- at 79: .ireturn
        refine x_ireturn dW_rest_79 rfl rfl ?_
        exact hc I st rfl
      | succ j ih =>
        intro r d I a4 a5 ok st hr hd hc
        refine x_iload_n dW_rest_17 rfl ?_
        refine x_bipush (v := 6) dW_rest_18 rfl ?_
        -- at 20: .if_icmp .gt 58
        refine x_icmp_gt (tgt := 78) dW_rest_20 (by decide) (fun h => absurd h (Int32.not_lt.mpr (nI_le (b := 6) (by omega) (by omega)))) (fun _ => ?_)
        refine x_iload_n dW_rest_23 rfl ?_
        refine x_istore_4 dW_rest_24 rfl rfl ?_
        refine x_iconst (v := 0) dW_rest_26 rfl ?_
        refine x_istore_5 dW_rest_27 rfl rfl ?_
        -- at 29: .iload 5
        have hz : (0 : Int32) = nI 0 := rfl
        rw [hz]
        refine inner (pN (cE I)) 0 d I _ _ ok st (by omega) hd fun I' b5 ok' st' e' => ?_
        have hle := rsI_le K (pN (cE I)) 0 (cE I) d hd
        rw [rsO] at hc
        refine x_iload_n dW_rest_64 rfl ?_
        refine x_iload dW_rest_65 rfl ?_
        -- at 67: .if_icmp .ne 5
        refine x_icmp_ne (tgt := 72) dW_rest_67 (by decide) (fun g => ?_) (fun g => ?_)
        · have g' : ¬ (rsI K (pN (cE I)) 0 (cE I) d).2 = d := fun z => g (by rw [z])
          rw [if_neg g'] at hc
          refine x_iincp_3 dW_rest_72 rfl rfl ?_
          refine x_goto (tgt := 17) dW_rest_75 (by decide) ?_
          -- at 17: .iload_n 3
          rw [nI_1]
          refine ih (r + 1) _ I' _ _ ok' st' (by omega) hle ?_
          rw [e']
          exact hc
        · have g' : (rsI K (pN (cE I)) 0 (cE I) d).2 = d := (nI_eq (by omega) (by omega)).mp g
          rw [if_pos g'] at hc
          refine x_iload_n dW_rest_70 rfl ?_
          -- at 71: .ireturn
          refine x_ireturn dW_rest_71 rfl rfl ?_
          exact hc I' st' e'
    exact outer 7 0 0 I0 _ _ hok (fun _ _ => rfl) (by omega) (by omega) h1
  · have a1 : ¬ inR k 0 6 := a1
    refine x_if_ne (tgt := 13) dW_rest_7 (by decide) (fun h => absurd (by decide) h) (fun _ => ?_)
    rw [restS, restU, if_pos a1, if_pos a1] at h1
    refine x_bipush (v := -2) dW_rest_10 rfl ?_
    -- at 12: .ireturn
    refine x_ireturn dW_rest_12 rfl rfl ?_
    exact h1 I0 (fun _ _ => rfl) rfl
