/-! the reference: in all, pain, done, kept -/
def sumQ (f : Nat → Int32) (n : Nat) : Int32 := match n with
  | 0 => 0
  | k + 1 => sumQ f k + f k
theorem cut_st (r : Int32) (o : Nat → Int32) (q : Nat) : ∀ d j, q < j → (cutR r o (j + d)).1 q = (cutR r o j).1 q := by
  intro d
  induction d with
  | zero => intro j _; rfl
  | succ k ih =>
    intro j hq
    rw [← Nat.add_assoc, cutR, cutS]
    dsimp only
    rw [up1_n _ _ (by omega), ih j hq]
theorem cut_sum (r : Int32) (o : Nat → Int32) (n : Nat) : ∀ j, j ≤ n → sumQ (cutR r o n).1 j = r - (cutR r o j).2.1 := by
  intro j
  induction j with
  | zero => intro _; simp [sumQ, cutR]
  | succ k ih =>
    intro h
    have e := cut_st r o k (n - (k + 1)) (k + 1) (by omega)
    rw [show k + 1 + (n - (k + 1)) = n by omega] at e
    rw [sumQ, ih (by omega), e, cutR, cutS]
    dsimp only
    rw [up1_s]
    grind
theorem tot_sum (V : IM) (D : Nat → Int32) (nq : Nat) (w : Int32) (m p : Nat) : sumQ (fin1 V D nq w m p).1 nq = tot1 V D nq w m p := cut_sum _ _ nq nq (Nat.le_refl _)
def sp_R_owedBy : SpT := fun as S I L Post => ∃ (p n nq : Nat) (Q : Nat → Nat → Int32), as = [.ref 59, .int (nI p)] ∧ S = S1 ∧ p < n ∧ n ≤ 8 ∧ I 59 12 = nI nq ∧ nq ≤ 8 ∧ RowR I n Q ∧ Post (some (.int (sumQ (Q p) nq))) S1 I L
set_option maxHeartbeats 4000000 in
set_option maxRecDepth 100000 in
theorem c_R_owedBy : Con mR_owedBy 2 0 0 sp_R_owedBy := by
  refine con_of_X rfl fun G as S I L Post hs => ?_
  obtain ⟨p, n, nq, Q, rfl, rfl, hp, hn8, hq, hq8, hr, h1⟩ := hs
  refine ⟨2, Nat.le_of_ble_eq_true rfl, ?_⟩
  show X mR_owedBy G _ S1 I L 0 [.ref 59, .int (nI p), .null, .null] [] Post
  refine x_iconst (v := 0) dR_owedBy_0 rfl ?_
  refine x_istoren_2 dR_owedBy_1 rfl rfl ?_
  refine x_iconst (v := 0) dR_owedBy_2 rfl ?_
  refine x_istoren_3 dR_owedBy_3 rfl rfl ?_
  -- at 4: .iload_n 3
  have loop : ∀ (k i : Nat) (acc : Int32), i + k = nq → acc = sumQ (Q p) i → X mR_owedBy G (2, 0, 0) S1 I L 4 [.ref 59, .int (nI p), .int acc, .int (nI i)] [] Post := by
    intro k
    induction k with
    | zero =>
      intro i acc hi ha
      obtain rfl : i = nq := by omega
      refine x_iload_n dR_owedBy_4 rfl ?_
      refine x_aload_n dR_owedBy_5 rfl ?_
      refine x_getI fl_R_155 rfl dR_owedBy_6 rfl rfl ?_
      -- at 9: .if_icmp .ge 23
      rw [hq]
      refine x_icmp_ge (tgt := 32) dR_owedBy_9 (by decide) (fun _ => ?_) (fun h => absurd (Int32.le_refl _) h)
      refine x_iload_n dR_owedBy_32 rfl ?_
      -- at 33: .ireturn
      refine x_ireturn dR_owedBy_33 rfl rfl ?_
      rw [ha]
      exact h1
    | succ k ih =>
      intro i acc hi ha
      refine x_iload_n dR_owedBy_4 rfl ?_
      refine x_aload_n dR_owedBy_5 rfl ?_
      refine x_getI fl_R_155 rfl dR_owedBy_6 rfl rfl ?_
      -- at 9: .if_icmp .ge 23
      rw [hq]
      refine x_icmp_ge (tgt := 32) dR_owedBy_9 (by decide) (fun h => absurd h (nI_ge (b := nq) (by omega) (by omega))) (fun _ => ?_)
      refine x_iload_n dR_owedBy_12 rfl ?_
      refine x_aload_n dR_owedBy_13 rfl ?_
      refine x_getR fl_R_122 rfl dR_owedBy_14 rfl rfl rfl ?_
      refine x_bipush (v := 8) dR_owedBy_17 rfl ?_
      refine x_iload_n dR_owedBy_19 rfl ?_
      refine x_imul dR_owedBy_20 ?_
      refine x_iload_n dR_owedBy_21 rfl ?_
      refine x_iadd dR_owedBy_22 ?_
      refine x_ialdJ dR_owedBy_23 rfl rfl (r8 p i) (by omega) ?_
      -- at 24: .iadd
      rw [show I 96 (p * 8 + i) = Q p i from hr p hp i (by omega)]
      refine x_iadd dR_owedBy_24 ?_
      refine x_istoren_2 dR_owedBy_25 rfl rfl ?_
      refine x_iincp_3 dR_owedBy_26 rfl rfl ?_
      refine x_goto (tgt := 4) dR_owedBy_29 (by decide) ?_
      -- at 4: .iload_n 3
      rw [nI_1]
      exact ih (i + 1) _ (by omega) (by rw [sumQ, ha])
  exact loop nq 0 0 (by omega) rfl
/-- what pain, done, kept rest on -/
def KpOk (I V : IM) (P : Nat → List Int32) (Q : Nat → Nat → Int32) (n nq : Nat) : Prop := (∃ m, VEq (rV I) V n m) ∧ I 59 3 = nI n ∧ n ≤ 8 ∧ I 59 12 = nI nq ∧ nq ≤ 8 ∧ RowR I n Q ∧ RTx I P
theorem KpOk.fr {I I' V : IM} {P : Nat → List Int32} {Q : Nat → Nat → Int32} {n nq : Nat} (h : KpOk I V P Q n nq) (hF : Fr [94, 95] I I') : KpOk I' V P Q n nq := by
  obtain ⟨⟨m, h1⟩, h2, h3, h4, h5, h6, h7⟩ := h
  refine ⟨⟨m, by rw [rV_fr (hF.wk (by decide))]; exact h1⟩, by rw [hF 59 (by decide)]; exact h2, h3, by rw [hF 59 (by decide)]; exact h4, h5, ?_, h7.fr (hF 59 (by decide)) (hF 79 (by decide)) (hF 80 (by decide))⟩
  unfold RowR
  rw [hF 96 (by decide)]
  exact h6
def TQ (Q : Nat → Nat → Int32) (nq : Nat) : Nat → Int32 := fun p => sumQ (Q p) nq
def sp_R_painOf : SpT := fun as S I L Post => ∃ (p n nq : Nat) (V : IM) (P : Nat → List Int32) (Q : Nat → Nat → Int32), as = [.ref 59, .int (nI p)] ∧ S = S1 ∧ p < n ∧ KpOk I V P Q n nq ∧ ∀ I' : IM, Fr [94, 95] I I' → Post (some (.int (painV V P (TQ Q nq) p))) S1 I' L
set_option maxHeartbeats 4000000 in
set_option maxRecDepth 100000 in
theorem c_R_painOf : Con mR_painOf 4 0 0 sp_R_painOf := by
  refine con_of_X rfl fun G as S I L Post hs => ?_
  obtain ⟨p, n, nq, V, P, Q, rfl, rfl, hp, ⟨⟨m, hV⟩, hn, hn8, hq, hq8, hr, hT⟩, h1⟩ := hs
  refine ⟨0, Nat.le_of_ble_eq_true rfl, ?_⟩
  show X mR_painOf G _ S1 I L 0 [.ref 59, .int (nI p)] [] Post
  have e4 : I 64 p = V 4 p := congrFun (hV.1 4 (by omega) (by omega)) p
  have e7 : I 67 p = V 7 p := congrFun (hV.1 7 (by omega) (by omega)) p
  refine x_aload_n dR_painOf_0 rfl ?_
  refine x_iconst (v := 0) dR_painOf_1 rfl ?_
  refine x_iconst (v := 0) dR_painOf_2 rfl ?_
  refine x_aload_n dR_painOf_3 rfl ?_
  refine x_getR fl_R_26 rfl dR_painOf_4 rfl rfl rfl ?_
  refine x_iload_n dR_painOf_7 rfl ?_
  refine x_ialdJ (j := p) dR_painOf_8 rfl rfl (by first | rfl | (simp only [← nI_add, ← pk_mul]; rfl)) (by omega) ?_
  refine x_aload_n dR_painOf_9 rfl ?_
  refine x_iload_n dR_painOf_10 rfl ?_
  -- at 11: .invokevirtual 298
  refine x_callV_1 c_R_owedBy ok_R_owedBy ml_R_298 dR_painOf_11 rfl rfl rfl rfl rfl ?_
  refine ⟨p, n, nq, Q, rfl, rfl, hp, hn8, hq, hq8, hr, ?_⟩
  refine x_iconst (v := 0) dR_painOf_14 rfl ?_
  refine x_aload_n dR_painOf_15 rfl ?_
  refine x_getR fl_R_35 rfl dR_painOf_16 rfl rfl rfl ?_
  refine x_iload_n dR_painOf_19 rfl ?_
  refine x_ialdJ (j := p) dR_painOf_20 rfl rfl (by first | rfl | (simp only [← nI_add, ← pk_mul]; rfl)) (by omega) ?_
  -- at 21: .invokevirtual 246
  refine x_callV_6 c_R_names ok_R_names ml_R_246 dR_painOf_21 rfl rfl rfl rfl rfl ?_
  refine ⟨_, _, _, _, _, _, rfl, rfl, fun I2 hF2 hn2 => ?_⟩
  refine x_aload_n dR_painOf_24 rfl ?_
  refine x_iconst (v := 2) dR_painOf_25 rfl ?_
  -- at 26: .invokevirtual 250
  refine x_callV_1 c_R_worthOf ok_R_worthOf ml_R_250 dR_painOf_26 rfl rfl rfl rfl rfl ?_
  refine ⟨2, P, rfl, rfl, by omega, hT.fr (hF2 59 (by decide)) (hF2 79 (by decide)) (hF2 80 (by decide)), fun I3 hF3 => ?_⟩
  refine x_iconst (v := 0) dR_painOf_29 rfl ?_
  refine x_sipush (v := 9999) dR_painOf_30 rfl ?_
  -- at 33: .invokestatic 253
  refine x_callS_3 c_R_within ok_R_within ml_R_253 dR_painOf_33 rfl rfl ?_
  refine ⟨_, _, _, rfl, by decide, ?_⟩
  refine x_ireturn dR_painOf_36 rfl rfl ?_
  obtain ⟨t, ht, ht6, htx⟩ := hT
  obtain ⟨a, -, -, -, -, hwf⟩ := htx 2 (by omega)
  have e : bnd (valP (I2 95) (P 2)) 9999 = painV V P (TQ Q nq) p := by
    unfold painV
    congr 1
    refine valP_congr (h := 0) (o := 1) (fun j hj => ?_) hwf
    rw [hn2 j hj, e4, e7]
    rfl
  have := h1 I3 ((hF2.wk (by decide)).tr (hF3.wk (by decide)))
  rw [← e] at this
  exact this
def sp_R_doneOf : SpT := fun as S I L Post => ∃ (q n nq : Nat) (V : IM) (P : Nat → List Int32) (Q : Nat → Nat → Int32), as = [.ref 59, .int (nI q)] ∧ S = S1 ∧ q < 8 ∧ KpOk I V P Q n nq ∧ Post (some (.int (doneV V n Q q))) S1 I L
set_option maxHeartbeats 4000000 in
set_option maxRecDepth 100000 in
theorem c_R_doneOf : Con mR_doneOf 3 0 0 sp_R_doneOf := by
  refine con_of_X rfl fun G as S I L Post hs => ?_
  obtain ⟨q, n, nq, V, P, Q, rfl, rfl, hq, ⟨⟨m, hV⟩, hn, hn8, -, -, hr, -⟩, h1⟩ := hs
  refine ⟨2, Nat.le_of_ble_eq_true rfl, ?_⟩
  show X mR_doneOf G _ S1 I L 0 [.ref 59, .int (nI q), .null, .null] [] Post
  have e11 : I 71 q = V 11 q := congrFun (hV.1 11 (by omega) (by omega)) q
  refine x_iconst (v := 0) dR_doneOf_0 rfl ?_
  refine x_istoren_2 dR_doneOf_1 rfl rfl ?_
  refine x_iconst (v := 0) dR_doneOf_2 rfl ?_
  refine x_istoren_3 dR_doneOf_3 rfl rfl ?_
  -- at 4: .iload_n 3
  have loop : ∀ (k i : Nat) (acc : Int32), i + k = n → acc = doneA V Q q i → X mR_doneOf G (3, 0, 0) S1 I L 4 [.ref 59, .int (nI q), .int acc, .int (nI i)] [] Post := by
    intro k
    induction k with
    | zero =>
      intro i acc hi ha
      obtain rfl : i = n := by omega
      refine x_iload_n dR_doneOf_4 rfl ?_
      refine x_aload_n dR_doneOf_5 rfl ?_
      refine x_getI fl_R_148 rfl dR_doneOf_6 rfl rfl ?_
      -- at 9: .if_icmp .ge 36
      rw [hn]
      refine x_icmp_ge (tgt := 45) dR_doneOf_9 (by decide) (fun _ => ?_) (fun h => absurd (Int32.le_refl _) h)
      refine x_iload_n dR_doneOf_45 rfl ?_
      refine x_aload_n dR_doneOf_46 rfl ?_
      refine x_getR fl_R_47 rfl dR_doneOf_47 rfl rfl rfl ?_
      refine x_iload_n dR_doneOf_50 rfl ?_
      refine x_ialdJ (j := q) dR_doneOf_51 rfl rfl (by first | rfl | (simp only [← nI_add, ← pk_mul]; rfl)) (by omega) ?_
      -- at 52: .if_icmp .ge 7
      rw [e11]
      unfold doneV at h1
      rw [imin_alt, ← ha] at h1
      refine x_icmp_ge (tgt := 59) dR_doneOf_52 (by decide) (fun c1 => ?_) (fun c1 => ?_)
      · refine x_aload_n dR_doneOf_59 rfl ?_
        refine x_getR fl_R_47 rfl dR_doneOf_60 rfl rfl rfl ?_
        refine x_iload_n dR_doneOf_63 rfl ?_
        refine x_ialdJ (j := q) dR_doneOf_64 rfl rfl (by first | rfl | (simp only [← nI_add, ← pk_mul]; rfl)) (by omega) ?_
        -- at 65: .ireturn
        refine x_ireturn dR_doneOf_65 rfl rfl ?_
        rw [e11]
        rw [if_neg (Int32.not_lt.mpr c1)] at h1
        exact h1
      · refine x_iload_n dR_doneOf_55 rfl ?_
        refine x_goto (tgt := 65) dR_doneOf_56 (by decide) ?_
        -- at 65: .ireturn
        refine x_ireturn dR_doneOf_65 rfl rfl ?_
        rw [if_pos (Int32.not_le.mp c1)] at h1
        exact h1
    | succ k ih =>
      intro i acc hi ha
      refine x_iload_n dR_doneOf_4 rfl ?_
      refine x_aload_n dR_doneOf_5 rfl ?_
      refine x_getI fl_R_148 rfl dR_doneOf_6 rfl rfl ?_
      -- at 9: .if_icmp .ge 36
      rw [hn]
      refine x_icmp_ge (tgt := 45) dR_doneOf_9 (by decide) (fun h => absurd h (nI_ge (b := n) (by omega) (by omega))) (fun _ => ?_)
      refine x_iload_n dR_doneOf_12 rfl ?_
      refine x_aload_n dR_doneOf_13 rfl ?_
      refine x_iload_n dR_doneOf_14 rfl ?_
      refine x_iload_n dR_doneOf_15 rfl ?_
      -- at 16: .invokevirtual 283
      refine x_callV_2 c_R_can ok_R_can ml_R_283 dR_doneOf_16 rfl rfl rfl rfl rfl ?_
      refine ⟨i, q, rfl, rfl, by omega, hq, fun g => ?_, fun g => ?_⟩
      · refine x_if_eq (tgt := 36) dR_doneOf_19 (by decide) (fun h => absurd h (by decide)) (fun _ => ?_)
        refine x_aload_n dR_doneOf_22 rfl ?_
        refine x_getR fl_R_122 rfl dR_doneOf_23 rfl rfl rfl ?_
        refine x_bipush (v := 8) dR_doneOf_26 rfl ?_
        refine x_iload_n dR_doneOf_28 rfl ?_
        refine x_imul dR_doneOf_29 ?_
        refine x_iload_n dR_doneOf_30 rfl ?_
        refine x_iadd dR_doneOf_31 ?_
        refine x_ialdJ dR_doneOf_32 rfl rfl (r8 i q) (by omega) ?_
        -- at 33: .goto 4
        rw [show I 96 (i * 8 + q) = Q i q from hr i (by omega) q hq]
        refine x_goto (tgt := 37) dR_doneOf_33 (by decide) ?_
        refine x_iadd dR_doneOf_37 ?_
        refine x_istoren_2 dR_doneOf_38 rfl rfl ?_
        refine x_iincp_3 dR_doneOf_39 rfl rfl ?_
        refine x_goto (tgt := 4) dR_doneOf_42 (by decide) ?_
        -- at 4: .iload_n 3
        rw [nI_1]
        refine ih (i + 1) _ (by omega) ?_
        rw [can_eq hV] at g
        rw [doneA, if_pos g, ha]
      · refine x_if_eq (tgt := 36) dR_doneOf_19 (by decide) (fun _ => ?_) (fun h => absurd (by decide) h)
        refine x_iconst (v := 0) dR_doneOf_36 rfl ?_
        refine x_iadd dR_doneOf_37 ?_
        refine x_istoren_2 dR_doneOf_38 rfl rfl ?_
        refine x_iincp_3 dR_doneOf_39 rfl rfl ?_
        refine x_goto (tgt := 4) dR_doneOf_42 (by decide) ?_
        -- at 4: .iload_n 3
        rw [nI_1]
        refine ih (i + 1) _ (by omega) ?_
        rw [can_eq hV] at g
        rw [doneA, if_neg g, ha, Int32.add_zero]
  exact loop n 0 0 (by omega) rfl
def sp_R_isKept : SpT := fun as S I L Post => ∃ (q n nq : Nat) (V : IM) (P : Nat → List Int32) (Q : Nat → Nat → Int32), as = [.ref 59, .int (nI q)] ∧ S = S1 ∧ q < 8 ∧ KpOk I V P Q n nq ∧ bPost (keepsV V n Q q = true) S1 I L Post
set_option maxHeartbeats 4000000 in
set_option maxRecDepth 100000 in
theorem c_R_isKept : Con mR_isKept 4 0 0 sp_R_isKept := by
  refine con_of_X rfl fun G as S I L Post hs => ?_
  obtain ⟨q, n, nq, V, P, Q, rfl, rfl, hq, hk, h1, h2⟩ := hs
  refine ⟨0, Nat.le_of_ble_eq_true rfl, ?_⟩
  show X mR_isKept G _ S1 I L 0 [.ref 59, .int (nI q)] [] Post
  have e11 : I 71 q = V 11 q := by
    obtain ⟨⟨m, hV⟩, -⟩ := hk
    exact congrFun (hV.1 11 (by omega) (by omega)) q
  refine x_aload_n dR_isKept_0 rfl ?_
  refine x_iload_n dR_isKept_1 rfl ?_
  -- at 2: .invokevirtual 304
  refine x_callV_1 c_R_doneOf ok_R_doneOf ml_R_304 dR_isKept_2 rfl rfl rfl rfl rfl ?_
  refine ⟨q, n, nq, V, P, Q, rfl, rfl, hq, hk, ?_⟩
  refine x_aload_n dR_isKept_5 rfl ?_
  refine x_getR fl_R_47 rfl dR_isKept_6 rfl rfl rfl ?_
  refine x_iload_n dR_isKept_9 rfl ?_
  refine x_ialdJ (j := q) dR_isKept_10 rfl rfl (by first | rfl | (simp only [← nI_add, ← pk_mul]; rfl)) (by omega) ?_
  -- at 11: .if_icmp .ne 7
  rw [e11]
  refine x_icmp_ne (tgt := 18) dR_isKept_11 (by decide) (fun c1 => ?_) (fun c1 => ?_)
  · refine x_iconst (v := 0) dR_isKept_18 rfl ?_
    -- at 19: .ireturn
    refine x_ireturn dR_isKept_19 rfl rfl ?_
    exact h2 (fun z => c1 (of_decide_eq_true z))
  · refine x_iconst (v := 1) dR_isKept_14 rfl ?_
    refine x_goto (tgt := 19) dR_isKept_15 (by decide) ?_
    -- at 19: .ireturn
    refine x_ireturn dR_isKept_19 rfl rfl ?_
    exact h1 (decide_eq_true c1)
def sp_R_keptNow : SpT := fun as S I L Post => ∃ (n nq : Nat) (V : IM) (P : Nat → List Int32) (Q : Nat → Nat → Int32), as = [.ref 59] ∧ S = S1 ∧ KpOk I V P Q n nq ∧ Post (some (.int (keptV V n nq Q))) S1 I L
set_option maxHeartbeats 4000000 in
set_option maxRecDepth 100000 in
theorem c_R_keptNow : Con mR_keptNow 5 0 0 sp_R_keptNow := by
  refine con_of_X rfl fun G as S I L Post hs => ?_
  obtain ⟨n, nq, V, P, Q, rfl, rfl, hk, h1⟩ := hs
  have hq8 := hk.2.2.2.2.1
  have hq := hk.2.2.2.1
  refine ⟨2, Nat.le_of_ble_eq_true rfl, ?_⟩
  show X mR_keptNow G _ S1 I L 0 [.ref 59, .null, .null] [] Post
  refine x_iconst (v := 0) dR_keptNow_0 rfl ?_
  refine x_istoren_1 dR_keptNow_1 rfl rfl ?_
  refine x_iconst (v := 0) dR_keptNow_2 rfl ?_
  refine x_istoren_2 dR_keptNow_3 rfl rfl ?_
  -- at 4: .iload_n 2
  have loop : ∀ (k i : Nat) (acc : Int32), i + k = nq → acc = bs i (keepsV V n Q) → X mR_keptNow G (5, 0, 0) S1 I L 4 [.ref 59, .int acc, .int (nI i)] [] Post := by
    intro k
    induction k with
    | zero =>
      intro i acc hi ha
      obtain rfl : i = nq := by omega
      refine x_iload_n dR_keptNow_4 rfl ?_
      refine x_aload_n dR_keptNow_5 rfl ?_
      refine x_getI fl_R_155 rfl dR_keptNow_6 rfl rfl ?_
      -- at 9: .if_icmp .ge 27
      rw [hq]
      refine x_icmp_ge (tgt := 36) dR_keptNow_9 (by decide) (fun _ => ?_) (fun h => absurd (Int32.le_refl _) h)
      refine x_iload_n dR_keptNow_36 rfl ?_
      -- at 37: .ireturn
      refine x_ireturn dR_keptNow_37 rfl rfl ?_
      rw [ha]
      exact h1
    | succ k ih =>
      intro i acc hi ha
      refine x_iload_n dR_keptNow_4 rfl ?_
      refine x_aload_n dR_keptNow_5 rfl ?_
      refine x_getI fl_R_155 rfl dR_keptNow_6 rfl rfl ?_
      -- at 9: .if_icmp .ge 27
      rw [hq]
      refine x_icmp_ge (tgt := 36) dR_keptNow_9 (by decide) (fun h => absurd h (nI_ge (b := nq) (by omega) (by omega))) (fun _ => ?_)
      refine x_iload_n dR_keptNow_12 rfl ?_
      refine x_aload_n dR_keptNow_13 rfl ?_
      refine x_iload_n dR_keptNow_14 rfl ?_
      -- at 15: .invokevirtual 307
      refine x_callV_1 c_R_isKept ok_R_isKept ml_R_307 dR_keptNow_15 rfl rfl rfl rfl rfl ?_
      refine ⟨i, n, nq, V, P, Q, rfl, rfl, by omega, hk, fun z => ?_, fun z => ?_⟩
      · refine x_if_eq (tgt := 27) dR_keptNow_18 (by decide) (fun h => absurd h (by decide)) (fun _ => ?_)
        refine x_iconst (v := 1) dR_keptNow_21 rfl ?_
        refine x_iload_n dR_keptNow_22 rfl ?_
        refine x_ishl dR_keptNow_23 ?_
        refine x_goto (tgt := 28) dR_keptNow_24 (by decide) ?_
        refine x_ior dR_keptNow_28 ?_
        refine x_istoren_1 dR_keptNow_29 rfl rfl ?_
        refine x_iincp_2 dR_keptNow_30 rfl rfl ?_
        refine x_goto (tgt := 4) dR_keptNow_33 (by decide) ?_
        -- at 4: .iload_n 2
        rw [nI_1]
        refine ih (i + 1) _ (by omega) ?_
        rw [bs, if_pos z, ha]
        rfl
      · refine x_if_eq (tgt := 27) dR_keptNow_18 (by decide) (fun _ => ?_) (fun h => absurd (by decide) h)
        refine x_iconst (v := 0) dR_keptNow_27 rfl ?_
        refine x_ior dR_keptNow_28 ?_
        -- at 29: .istore_n 1
        refine x_eqi (y := acc) (by simp) ?_
        refine x_istoren_1 dR_keptNow_29 rfl rfl ?_
        refine x_iincp_2 dR_keptNow_30 rfl rfl ?_
        refine x_goto (tgt := 4) dR_keptNow_33 (by decide) ?_
        -- at 4: .iload_n 2
        rw [nI_1]
        refine ih (i + 1) _ (by omega) ?_
        rw [bs, if_neg z, ha]
  exact loop nq 0 0 (by omega) rfl
def sp_R_worthNow : SpT := fun as S I L Post => ∃ (n nq : Nat) (V : IM) (P : Nat → List Int32) (Q : Nat → Nat → Int32), as = [.ref 59] ∧ S = S1 ∧ KpOk I V P Q n nq ∧ Post (some (.int (worthV V n Q nq))) S1 I L
set_option maxHeartbeats 4000000 in
set_option maxRecDepth 100000 in
theorem c_R_worthNow : Con mR_worthNow 5 0 0 sp_R_worthNow := by
  refine con_of_X rfl fun G as S I L Post hs => ?_
  obtain ⟨n, nq, V, P, Q, rfl, rfl, hk, h1⟩ := hs
  have hq8 := hk.2.2.2.2.1
  have hq := hk.2.2.2.1
  have e12 : I 72 = V 12 := by
    obtain ⟨⟨m, hV⟩, -⟩ := hk
    exact hV.1 12 (by omega) (by omega)
  refine ⟨2, Nat.le_of_ble_eq_true rfl, ?_⟩
  show X mR_worthNow G _ S1 I L 0 [.ref 59, .null, .null] [] Post
  refine x_iconst (v := 0) dR_worthNow_0 rfl ?_
  refine x_istoren_1 dR_worthNow_1 rfl rfl ?_
  refine x_iconst (v := 0) dR_worthNow_2 rfl ?_
  refine x_istoren_2 dR_worthNow_3 rfl rfl ?_
  -- at 4: .iload_n 2
  have loop : ∀ (k i : Nat) (acc : Int32), i + k = nq → acc = worthV V n Q i → X mR_worthNow G (5, 0, 0) S1 I L 4 [.ref 59, .int acc, .int (nI i)] [] Post := by
    intro k
    induction k with
    | zero =>
      intro i acc hi ha
      obtain rfl : i = nq := by omega
      refine x_iload_n dR_worthNow_4 rfl ?_
      refine x_aload_n dR_worthNow_5 rfl ?_
      refine x_getI fl_R_155 rfl dR_worthNow_6 rfl rfl ?_
      -- at 9: .if_icmp .ge 30
      rw [hq]
      refine x_icmp_ge (tgt := 39) dR_worthNow_9 (by decide) (fun _ => ?_) (fun h => absurd (Int32.le_refl _) h)
      refine x_iload_n dR_worthNow_39 rfl ?_
      -- at 40: .ireturn
      refine x_ireturn dR_worthNow_40 rfl rfl ?_
      rw [ha]
      exact h1
    | succ k ih =>
      intro i acc hi ha
      refine x_iload_n dR_worthNow_4 rfl ?_
      refine x_aload_n dR_worthNow_5 rfl ?_
      refine x_getI fl_R_155 rfl dR_worthNow_6 rfl rfl ?_
      -- at 9: .if_icmp .ge 30
      rw [hq]
      refine x_icmp_ge (tgt := 39) dR_worthNow_9 (by decide) (fun h => absurd h (nI_ge (b := nq) (by omega) (by omega))) (fun _ => ?_)
      refine x_iload_n dR_worthNow_12 rfl ?_
      refine x_aload_n dR_worthNow_13 rfl ?_
      refine x_iload_n dR_worthNow_14 rfl ?_
      -- at 15: .invokevirtual 307
      refine x_callV_1 c_R_isKept ok_R_isKept ml_R_307 dR_worthNow_15 rfl rfl rfl rfl rfl ?_
      refine ⟨i, n, nq, V, P, Q, rfl, rfl, by omega, hk, fun z => ?_, fun z => ?_⟩
      · refine x_if_eq (tgt := 30) dR_worthNow_18 (by decide) (fun h => absurd h (by decide)) (fun _ => ?_)
        refine x_aload_n dR_worthNow_21 rfl ?_
        refine x_getR fl_R_50 rfl dR_worthNow_22 rfl rfl rfl ?_
        refine x_iload_n dR_worthNow_25 rfl ?_
        refine x_ialdJ (j := i) dR_worthNow_26 rfl rfl (by first | rfl | (simp only [← nI_add, ← pk_mul]; rfl)) (by omega) ?_
        -- at 27: .goto 4
        rw [e12]
        refine x_goto (tgt := 31) dR_worthNow_27 (by decide) ?_
        refine x_iadd dR_worthNow_31 ?_
        refine x_istoren_1 dR_worthNow_32 rfl rfl ?_
        refine x_iincp_2 dR_worthNow_33 rfl rfl ?_
        refine x_goto (tgt := 4) dR_worthNow_36 (by decide) ?_
        -- at 4: .iload_n 2
        rw [nI_1]
        refine ih (i + 1) _ (by omega) ?_
        rw [worthV, if_pos z, ha]
      · refine x_if_eq (tgt := 30) dR_worthNow_18 (by decide) (fun _ => ?_) (fun h => absurd (by decide) h)
        refine x_iconst (v := 0) dR_worthNow_30 rfl ?_
        refine x_iadd dR_worthNow_31 ?_
        refine x_istoren_1 dR_worthNow_32 rfl rfl ?_
        refine x_iincp_2 dR_worthNow_33 rfl rfl ?_
        refine x_goto (tgt := 4) dR_worthNow_36 (by decide) ?_
        -- at 4: .iload_n 2
        rw [nI_1]
        refine ih (i + 1) _ (by omega) ?_
        rw [worthV, if_neg z, ha, Int32.add_zero]
  exact loop nq 0 0 (by omega) rfl
def sp_R_painNow : SpT := fun as S I L Post => ∃ (n nq : Nat) (V : IM) (P : Nat → List Int32) (Q : Nat → Nat → Int32), as = [.ref 59] ∧ S = S1 ∧ KpOk I V P Q n nq ∧ ∀ I' : IM, Fr [94, 95] I I' → Post (some (.int (painA V P (TQ Q nq) n))) S1 I' L
set_option maxHeartbeats 4000000 in
set_option maxRecDepth 100000 in
theorem c_R_painNow : Con mR_painNow 5 0 0 sp_R_painNow := by
  refine con_of_X rfl fun G as S I L Post hs => ?_
  obtain ⟨n, nq, V, P, Q, rfl, rfl, hk, h1⟩ := hs
  refine ⟨2, Nat.le_of_ble_eq_true rfl, ?_⟩
  show X mR_painNow G _ S1 I L 0 [.ref 59, .null, .null] [] Post
  refine x_iconst (v := 0) dR_painNow_0 rfl ?_
  refine x_istoren_1 dR_painNow_1 rfl rfl ?_
  refine x_iconst (v := 0) dR_painNow_2 rfl ?_
  refine x_istoren_2 dR_painNow_3 rfl rfl ?_
  -- at 4: .iload_n 2
  have loop : ∀ (k i : Nat) (acc : Int32) (I' : IM), i + k = n → acc = painA V P (TQ Q nq) i → Fr [94, 95] I I' → X mR_painNow G (5, 0, 0) S1 I' L 4 [.ref 59, .int acc, .int (nI i)] [] Post := by
    intro k
    induction k with
    | zero =>
      intro i acc I' hi ha hF
      obtain rfl : i = n := by omega
      refine x_iload_n dR_painNow_4 rfl ?_
      refine x_aload_n dR_painNow_5 rfl ?_
      refine x_getI fl_R_148 rfl dR_painNow_6 rfl rfl ?_
      -- at 9: .if_icmp .ge 17
      rw [hF 59 (by decide), hk.2.1]
      refine x_icmp_ge (tgt := 26) dR_painNow_9 (by decide) (fun _ => ?_) (fun h => absurd (Int32.le_refl _) h)
      refine x_iload_n dR_painNow_26 rfl ?_
      -- at 27: .ireturn
      refine x_ireturn dR_painNow_27 rfl rfl ?_
      rw [ha]
      exact h1 I' hF
    | succ k ih =>
      intro i acc I' hi ha hF
      have hn8 := hk.2.2.1
      refine x_iload_n dR_painNow_4 rfl ?_
      refine x_aload_n dR_painNow_5 rfl ?_
      refine x_getI fl_R_148 rfl dR_painNow_6 rfl rfl ?_
      -- at 9: .if_icmp .ge 17
      rw [hF 59 (by decide), hk.2.1]
      refine x_icmp_ge (tgt := 26) dR_painNow_9 (by decide) (fun h => absurd h (nI_ge (b := n) (by omega) (by omega))) (fun _ => ?_)
      refine x_iload_n dR_painNow_12 rfl ?_
      refine x_aload_n dR_painNow_13 rfl ?_
      refine x_iload_n dR_painNow_14 rfl ?_
      -- at 15: .invokevirtual 301
      refine x_callV_1 c_R_painOf ok_R_painOf ml_R_301 dR_painNow_15 rfl rfl rfl rfl rfl ?_
      refine ⟨i, n, nq, V, P, Q, rfl, rfl, by omega, hk.fr hF, fun I2 hF2 => ?_⟩
      refine x_iadd dR_painNow_18 ?_
      refine x_istoren_1 dR_painNow_19 rfl rfl ?_
      refine x_iincp_2 dR_painNow_20 rfl rfl ?_
      refine x_goto (tgt := 4) dR_painNow_23 (by decide) ?_
      -- at 4: .iload_n 2
      rw [nI_1]
      exact ih (i + 1) _ I2 (by omega) (by rw [painA, ha]) (hF.tr hF2)
  exact loop n 0 0 I (by omega) rfl Fr.rfl
/-! from the state to what the reckoning rests on -/
theorem rTxt {I : IM} (h : Inv (rE I)) {t : Nat} (ht : t < tN (rE I)) : TxtR I (prog (rE I) t) t := by
  obtain ⟨h1, h2, h3, h4⟩ := h.d
  obtain ⟨a1, a2, b0, b1, b2, a3, a4⟩ := h4 t ht
  have st : ∀ j, j < 4 → rE I 30 (4 * t + j) = I 80 (4 * t + j) := fun j hj => by
    have htt : t < cl (I 59 26) := ht
    exact mk_lt (by omega)
  refine ⟨by omega, fun j hj => ⟨sA (rE I) t j, ?_, ?_, ?_, ?_, a4 j hj⟩⟩
  · rw [← st j (by omega), a1 j (by omega)]
  · rw [Nat.add_assoc, ← st (j + 1) (by omega), a1 (j + 1) (by omega)]
    have hle : sA (rE I) t j ≤ sA (rE I) t (j + 1) := by
      rcases (show j = 0 ∨ j = 1 ∨ j = 2 by omega) with rfl | rfl | rfl
      · exact b0
      · exact b1
      · exact b2
    congr 1
    simp [prog, seg]
    omega
  · have hle : sA (rE I) t (j + 1) ≤ 160 := by
      rcases (show j = 0 ∨ j = 1 ∨ j = 2 by omega) with rfl | rfl | rfl
      · exact Nat.le_trans b1 (Nat.le_trans b2 a3)
      · exact Nat.le_trans b2 a3
      · exact a3
    have hle2 : sA (rE I) t j ≤ sA (rE I) t (j + 1) := by
      rcases (show j = 0 ∨ j = 1 ∨ j = 2 by omega) with rfl | rfl | rfl
      · exact b0
      · exact b1
      · exact b2
    simp [prog, seg]
    omega
  · intro i hi
    have hi2 : i < sA (rE I) t (j + 1) - sA (rE I) t j := by simpa [prog, seg] using hi
    have hle : sA (rE I) t (j + 1) ≤ sA (rE I) t 3 := by
      rcases (show j = 0 ∨ j = 1 ∨ j = 2 by omega) with rfl | rfl | rfl
      · exact Nat.le_trans b1 b2
      · exact b2
      · exact Nat.le_refl _
    have e1 : (prog (rE I) t j).getD i 0 = rE I 31 (200 * t + (sA (rE I) t j + i)) := by
      simp [prog, seg, List.getD_eq_getElem?_getD, hi2]
    rw [e1]
    have d1 : (200 * t + (sA (rE I) t j + i)) / 200 = t := by omega
    have d2 : (200 * t + (sA (rE I) t j + i)) % 200 = sA (rE I) t j + i := by omega
    have e3 : cl (I 80 (4 * t + 3)) = sA (rE I) t 3 := by
      rw [← st 3 (by omega)]
      rfl
    show _ = if (200 * t + (sA (rE I) t j + i)) / 200 < cl (I 59 26) ∧ (200 * t + (sA (rE I) t j + i)) % 200 < cl (I 80 (4 * ((200 * t + (sA (rE I) t j + i)) / 200) + 3)) then I 79 (200 * t + (sA (rE I) t j + i)) else 0
    rw [d1, d2, e3, if_pos ⟨ht, by omega⟩]
theorem rRTx {I : IM} (h : Inv (rE I)) : RTx I (PE (rE I)) := ⟨wN (rE I), h.f.1, rTxt h h.f.2⟩
theorem rRk {I : IM} (h : Inv (rE I)) : RkOk I (PE (rE I)) (pN (rE I)) (sN (rE I)) :=
  ⟨h.a.1, h.a.2.1, Nat.le_trans h.c.2.1 (by omega), fun _ hp => perV_of h.a rfl (rVE I) hp, fun _ hs => sayV_of h.b.2.1 h.c rfl (rVE I) hs, rRTx h⟩
theorem rOw {I : IM} (h : Inv (rE I)) (m : Nat) : OwOk I (pN (rE I)) m (qN (rE I)) := by
  refine ⟨h.b.1, h.b.2.1, fun j hj => (h.b.2.2 j hj).2.2.2, fun p hp => (h.a.2.2 p hp).2.2.2.2.2.2.1⟩
theorem rowesR_eq {V E : IM} {n m : Nat} (h : VEq V E n m) {D D' : Nat → Nat → Int32} {nq : Nat} {w : Int32} {k : Nat} (hk : k ≤ m) (hD : ∀ p, p < n → ∀ s, s < k → D p s = D' p s) {I' : IM} (ho : OwesR V D n nq w k I') : OwesR E D' n nq w k I' := by
  have e1 : ∀ p, p < n → str1 V (D p) nq w k = str1 E (D' p) nq w k := fun p hp => by
    unfold str1
    rw [maxR_eq h (D' := D' p) k hk (hD p hp), strR_eq h]
  have e2 : ∀ p, p < n → fin1 V (D p) nq w k p = fin1 E (D' p) nq w k p := fun p hp => by
    unfold fin1
    rw [maxR_eq h (D' := D' p) k hk (hD p hp), strR_eq h, h.1 8 (by omega) (by omega)]
  refine ⟨fun p hp q hq => ?_, fun p hp => ?_⟩
  · rw [ho.1 p hp q hq]
    dsimp only
    rw [e2 p hp]
  · rw [← e1 p hp, ← e2 p hp]
    exact ho.2 p hp
/-- what is owed, of rows V -/
abbrev OwesV (V : IM) (P : Nat → List Int32) (n nq : Nat) (w : Int32) (m : Nat) (I' : IM) : Prop := OwesR V (DD V P (CC V P n)) n nq w m I'
def QV (V : IM) (P : Nat → List Int32) (n nq : Nat) (w : Int32) (m : Nat) : Nat → Nat → Int32 := fun p => (fin1 V (DD V P (CC V P n) p) nq w m p).1
theorem QV_tot (V : IM) (P : Nat → List Int32) (n nq : Nat) (w : Int32) (m p : Nat) : TQ (QV V P n nq w m) nq p = tot1 V (DD V P (CC V P n) p) nq w m p := tot_sum _ _ _ _ _ _
def sp_R_owesE : SpT := fun as S I L Post => ∃ (m n nq : Nat) (w : Int32) (P : Nat → List Int32) (V : IM), as = [.ref 59, .int (nI m)] ∧ S = S1 ∧ RkOk I P n m ∧ OwOk I n m nq ∧ I 59 60 = w ∧ I 59 55 = 0 ∧ VEq (rV I) V n m ∧
  ∀ (I' : IM) (L' : LM), Fr [94, 95, 96, 97, 98] I I' → OwesV V P n nq w m I' → KpOk I' V P (QV V P n nq w m) n nq → Post none S1 I' L'
theorem cE_R_owes : Con mR_owes 8 0 0 sp_R_owesE := c_R_owes.imp fun as S I L Post hs => by
  obtain ⟨m, n, nq, w, P, V, rfl, rfl, hR, hW, hw, hd, hV, h1⟩ := hs
  refine ⟨m, n, nq, w, P, CC (rV I) P n, rfl, rfl, hR, hW, hw, Or.inr hd, Or.inl ⟨hd, rfl⟩, fun I' L' hF ho => ?_⟩
  have ho2 := rowesR_eq (D' := DD V P (CC V P n)) hV (Nat.le_refl m) (fun p hp s hs => by unfold DD; rw [share_eq hV _ hs, CC_eq hV _ hs]) ho
  exact h1 I' L' hF ho2 ⟨⟨m, by rw [rV_fr (hF.wk (by decide))]; exact hV⟩, by rw [hF 59 (by decide)]; exact hR.1, hR.2.1, by rw [hF 59 (by decide)]; exact hW.1, hW.2.1, ho2.1, hR.2.2.2.2.2.fr (hF 59 (by decide)) (hF 79 (by decide)) (hF 80 (by decide))⟩
