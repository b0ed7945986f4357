/-! the class's calls: movesAway, rest -/
theorem Inv_mv {E : IM} (h : Inv E) (p : Nat) {u : Nat} (hu : u < 6) : Inv (up2 E 9 p (nI u)) := by
  have e : ∀ a, a ≠ 9 → up2 E 9 p (nI u) a = E a := fun a ha => up2_n _ _ _ ha
  have e9 : ∀ x, up2 E 9 p (nI u) 9 x = E 9 x ∨ up2 E 9 p (nI u) 9 x = nI u := fun x => by
    rw [up2_s]
    unfold up1
    by_cases z : x = p <;> simp [z]
  generalize up2 E 9 p (nI u) = E' at e e9 ⊢
  obtain ⟨⟨a1, a2, a3⟩, h2, h3, h4, h5, h6, h7, h8⟩ := h
  have pn : pN E' = pN E := by unfold pN; rw [e 29 (by decide)]
  have qn : qN E' = qN E := by unfold qN; rw [e 29 (by decide)]
  have sn' : sN E' = sN E := by unfold sN; rw [e 29 (by decide)]
  have tn' : tN E' = tN E := by unfold tN; rw [e 29 (by decide)]
  have wn : wN E' = wN E := by unfold wN; rw [e 29 (by decide)]
  have zn : zN E' = zN E := by unfold zN; rw [e 29 (by decide)]
  have sa : sA E' = sA E := by funext t j; unfold sA; rw [e 30 (by decide)]
  have sg : seg E' = seg E := by funext t a b; unfold seg; rw [e 31 (by decide)]
  have tx : TextOk E' = TextOk E := by funext t; unfold TextOk; rw [sa, sg, e 30 (by decide)]
  have pq : PromiseOk E' = PromiseOk E := by funext q; unfold PromiseOk; rw [e 10 (by decide), e 11 (by decide), e 12 (by decide), e 13 (by decide)]
  unfold Inv
  rw [pn, qn, sn', tn', wn, zn, tx, pq, e 29 (by decide), e 14 (by decide), e 15 (by decide), e 16 (by decide), e 17 (by decide), e 18 (by decide), e 21 (by decide), e 22 (by decide), e 23 (by decide), e 24 (by decide), e 25 (by decide), e 26 (by decide), e 27 (by decide)]
  refine ⟨⟨a1, a2, fun x hx => ?_⟩, h2, h3, h4, h5, h6, h7, h8⟩
  obtain ⟨x1, x2, x3, x4, x5, x6, x7, x8⟩ := a3 x hx
  unfold PersonOk
  rw [e 2 (by decide), e 3 (by decide), e 4 (by decide), e 5 (by decide), e 6 (by decide), e 7 (by decide), e 8 (by decide)]
  refine ⟨x1, x2, x3, x4, x5, x6, x7, ?_⟩
  rcases e9 x with z | z
  · rw [z]; exact x8
  · rw [z]; exact Or.inr ⟨u, hu, rfl⟩
theorem start_nat {E : IM} (h : Inv E) {p : Nat} (hp : p < pN E) : ∃ b, b < 6 ∧ startV E p = nI b := by
  obtain ⟨⟨a1, a2, a3⟩, -⟩ := h
  obtain ⟨x1, x2, x3, x4, x5, x6, x7, x8⟩ := a3 p hp
  unfold startV
  split
  · exact x2
  · rcases x8 with z | z
    · contradiction
    · exact z
def goE (E : IM) (p : Nat) : Nat := leR (totE E p) 5
abbrev goB (E : IM) (p : Nat) : Prop := totE E p (goE E p) < totE E p (cl (startV E p))
def goU (E : IM) (p : Nat) : IM := up2 E 9 p (nI (goE E p))
def sp_W_movesAway : SpT := fun as S I L Post => ∃ p : Nat, as = [.ref 0, .int (nI p)] ∧ S = S1 ∧ cOk I ∧ p < pN (cE I) ∧
  (goB (cE I) p → ∀ I' : IM, (∀ k, 59 ≤ k → I' k = I k) → cE I' = goU (cE I) p → Post (some (.int 1)) S1 I' L) ∧
  (¬ goB (cE I) p → ∀ I' : IM, (∀ k, 59 ≤ k → I' k = I k) → cE I' = cE I → Post (some (.int 0)) S1 I' L)
set_option maxHeartbeats 4000000 in
set_option maxRecDepth 100000 in
theorem c_W_movesAway : Con mW_movesAway 7 0 0 sp_W_movesAway := by
  refine con_of_X rfl fun G as S I L Post hs => ?_
  obtain ⟨p, rfl, rfl, hok, hp, h1, h2⟩ := hs
  refine ⟨1, Nat.le_of_ble_eq_true rfl, ?_⟩
  show X mW_movesAway G _ S1 I L 0 [.ref 0, .int (nI p), .null] [] Post
  obtain ⟨c1, c2, -⟩ := hok.ppl
  obtain ⟨l1, l2⟩ := hok.law
  obtain ⟨b, hb, eb⟩ := start_nat hok hp
  refine x_aload_n dW_movesAway_0 rfl ?_
  refine x_getR fl_W_56 rfl dW_movesAway_1 rfl rfl rfl ?_
  refine x_aload_n dW_movesAway_4 rfl ?_
  refine x_getR fl_W_47 rfl dW_movesAway_5 rfl rfl rfl ?_
  refine x_getI fl_W_127 rfl dW_movesAway_8 rfl rfl ?_
  -- at 11: .invokevirtual 205
  rw [l1]
  refine x_callV_1 cE_listen ok_Ledger_listen ml_W_205 dW_movesAway_11 rfl rfl rfl rfl rfl ?_
  refine ⟨_, rfl, rfl, hok, l2, fun I1 hF1 hl hh _ => ?_⟩
  refine x_aload_n dW_movesAway_14 rfl ?_
  refine x_getR fl_W_56 rfl dW_movesAway_15 rfl rfl rfl ?_
  refine x_iload_n dW_movesAway_18 rfl ?_
  -- at 19: .invokevirtual 271
  refine x_callV_1 cE_tryPlaces ok_Ledger_tryPlaces ml_W_271 dW_movesAway_19 rfl rfl rfl rfl rfl ?_
  refine ⟨p, I, rfl, rfl, hok, hp, hF1, hl, hh, fun I2 hF2 ht => ?_⟩
  have hle : goE (cE I) p ≤ 5 := leR_le (totE (cE I) p) 5
  refine x_aload_n dW_movesAway_22 rfl ?_
  refine x_getR fl_W_56 rfl dW_movesAway_23 rfl rfl rfl ?_
  refine x_getR fl_W_274 rfl dW_movesAway_26 rfl rfl rfl ?_
  -- at 29: .invokestatic 277
  refine x_callS_1 c_W_leastOf ok_W_leastOf ml_W_277 dW_movesAway_29 rfl rfl ?_
  refine ⟨rfl, rfl, ?_⟩
  rw [leR_congr (g := totE (cE I) p) 5 (fun u hu => ht u (by omega))]
  refine x_istoren_2 dW_movesAway_32 rfl rfl ?_
  refine x_aload_n dW_movesAway_33 rfl ?_
  refine x_getR fl_W_56 rfl dW_movesAway_34 rfl rfl rfl ?_
  refine x_getR fl_W_274 rfl dW_movesAway_37 rfl rfl rfl ?_
  refine x_iload_n dW_movesAway_40 rfl ?_
  refine x_ialdJ (j := goE (cE I) p) dW_movesAway_41 rfl rfl (by first | rfl | (simp only [← nI_add, ← pk_mul]; rfl)) (by omega) ?_
  refine x_aload_n dW_movesAway_42 rfl ?_
  refine x_getR fl_W_56 rfl dW_movesAway_43 rfl rfl rfl ?_
  refine x_getR fl_W_274 rfl dW_movesAway_46 rfl rfl rfl ?_
  refine x_aload_n dW_movesAway_49 rfl ?_
  refine x_getR fl_W_19 rfl dW_movesAway_50 rfl rfl rfl ?_
  refine x_iload_n dW_movesAway_53 rfl ?_
  -- at 54: .invokevirtual 361
  rw [ht _ (by omega)]
  refine x_callV_1 c_Folk_startOf ok_Folk_startOf ml_W_361 dW_movesAway_54 rfl rfl rfl rfl rfl ?_
  refine ⟨p, rfl, rfl, by omega, ?_⟩
  have es : cStart I2 p = nI b := by
    rw [← eb]
    unfold cStart startV
    rw [hF2 12 (by decide), hF2 6 (by decide), show cE I 9 p = I 12 p from mk_lt hp]
    rfl
  rw [es]
  refine x_ialdJ (j := b) dW_movesAway_57 rfl rfl (by first | rfl | (simp only [← nI_add, ← pk_mul]; rfl)) (by omega) ?_
  -- at 58: .if_icmp .lt 5
  rw [ht b hb]
  have eg : goB (cE I) p ↔ totE (cE I) p (goE (cE I) p) < totE (cE I) p b := by
    unfold goB
    rw [eb, cl_nI (by omega)]
  refine x_icmp_lt (tgt := 63) dW_movesAway_58 (by decide) (fun d1 => ?_) (fun d1 => ?_)
  · refine x_aload_n dW_movesAway_63 rfl ?_
    refine x_getR fl_W_19 rfl dW_movesAway_64 rfl rfl rfl ?_
    refine x_getR fl_W_146 rfl dW_movesAway_67 rfl rfl rfl ?_
    refine x_iload_n dW_movesAway_70 rfl ?_
    refine x_iload_n dW_movesAway_71 rfl ?_
    refine x_iastJ (j := p) dW_movesAway_72 rfl rfl (by first | rfl | (simp only [← nI_add, ← pk_mul]; rfl)) (by omega) ?_
    refine x_iconst (v := 1) dW_movesAway_73 rfl ?_
    -- at 74: .ireturn
    refine x_ireturn dW_movesAway_74 rfl rfl ?_
    refine h1 (eg.mpr d1) _ (fun k hk => ?_) ?_
    · rw [up2_n _ _ _ (by omega)]
      exact bstay hF2 k hk
    · rw [cE_u9 I2 _ (by rw [hF2 4 (by decide)]; exact hp), cE_b hF2]
      rfl
  · refine x_iconst (v := 0) dW_movesAway_61 rfl ?_
    -- at 62: .ireturn
    refine x_ireturn dW_movesAway_62 rfl rfl ?_
    exact h2 (fun z => d1 (eg.mp z)) I2 (bstay hF2) (cE_b hF2)
