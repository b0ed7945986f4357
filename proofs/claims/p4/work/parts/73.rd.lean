/-! the reference's calls: even, hardest; where one goes -/
def sp_R_even : SpT := fun as S I L Post => ∃ q p : Int32, rSp [.int q, .int p] (fun E => .int (evenS E q p)) (fun E => E) as S I L Post
set_option maxHeartbeats 4000000 in
set_option maxRecDepth 100000 in
theorem c_R_even : Con mR_even 8 0 0 sp_R_even := by
  refine con_of_X rfl fun G as S I L Post hs => ?_
  obtain ⟨q, p, rfl, rfl, ⟨hok, own⟩, h1⟩ := hs
  dsimp only at h1
  have h1 := r_end h1
  refine ⟨0, Nat.le_of_ble_eq_true rfl, ?_⟩
  show X mR_even G _ S1 I L 0 [.ref 59, .int q, .int p] [] Post
  have n1 := hok.a.2.1
  have n2 := hok.b.2.1
  have bad : (¬ inR q 0 (rE I 29 2 - 1) ∨ ¬ inR p 0 (rE I 29 1 - 1)) → X mR_even G (8, 0, 0) S1 I L 16 [.ref 59, .int q, .int p] [] Post := by
    intro hc
    rw [evenS, if_pos hc] at h1
    refine x_bipush (v := -5) dR_even_16 rfl ?_
    -- at 18: .ireturn
    refine x_ireturn dR_even_18 rfl rfl ?_
    exact h1 (rSame.refl own)
  refine x_aload_n dR_even_0 rfl ?_
  refine x_iload_n dR_even_1 rfl ?_
  -- at 2: .invokevirtual 236
  refine x_callV_1 c_R_isPromise ok_R_isPromise ml_R_236 dR_even_2 rfl rfl rfl rfl rfl ?_
  refine ⟨_, rfl, rfl, fun a1 => ?_, fun a1 => ?_⟩
  · refine x_if_eq (tgt := 16) dR_even_5 (by decide) (fun h => absurd h (by decide)) (fun _ => ?_)
    refine x_aload_n dR_even_8 rfl ?_
    refine x_iload_n dR_even_9 rfl ?_
    -- at 10: .invokevirtual 230
    refine x_callV_1 c_R_isOne ok_R_isOne ml_R_230 dR_even_10 rfl rfl rfl rfl rfl ?_
    refine ⟨_, rfl, rfl, fun a2 => ?_, fun a2 => ?_⟩
    · refine x_if_ne (tgt := 19) dR_even_13 (by decide) (fun _ => ?_) (fun h => absurd h (by decide))
      have a1 : inR q 0 (rE I 29 2 - 1) := a1
      have a2 : inR p 0 (rE I 29 1 - 1) := a2
      rw [evenS, if_neg (fun z => z.elim (fun y => y a1) (fun y => y a2))] at h1
      rw [show rE I 29 2 = nI (qN (rE I)) from hok.b.1] at a1
      rw [show rE I 29 1 = nI (pN (rE I)) from hok.a.1] at a2
      obtain ⟨i, hi, rfl⟩ := has_nat (by omega) a1
      obtain ⟨j, hj, rfl⟩ := has_nat (by omega) a2
      rw [cl_nI (by omega), cl_nI (by omega)] at h1
      refine x_aload_n dR_even_19 rfl ?_
      refine x_iload_n dR_even_20 rfl ?_
      -- at 21: .invokevirtual 329
      refine x_callV_1 c_R_shares ok_R_shares ml_R_329 dR_even_21 rfl rfl rfl rfl rfl ?_
      refine ⟨i, rfl, rfl, ⟨hok, own⟩, hi, fun e I2 L2 sm => ?_, fun f e I2 L2 sm hf => ?_⟩
      · rw [e] at h1
        refine x_if_eq (tgt := 36) dR_even_24 (by decide) (fun _ => ?_) (fun h => absurd (by decide) h)
        refine x_bipush (v := -3) dR_even_36 rfl ?_
        -- at 38: .ireturn
        refine x_ireturn dR_even_38 rfl rfl ?_
        exact h1 sm
      · rw [e] at h1
        refine x_if_eq (tgt := 36) dR_even_24 (by decide) (fun h => absurd h (by decide)) (fun _ => ?_)
        refine x_aload_n dR_even_27 rfl ?_
        refine x_getR fl_R_134 rfl dR_even_28 rfl rfl rfl ?_
        refine x_iload_n dR_even_31 rfl ?_
        refine x_ialdJ (j := j) dR_even_32 rfl rfl (by first | rfl | (simp only [← nI_add, ← pk_mul]; rfl)) (by omega) ?_
        refine x_goto (tgt := 38) dR_even_33 (by decide) ?_
        -- at 38: .ireturn
        refine x_ireturn dR_even_38 rfl rfl ?_
        rw [hf j (by omega)]
        exact h1 sm
    · refine x_if_ne (tgt := 19) dR_even_13 (by decide) (fun h => absurd (by decide) h) (fun _ => ?_)
      exact bad (Or.inr a2)
  · refine x_if_eq (tgt := 16) dR_even_5 (by decide) (fun _ => ?_) (fun h => absurd (by decide) h)
    exact bad (Or.inl a1)
def sp_R_hardest : SpT := fun as S I L Post => ∃ q : Int32, rSp [.int q] (fun E => .int (hardestS E q)) (fun E => E) as S I L Post
set_option maxHeartbeats 4000000 in
set_option maxRecDepth 100000 in
theorem c_R_hardest : Con mR_hardest 8 0 0 sp_R_hardest := by
  refine con_of_X rfl fun G as S I L Post hs => ?_
  obtain ⟨q, rfl, rfl, ⟨hok, own⟩, h1⟩ := hs
  dsimp only at h1
  have h1 := r_end h1
  refine ⟨2, Nat.le_of_ble_eq_true rfl, ?_⟩
  show X mR_hardest G _ S1 I L 0 [.ref 59, .int q, .null, .null] [] Post
  have n1 := hok.a.2.1
  have n2 := hok.b.2.1
  refine x_aload_n dR_hardest_0 rfl ?_
  refine x_iload_n dR_hardest_1 rfl ?_
  -- at 2: .invokevirtual 236
  refine x_callV_1 c_R_isPromise ok_R_isPromise ml_R_236 dR_hardest_2 rfl rfl rfl rfl rfl ?_
  refine ⟨_, rfl, rfl, fun a1 => ?_, fun a1 => ?_⟩
  · have a1 : inR q 0 (rE I 29 2 - 1) := a1
    refine x_if_ne (tgt := 11) dR_hardest_5 (by decide) (fun _ => ?_) (fun h => absurd h (by decide))
    rw [hardestS, if_neg (not_not_intro a1)] at h1
    rw [show rE I 29 2 = nI (qN (rE I)) from hok.b.1] at a1
    obtain ⟨i, hi, rfl⟩ := has_nat (by omega) a1
    rw [cl_nI (by omega)] at h1
    refine x_aload_n dR_hardest_11 rfl ?_
    refine x_iload_n dR_hardest_12 rfl ?_
    -- at 13: .invokevirtual 329
    refine x_callV_1 c_R_shares ok_R_shares ml_R_329 dR_hardest_13 rfl rfl rfl rfl rfl ?_
    refine ⟨i, rfl, rfl, ⟨hok, own⟩, hi, fun e I2 L2 sm => ?_, fun f e I2 L2 sm hf => ?_⟩
    · rw [e] at h1
      refine x_if_ne (tgt := 21) dR_hardest_16 (by decide) (fun h => absurd rfl h) (fun _ => ?_)
      refine x_iconst (v := -1) dR_hardest_19 rfl ?_
      -- at 20: .ireturn
      refine x_ireturn dR_hardest_20 rfl rfl ?_
      exact h1 sm
    · rw [e] at h1
      dsimp only at h1
      refine x_if_ne (tgt := 21) dR_hardest_16 (by decide) (fun _ => ?_) (fun h => absurd h (by decide))
      refine x_iconst (v := 0) dR_hardest_21 rfl ?_
      refine x_istoren_2 dR_hardest_22 rfl rfl ?_
      refine x_iconst (v := 0) dR_hardest_23 rfl ?_
      refine x_istoren_3 dR_hardest_24 rfl rfl ?_
      -- at 25: .iload_n 3
      have e67 : I2 67 = rE I 7 := congrFun sm.2.1 7
      have loop : ∀ (k j : Nat) (acc : Int32), j + k = pN (rE I) → acc = hardR (rE I) f j → X mR_hardest G (8, 0, 0) S1 I2 L2 25 [.ref 59, .int (nI i), .int acc, .int (nI j)] [] Post := by
        intro k
        induction k with
        | zero =>
          intro j acc hj ha
          have hj : j = pN (rE I) := by omega
          refine x_iload_n dR_hardest_25 rfl ?_
          refine x_aload_n dR_hardest_26 rfl ?_
          refine x_getI fl_R_148 rfl dR_hardest_27 rfl rfl ?_
          -- at 30: .if_icmp .ge 44
          rw [show I2 59 3 = nI (pN (rE I)) by rw [← sm.2.1]; exact (sm.inv hok).a.1]
          refine x_icmp_ge (tgt := 74) dR_hardest_30 (by decide) (fun _ => ?_) (fun h => absurd (by rw [hj]; exact Int32.le_refl _) h)
          refine x_iload_n dR_hardest_74 rfl ?_
          -- at 75: .ireturn
          refine x_ireturn dR_hardest_75 rfl rfl ?_
          rw [ha, hj]
          exact h1 sm
        | succ k ih =>
          intro j acc hj ha
          refine x_iload_n dR_hardest_25 rfl ?_
          refine x_aload_n dR_hardest_26 rfl ?_
          refine x_getI fl_R_148 rfl dR_hardest_27 rfl rfl ?_
          -- at 30: .if_icmp .ge 44
          rw [show I2 59 3 = nI (pN (rE I)) by rw [← sm.2.1]; exact (sm.inv hok).a.1]
          refine x_icmp_ge (tgt := 74) dR_hardest_30 (by decide) (fun h => absurd h (nI_ge (by omega) (by omega))) (fun _ => ?_)
          refine x_aload_n dR_hardest_33 rfl ?_
          refine x_getR fl_R_35 rfl dR_hardest_34 rfl rfl rfl ?_
          refine x_iload_n dR_hardest_37 rfl ?_
          refine x_ialdJ (j := j) dR_hardest_38 rfl rfl (by first | rfl | (simp only [← nI_add, ← pk_mul]; rfl)) (by omega) ?_
          refine x_aload_n dR_hardest_39 rfl ?_
          refine x_getR fl_R_134 rfl dR_hardest_40 rfl rfl rfl ?_
          refine x_iload_n dR_hardest_43 rfl ?_
          refine x_ialdJ (j := j) dR_hardest_44 rfl rfl (by first | rfl | (simp only [← nI_add, ← pk_mul]; rfl)) (by omega) ?_
          refine x_imul dR_hardest_45 ?_
          refine x_iload_n dR_hardest_46 rfl ?_
          -- at 47: .if_icmp .le 19
          rw [e67, hf j (by omega)]
          refine x_icmp_le (tgt := 66) dR_hardest_47 (by decide) (fun c1 => ?_) (fun c1 => ?_)
          · refine x_iload_n dR_hardest_66 rfl ?_
            refine x_istoren_2 dR_hardest_67 rfl rfl ?_
            refine x_iincp_3 dR_hardest_68 rfl rfl ?_
            refine x_goto (tgt := 25) dR_hardest_71 (by decide) ?_
            -- at 25: .iload_n 3
            rw [nI_1]
            exact ih (j + 1) _ (by omega) (by rw [hardR, imax, ← ha, if_neg (Int32.not_lt.mpr c1)])
          · refine x_aload_n dR_hardest_50 rfl ?_
            refine x_getR fl_R_35 rfl dR_hardest_51 rfl rfl rfl ?_
            refine x_iload_n dR_hardest_54 rfl ?_
            refine x_ialdJ (j := j) dR_hardest_55 rfl rfl (by first | rfl | (simp only [← nI_add, ← pk_mul]; rfl)) (by omega) ?_
            refine x_aload_n dR_hardest_56 rfl ?_
            refine x_getR fl_R_134 rfl dR_hardest_57 rfl rfl rfl ?_
            refine x_iload_n dR_hardest_60 rfl ?_
            refine x_ialdJ (j := j) dR_hardest_61 rfl rfl (by first | rfl | (simp only [← nI_add, ← pk_mul]; rfl)) (by omega) ?_
            -- at 62: .imul
            rw [e67, hf j (by omega)]
            refine x_imul dR_hardest_62 ?_
            refine x_goto (tgt := 67) dR_hardest_63 (by decide) ?_
            refine x_istoren_2 dR_hardest_67 rfl rfl ?_
            refine x_iincp_3 dR_hardest_68 rfl rfl ?_
            refine x_goto (tgt := 25) dR_hardest_71 (by decide) ?_
            -- at 25: .iload_n 3
            rw [nI_1]
            exact ih (j + 1) _ (by omega) (by rw [hardR, imax, ← ha, if_pos (Int32.not_le.mp c1)])
      exact loop (pN (rE I)) 0 0 (by omega) rfl
  · have a1 : ¬ inR q 0 (rE I 29 2 - 1) := a1
    refine x_if_ne (tgt := 11) dR_hardest_5 (by decide) (fun h => absurd (by decide) h) (fun _ => ?_)
    rw [hardestS, if_pos a1] at h1
    refine x_bipush (v := -5) dR_hardest_8 rfl ?_
    -- at 10: .ireturn
    refine x_ireturn dR_hardest_10 rfl rfl ?_
    exact h1 (rSame.refl own)
theorem rV_mv (I : IM) (p : Nat) (u : Int32) : rV (up2 I 69 p u) = mvV (rV I) p u := by
  funext a
  by_cases h : a = 9
  · subst h; unfold mvV rV; simp only [up2_n, up2_s, ne_eq, Nat.reduceEqDiff, not_false_eq_true]
  unfold mvV
  rw [up2_n _ _ _ h]
  unfold rV
  split <;> first | rfl | (exfalso; omega) | simp only [up2_n, up2_s, ne_eq, Nat.reduceEqDiff, not_false_eq_true]
/-- in all, had one moved -/
def totW (E : IM) (p : Nat) (u : Int32) : Int32 := totU E (PE E) (pN E) (qN E) (sN E) p u
def sp_R_owedAt : SpT := fun as S I L Post => ∃ (p : Nat) (u : Int32), as = [.ref 59, .int (nI p), .int u] ∧ S = S1 ∧ rOk I ∧ p < pN (rE I) ∧ rng1 u 6 ∧ ∀ (I' : IM) (L' : LM), Fr [94, 95, 96, 97, 98] I I' → Post (some (.int (totW (rE I) p u))) S1 I' L'
set_option maxHeartbeats 4000000 in
set_option maxRecDepth 100000 in
theorem c_R_owedAt : Con mR_owedAt 9 0 0 sp_R_owedAt := by
  refine con_of_X rfl fun G as S I L Post hs => ?_
  obtain ⟨p, u, rfl, rfl, ⟨hok, own⟩, hp, hu, h1⟩ := hs
  refine ⟨1, Nat.le_of_ble_eq_true rfl, ?_⟩
  show X mR_owedAt G _ S1 I L 0 [.ref 59, .int (nI p), .int u, .null] [] Post
  have n1 := hok.a.2.1
  have n2 := hok.b.2.1
  refine x_aload_n dR_owedAt_0 rfl ?_
  refine x_getR fl_R_41 rfl dR_owedAt_1 rfl rfl rfl ?_
  refine x_iload_n dR_owedAt_4 rfl ?_
  refine x_ialdJ (j := p) dR_owedAt_5 rfl rfl (by first | rfl | (simp only [← nI_add, ← pk_mul]; rfl)) (by omega) ?_
  refine x_istoren_3 dR_owedAt_6 rfl rfl ?_
  refine x_aload_n dR_owedAt_7 rfl ?_
  refine x_getR fl_R_41 rfl dR_owedAt_8 rfl rfl rfl ?_
  refine x_iload_n dR_owedAt_11 rfl ?_
  refine x_iload_n dR_owedAt_12 rfl ?_
  refine x_iastJ (j := p) dR_owedAt_13 rfl rfl (by first | rfl | (simp only [← nI_add, ← pk_mul]; rfl)) (by omega) ?_
  refine x_aload_n dR_owedAt_14 rfl ?_
  refine x_aload_n dR_owedAt_15 rfl ?_
  refine x_getI fl_R_158 rfl dR_owedAt_16 rfl rfl ?_
  -- at 19: .invokevirtual 295
  have hV : VEq (rV (up2 I 69 p u)) (mvV (rE I) p u) (pN (rE I)) (sN (rE I)) := by
    rw [rV_mv]
    exact (rVE I).mv p u
  have hrV := rV_mv I p u
  have e59 : up2 I 69 p u 59 = I 59 := up2_n _ _ _ (by decide)
  have hF0 : Fr [69] I (up2 I 69 p u) := Fr.rfl.up (by decide) _ _
  have e69 : up2 I 69 p u 69 = up1 (I 69) p u := up2_s _ _ _ _
  generalize up2 I 69 p u = I1 at hV hrV e59 hF0 e69
  obtain ⟨k1, k2, k3, k4, k5, k6⟩ := rRk hok
  rw [e59, show I 59 17 = nI (sN (rE I)) from hok.c.1]
  refine x_callV_1 cE_R_owes ok_R_owes ml_R_295 dR_owedAt_19 rfl rfl rfl rfl rfl ?_
  refine ⟨sN (rE I), pN (rE I), qN (rE I), -1, PE (rE I), mvV (rE I) p u, rfl, rfl, ⟨by rw [e59]; exact k1, k2, k3, fun i hi => ?_, fun s hs => ?_, k6.fr e59 (hF0 79 (by decide)) (hF0 80 (by decide))⟩, ?_, by rw [e59]; exact own.2.1, by rw [e59]; exact own.1, hV, fun I2 L2 hF2 ho hk => ?_⟩
  · obtain ⟨p1, p2, p3, p4⟩ := k4 i hi
    rw [hrV]
    unfold PerV mvV
    rw [up2_n _ _ _ (by decide), up2_n _ _ _ (by decide), up2_n _ _ _ (by decide), up2_s]
    refine ⟨p1, p2, p3, ?_⟩
    unfold up1
    split
    · exact hu
    · exact p4
  · rw [hrV]
    unfold SayV mvV
    rw [up2_n _ _ _ (by decide), up2_n _ _ _ (by decide), up2_n _ _ _ (by decide)]
    exact k5 s hs
  · obtain ⟨w1, w2, w3, w4⟩ := rOw hok (sN (rE I))
    refine ⟨by rw [e59]; exact w1, w2, ?_, ?_⟩
    · rw [hrV]; unfold mvV; rw [up2_n _ _ _ (by decide)]; exact w3
    · rw [hrV]; unfold mvV; rw [up2_n _ _ _ (by decide)]; exact w4
  · refine x_aload_n dR_owedAt_22 rfl ?_
    refine x_getR fl_R_41 rfl dR_owedAt_23 rfl rfl rfl ?_
    refine x_iload_n dR_owedAt_26 rfl ?_
    refine x_iload_n dR_owedAt_27 rfl ?_
    refine x_iastJ (j := p) dR_owedAt_28 rfl rfl (by first | rfl | (simp only [← nI_add, ← pk_mul]; rfl)) (by omega) ?_
    -- at 29: .aload_n 0
    have hF3 : Fr [94, 95, 96, 97, 98] I (up2 I2 69 p (I 69 p)) := fun k hkk => by
      by_cases e : k = 69
      · subst e
        rw [up2_s, hF2 69 (by decide), e69]
        funext j
        unfold up1
        by_cases e3 : j = p
        · subst e3; simp
        · simp [e3]
      · rw [up2_n _ _ _ e, hF2 k hkk, hF0 k (by simp [e])]
    have hrow : RowR (up2 I2 69 p (I 69 p)) (pN (rE I)) (QV (mvV (rE I) p u) (PE (rE I)) (pN (rE I)) (qN (rE I)) (-1) (sN (rE I))) := by
      unfold RowR
      rw [up2_n _ _ _ (by decide)]
      exact hk.2.2.2.2.2.1
    generalize up2 I2 69 p (I 69 p) = I3 at hF3 hrow
    refine x_aload_n dR_owedAt_29 rfl ?_
    refine x_iload_n dR_owedAt_30 rfl ?_
    -- at 31: .invokevirtual 298
    refine x_callV_1 c_R_owedBy ok_R_owedBy ml_R_298 dR_owedAt_31 rfl rfl rfl rfl rfl ?_
    refine ⟨p, pN (rE I), qN (rE I), _, rfl, rfl, hp, n1, by rw [hF3 59 (by decide)]; exact hok.b.1, n2, hrow, ?_⟩
    refine x_ireturn dR_owedAt_34 rfl rfl ?_
    have e := QV_tot (mvV (rE I) p u) (PE (rE I)) (pN (rE I)) (qN (rE I)) (-1) (sN (rE I)) p
    rw [show sumQ (QV (mvV (rE I) p u) (PE (rE I)) (pN (rE I)) (qN (rE I)) (-1) (sN (rE I)) p) (qN (rE I)) = totW (rE I) p u from e]
    exact h1 I3 L2 hF3
theorem rSame.of {I I' : IM} (own : rOwn I) (hF : Fr [94, 95, 96, 97, 98] I I') : rSame I I' := (rSame.refl own).fr (hF.wk (by decide))
def goesV (E : IM) (p : Nat) (w : Int32) (k : Nat) : Nat := if w = 0 then leR (totE E p) k else moR (totE E p) k
theorem goesV_le (E : IM) (p : Nat) (w : Int32) (k : Nat) : goesV E p w k ≤ k := by
  unfold goesV
  split
  · exact leR_le _ _
  · exact moR_le _ _
def sp_R_goesTo : SpT := fun as S I L Post => ∃ (p : Nat) (w : Int32), as = [.ref 59, .int (nI p), .int w] ∧ S = S1 ∧ rOk I ∧ p < pN (rE I) ∧ ∀ (I' : IM) (L' : LM), Fr [94, 95, 96, 97, 98] I I' → Post (some (.int (nI (goesV (rE I) p w 5)))) S1 I' L'
set_option maxHeartbeats 4000000 in
set_option maxRecDepth 100000 in
theorem c_R_goesTo : Con mR_goesTo 10 0 0 sp_R_goesTo := by
  refine con_of_X rfl fun G as S I L Post hs => ?_
  obtain ⟨p, w, rfl, rfl, ⟨hok, own⟩, hp, h1⟩ := hs
  refine ⟨4, Nat.le_of_ble_eq_true rfl, ?_⟩
  show X mR_goesTo G _ S1 I L 0 [.ref 59, .int (nI p), .int w, .null, .null, .null, .null] [] Post
  refine x_iconst (v := 0) dR_goesTo_0 rfl ?_
  refine x_istoren_3 dR_goesTo_1 rfl rfl ?_
  refine x_aload_n dR_goesTo_2 rfl ?_
  refine x_iload_n dR_goesTo_3 rfl ?_
  refine x_iconst (v := 0) dR_goesTo_4 rfl ?_
  -- at 5: .invokevirtual 332
  refine x_callV_2 c_R_owedAt ok_R_owedAt ml_R_332 dR_goesTo_5 rfl rfl rfl rfl rfl ?_
  refine ⟨p, nI 0, rfl, rfl, ⟨hok, own⟩, hp, Or.inr ⟨0, by omega, rfl⟩, fun I1 L1 hF1 => ?_⟩
  refine x_eqi (y := totE (rE I) p 0) rfl ?_
  refine x_istore_4 dR_goesTo_8 rfl rfl ?_
  refine x_iconst (v := 1) dR_goesTo_10 rfl ?_
  refine x_istore_5 dR_goesTo_11 rfl rfl ?_
  -- at 13: .iload 5
  have loop : ∀ (k i : Nat) (I' : IM) (L' : LM) (a6 : Value), 1 ≤ i → i + k = 6 → cat1at [a6] 1 = true → Fr [94, 95, 96, 97, 98] I I' →
      X mR_goesTo G (10, 0, 0) S1 I' L' 13 [.ref 59, .int (nI p), .int w, .int (nI (goesV (rE I) p w (i - 1))), .int (totE (rE I) p (goesV (rE I) p w (i - 1))), .int (nI i), a6] [] Post := by
    intro k
    induction k with
    | zero =>
      intro i I' L' a6 i1 hi h6 hF
      obtain rfl : i = 6 := by omega
      refine x_iload dR_goesTo_13 rfl ?_
      refine x_iconst (v := 5) dR_goesTo_15 rfl ?_
      -- at 16: .if_icmp .gt 46
      refine x_icmp_gt (tgt := 62) dR_goesTo_16 (by decide) (fun _ => ?_) (fun h => absurd (by decide) h)
      refine x_iload_n dR_goesTo_62 rfl ?_
      -- at 63: .ireturn
      refine x_ireturn dR_goesTo_63 rfl rfl ?_
      exact h1 I' L' hF
    | succ k ih =>
      intro i I' L' a6 i1 hi h6 hF
      have sm := rSame.of own hF
      obtain ⟨j, rfl⟩ : ∃ j, i = j + 1 := ⟨i - 1, by omega⟩
      have hs : goesV (rE I) p w (j + 1) = if w = 0 then (if totE (rE I) p (j + 1) < totE (rE I) p (goesV (rE I) p w j) then j + 1 else goesV (rE I) p w j) else (if totE (rE I) p (goesV (rE I) p w j) < totE (rE I) p (j + 1) then j + 1 else goesV (rE I) p w j) := by
        unfold goesV
        split
        · rw [leR]
        · rw [moR]
      rw [show j + 1 - 1 = j from rfl]
      refine x_iload dR_goesTo_13 rfl ?_
      refine x_iconst (v := 5) dR_goesTo_15 rfl ?_
      -- at 16: .if_icmp .gt 46
      refine x_icmp_gt (tgt := 62) dR_goesTo_16 (by decide) (fun h => absurd h (Int32.not_lt.mpr ((nI_leI (b := 5) (by omega) (by omega)).mpr (by omega)))) (fun _ => ?_)
      refine x_aload_n dR_goesTo_19 rfl ?_
      refine x_iload_n dR_goesTo_20 rfl ?_
      refine x_iload dR_goesTo_21 rfl ?_
      -- at 23: .invokevirtual 332
      refine x_callV_2 c_R_owedAt ok_R_owedAt ml_R_332 dR_goesTo_23 rfl rfl rfl rfl rfl ?_
      refine ⟨p, nI (j + 1), rfl, rfl, ⟨sm.inv hok, sm.2.2⟩, by rw [sm.2.1]; exact hp, Or.inr ⟨j + 1, by omega, rfl⟩, fun I2 L2 hF2 => ?_⟩
      refine x_eqi (y := totE (rE I) p (j + 1)) (by rw [sm.2.1]; rfl) ?_
      have hF3 := hF.tr hF2
      have hle := goesV_le (rE I) p w j
      have take : goesV (rE I) p w (j + 1) = j + 1 → X mR_goesTo G (10, 0, 0) S1 I2 L2 49 [.ref 59, .int (nI p), .int w, .int (nI (goesV (rE I) p w j)), .int (totE (rE I) p (goesV (rE I) p w j)), .int (nI (j + 1)), .int (totE (rE I) p (j + 1))] [] Post := by
        intro e
        refine x_iload dR_goesTo_49 rfl ?_
        refine x_istoren_3 dR_goesTo_51 rfl rfl ?_
        refine x_iload dR_goesTo_52 rfl ?_
        refine x_istore_4 dR_goesTo_54 rfl rfl ?_
        refine x_iincp_5 dR_goesTo_56 rfl rfl ?_
        refine x_goto (tgt := 13) dR_goesTo_59 (by decide) ?_
        -- at 13: .iload 5
        rw [nI_1]
        have h3 := ih (j + 1 + 1) I2 L2 (.int (totE (rE I) p (j + 1))) (by omega) (by omega) rfl hF3
        rw [show j + 1 + 1 - 1 = j + 1 from rfl, e] at h3
        exact h3
      have keep : goesV (rE I) p w (j + 1) = goesV (rE I) p w j → X mR_goesTo G (10, 0, 0) S1 I2 L2 56 [.ref 59, .int (nI p), .int w, .int (nI (goesV (rE I) p w j)), .int (totE (rE I) p (goesV (rE I) p w j)), .int (nI (j + 1)), .int (totE (rE I) p (j + 1))] [] Post := by
        intro e
        refine x_iincp_5 dR_goesTo_56 rfl rfl ?_
        refine x_goto (tgt := 13) dR_goesTo_59 (by decide) ?_
        -- at 13: .iload 5
        rw [nI_1]
        have h3 := ih (j + 1 + 1) I2 L2 (.int (totE (rE I) p (j + 1))) (by omega) (by omega) rfl hF3
        rw [show j + 1 + 1 - 1 = j + 1 from rfl, e] at h3
        exact h3
      refine x_istore_6 dR_goesTo_26 rfl rfl ?_
      refine x_iload_n dR_goesTo_28 rfl ?_
      -- at 29: .ifCond .eq 13
      refine x_if_eq (tgt := 42) dR_goesTo_29 (by decide) (fun w0 => ?_) (fun w0 => ?_)
      · rw [if_pos w0] at hs
        refine x_iload dR_goesTo_42 rfl ?_
        refine x_iload dR_goesTo_44 rfl ?_
        -- at 46: .if_icmp .ge 10
        refine x_icmp_ge (tgt := 56) dR_goesTo_46 (by decide) (fun c1 => ?_) (fun c1 => ?_)
        · exact keep (by rw [hs, if_neg (Int32.not_lt.mpr c1)])
        · exact take (by rw [hs, if_pos (Int32.not_le.mp c1)])
      · rw [if_neg w0] at hs
        refine x_iload dR_goesTo_32 rfl ?_
        refine x_iload dR_goesTo_34 rfl ?_
        -- at 36: .if_icmp .le 20
        refine x_icmp_le (tgt := 56) dR_goesTo_36 (by decide) (fun c1 => ?_) (fun c1 => ?_)
        · exact keep (by rw [hs, if_neg (Int32.not_lt.mpr c1)])
        · refine x_goto (tgt := 49) dR_goesTo_39 (by decide) ?_
          -- at 49: .iload 5
          exact take (by rw [hs, if_pos (Int32.not_le.mp c1)])
  have h3 := loop 5 1 I1 L1 .null (Nat.le_refl _) rfl rfl hF1
  have e0 : goesV (rE I) p w (1 - 1) = 0 := by
    unfold goesV
    split <;> rfl
  rw [e0] at h3
  exact h3
