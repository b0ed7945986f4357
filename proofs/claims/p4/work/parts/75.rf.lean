/-! the reference's calls: chance, lost, laws -/
def sp_R_chanceOf : SpT := fun as S I L Post => ∃ p q : Nat, as = [.ref 59, .int (nI p), .int (nI q)] ∧ S = S1 ∧ rOk I ∧ p < pN (rE I) ∧ ∀ (I' : IM) (L' : LM), Fr [94, 95] I I' → Post (some (.long (chanE (rE I) p q))) S1 I' L'
set_option maxHeartbeats 4000000 in
set_option maxRecDepth 100000 in
theorem c_R_chanceOf : Con mR_chanceOf 5 0 0 sp_R_chanceOf := by
  refine con_of_X rfl fun G as S I L Post hs => ?_
  obtain ⟨p, q, rfl, rfl, ⟨hok, own⟩, hp, h1⟩ := hs
  refine ⟨3, Nat.le_of_ble_eq_true rfl, ?_⟩
  show X mR_chanceOf G _ S1 I L 0 [.ref 59, .int (nI p), .int (nI q), .null, .null, .null] [] Post
  have n1 := hok.a.2.1
  have n3 := hok.c.2.1
  obtain ⟨k1, k2, k3, k4, k5, k6⟩ := rRk hok
  refine x_ldc2 dR_chanceOf_0 cn_R_339 ?_
  refine x_lstoren_3 dR_chanceOf_3 rfl rfl ?_
  refine x_iconst (v := 0) dR_chanceOf_4 rfl ?_
  refine x_istore_5 dR_chanceOf_5 rfl rfl ?_
  -- at 7: .iload 5
  have loop : ∀ (k i : Nat) (acc : Int64) (I' : IM), i + k = sN (rE I) → acc = chanS (rE I) (hearV (rE I) (PE (rE I))) p (nI q) i → Fr [94, 95] I I' → X mR_chanceOf G (5, 0, 0) S1 I' L 7 [.ref 59, .int (nI p), .int (nI q), .long acc, .null, .int (nI i)] [] Post := by
    intro k
    induction k with
    | zero =>
      intro i acc I' hi ha hF
      have hi : i = sN (rE I) := by omega
      refine x_iload dR_chanceOf_7 rfl ?_
      refine x_aload_n dR_chanceOf_9 rfl ?_
      refine x_getI fl_R_158 rfl dR_chanceOf_10 rfl rfl ?_
      -- at 13: .if_icmp .ge 42
      rw [hF 59 (by decide), show I 59 17 = nI (sN (rE I)) from hok.c.1]
      refine x_icmp_ge (tgt := 55) dR_chanceOf_13 (by decide) (fun _ => ?_) (fun h => absurd (by rw [hi]; exact Int32.le_refl _) h)
      refine x_ldc2 dR_chanceOf_55 cn_R_339 ?_
      refine x_lload_n dR_chanceOf_58 rfl ?_
      refine x_lsub dR_chanceOf_59 ?_
      -- at 60: .lreturn
      refine x_lreturn dR_chanceOf_60 rfl ?_
      rw [ha, hi]
      exact h1 I' L hF
    | succ k ih =>
      intro i acc I' hi ha hF
      have hV : rV I' = rV I := rV_fr (hF.wk (by decide))
      have e14 : I' 74 i = rE I 14 i := by
        rw [hF 74 (by decide)]
        exact ((rVE I).2.2 i (by omega)).1
      refine x_iload dR_chanceOf_7 rfl ?_
      refine x_aload_n dR_chanceOf_9 rfl ?_
      refine x_getI fl_R_158 rfl dR_chanceOf_10 rfl rfl ?_
      -- at 13: .if_icmp .ge 42
      rw [hF 59 (by decide), show I 59 17 = nI (sN (rE I)) from hok.c.1]
      refine x_icmp_ge (tgt := 55) dR_chanceOf_13 (by decide) (fun h => absurd h (nI_ge (by omega) (by omega))) (fun _ => ?_)
      refine x_aload_n dR_chanceOf_16 rfl ?_
      refine x_getR fl_R_56 rfl dR_chanceOf_17 rfl rfl rfl ?_
      refine x_iload dR_chanceOf_20 rfl ?_
      refine x_ialdJ (j := i) dR_chanceOf_22 rfl rfl (by first | rfl | (simp only [← nI_add, ← pk_mul]; rfl)) (by omega) ?_
      refine x_iload_n dR_chanceOf_23 rfl ?_
      -- at 24: .if_icmp .ne 23
      rw [e14]
      refine x_icmp_ne (tgt := 47) dR_chanceOf_24 (by decide) (fun c1 => ?_) (fun c1 => ?_)
      · refine x_lload_n dR_chanceOf_47 rfl ?_
        refine x_lstoren_3 dR_chanceOf_48 rfl rfl ?_
        refine x_iincp_5 dR_chanceOf_49 rfl rfl ?_
        refine x_goto (tgt := 7) dR_chanceOf_52 (by decide) ?_
        -- at 7: .iload 5
        rw [nI_1]
        exact ih (i + 1) _ I' (by omega) (by rw [chanS, if_neg c1, ha]) hF
      · refine x_lload_n dR_chanceOf_27 rfl ?_
        refine x_bipush (v := 100) dR_chanceOf_28 rfl ?_
        refine x_aload_n dR_chanceOf_30 rfl ?_
        refine x_iload dR_chanceOf_31 rfl ?_
        refine x_iload_n dR_chanceOf_33 rfl ?_
        -- at 34: .invokevirtual 256
        refine x_callV_2 c_R_hearsOf ok_R_hearsOf ml_R_256 dR_chanceOf_34 rfl rfl rfl rfl rfl ?_
        refine ⟨i, p, PE (rE I), rfl, rfl, by omega, by omega, by rw [hV]; exact k5 i (by omega), by rw [hV]; exact k4 p hp, k6.fr (hF 59 (by decide)) (hF 79 (by decide)) (hF 80 (by decide)), fun I2 hF2 => ?_⟩
        rw [hV, hear_eq (rVE I) _ (by omega) hp]
        refine x_isub dR_chanceOf_37 ?_
        refine x_i2l dR_chanceOf_38 ?_
        refine x_lmul dR_chanceOf_39 ?_
        refine x_ldc2 dR_chanceOf_40 cn_R_271 ?_
        refine x_ldiv dR_chanceOf_43 (by decide) ?_
        refine x_goto (tgt := 48) dR_chanceOf_44 (by decide) ?_
        refine x_lstoren_3 dR_chanceOf_48 rfl rfl ?_
        refine x_iincp_5 dR_chanceOf_49 rfl rfl ?_
        refine x_goto (tgt := 7) dR_chanceOf_52 (by decide) ?_
        -- at 7: .iload 5
        rw [nI_1]
        exact ih (i + 1) _ I2 (by omega) (by rw [chanS, if_pos c1, ha]) (hF.tr hF2)
  exact loop (sN (rE I)) 0 1000000 I (by omega) (by rw [chanS]) Fr.rfl
theorem rSame.of2 {I I' : IM} (own : rOwn I) (hF : Fr [94, 95] I I') : rSame I I' := (rSame.refl own).fr (hF.wk (by decide))
def sp_R_chance : SpT := fun as S I L Post => ∃ p q : Int32, rSp [.int p, .int q] (fun E => .long (chanceS E p q)) (fun E => E) as S I L Post
set_option maxHeartbeats 4000000 in
set_option maxRecDepth 100000 in
theorem c_R_chance : Con mR_chance 6 0 0 sp_R_chance := by
  refine con_of_X rfl fun G as S I L Post hs => ?_
  obtain ⟨p, q, rfl, rfl, ⟨hok, own⟩, h1⟩ := hs
  dsimp only at h1
  have h1 := r_end h1
  refine ⟨0, Nat.le_of_ble_eq_true rfl, ?_⟩
  show X mR_chance G _ S1 I L 0 [.ref 59, .int p, .int q] [] Post
  have n1 := hok.a.2.1
  have n2 := hok.b.2.1
  have bad : (¬ inR p 0 (rE I 29 1 - 1) ∨ ¬ inR q 0 (rE I 29 2 - 1)) → X mR_chance G (6, 0, 0) S1 I L 25 [.ref 59, .int p, .int q] [] Post := by
    intro hc
    rw [chanceS, if_pos hc] at h1
    refine x_ldc2 dR_chance_25 cn_R_345 ?_
    -- at 28: .lreturn
    refine x_lreturn dR_chance_28 rfl ?_
    exact h1 (rSame.refl own)
  refine x_aload_n dR_chance_0 rfl ?_
  refine x_iload_n dR_chance_1 rfl ?_
  -- at 2: .invokevirtual 230
  refine x_callV_1 c_R_isOne ok_R_isOne ml_R_230 dR_chance_2 rfl rfl rfl rfl rfl ?_
  refine ⟨_, rfl, rfl, fun a1 => ?_, fun a1 => ?_⟩
  · refine x_if_eq (tgt := 25) dR_chance_5 (by decide) (fun h => absurd h (by decide)) (fun _ => ?_)
    refine x_aload_n dR_chance_8 rfl ?_
    refine x_iload_n dR_chance_9 rfl ?_
    -- at 10: .invokevirtual 236
    refine x_callV_1 c_R_isPromise ok_R_isPromise ml_R_236 dR_chance_10 rfl rfl rfl rfl rfl ?_
    refine ⟨_, rfl, rfl, fun a2 => ?_, fun a2 => ?_⟩
    · refine x_if_eq (tgt := 25) dR_chance_13 (by decide) (fun h => absurd h (by decide)) (fun _ => ?_)
      have a1 : inR p 0 (rE I 29 1 - 1) := a1
      have a2 : inR q 0 (rE I 29 2 - 1) := a2
      rw [chanceS, if_neg (fun z => z.elim (fun y => y a1) (fun y => y a2))] at h1
      rw [show rE I 29 1 = nI (pN (rE I)) from hok.a.1] at a1
      rw [show rE I 29 2 = nI (qN (rE I)) from hok.b.1] at a2
      obtain ⟨i, hi, rfl⟩ := has_nat (by omega) a1
      obtain ⟨j, hj, rfl⟩ := has_nat (by omega) a2
      rw [cl_nI (by omega), cl_nI (by omega)] at h1
      refine x_aload_n dR_chance_16 rfl ?_
      refine x_iload_n dR_chance_17 rfl ?_
      refine x_iload_n dR_chance_18 rfl ?_
      -- at 19: .invokevirtual 341
      refine x_callV_2 c_R_chanceOf ok_R_chanceOf ml_R_341 dR_chance_19 rfl rfl rfl rfl rfl ?_
      refine ⟨i, j, rfl, rfl, ⟨hok, own⟩, hi, fun I' L' hF => ?_⟩
      refine x_goto (tgt := 28) dR_chance_22 (by decide) ?_
      -- at 28: .lreturn
      refine x_lreturn dR_chance_28 rfl ?_
      exact h1 (rSame.of2 own hF)
    · refine x_if_eq (tgt := 25) dR_chance_13 (by decide) (fun _ => ?_) (fun h => absurd (by decide) h)
      exact bad (Or.inr a2)
  · refine x_if_eq (tgt := 25) dR_chance_5 (by decide) (fun _ => ?_) (fun h => absurd (by decide) h)
    exact bad (Or.inl a1)
def sp_R_lost : SpT := fun as S I L Post => ∃ q : Int32, rSp [.int q] (fun E => .long (lostS E q)) (fun E => E) as S I L Post
set_option maxHeartbeats 4000000 in
set_option maxRecDepth 100000 in
theorem c_R_lost : Con mR_lost 6 0 0 sp_R_lost := by
  refine con_of_X rfl fun G as S I L Post hs => ?_
  obtain ⟨q, rfl, rfl, ⟨hok, own⟩, h1⟩ := hs
  dsimp only at h1
  have h1 := r_end h1
  refine ⟨3, Nat.le_of_ble_eq_true rfl, ?_⟩
  show X mR_lost G _ S1 I L 0 [.ref 59, .int q, .null, .null, .null] [] Post
  have n1 := hok.a.2.1
  have n2 := hok.b.2.1
  refine x_aload_n dR_lost_0 rfl ?_
  refine x_iload_n dR_lost_1 rfl ?_
  -- at 2: .invokevirtual 236
  refine x_callV_1 c_R_isPromise ok_R_isPromise ml_R_236 dR_lost_2 rfl rfl rfl rfl rfl ?_
  refine ⟨_, rfl, rfl, fun a1 => ?_, fun a1 => ?_⟩
  · have a1 : inR q 0 (rE I 29 2 - 1) := a1
    refine x_if_ne (tgt := 12) dR_lost_5 (by decide) (fun _ => ?_) (fun h => absurd h (by decide))
    rw [lostS, if_neg (not_not_intro a1)] at h1
    rw [show rE I 29 2 = nI (qN (rE I)) from hok.b.1] at a1
    obtain ⟨i, hi, rfl⟩ := has_nat (by omega) a1
    rw [cl_nI (by omega)] at h1
    refine x_ldc2 dR_lost_12 cn_R_339 ?_
    refine x_lstoren_2 dR_lost_15 rfl rfl ?_
    refine x_iconst (v := 0) dR_lost_16 rfl ?_
    refine x_istore_4 dR_lost_17 rfl rfl ?_
    -- at 19: .iload 4
    have loop : ∀ (k j : Nat) (acc : Int64) (I' : IM) (L' : LM), j + k = pN (rE I) → acc = lostR (rE I) i j → rSame I I' → X mR_lost G (6, 0, 0) S1 I' L' 19 [.ref 59, .int (nI i), .long acc, .null, .int (nI j)] [] Post := by
      intro k
      induction k with
      | zero =>
        intro j acc I' L' hj ha sm
        have hj : j = pN (rE I) := by omega
        refine x_iload dR_lost_19 rfl ?_
        refine x_aload_n dR_lost_21 rfl ?_
        refine x_getI fl_R_148 rfl dR_lost_22 rfl rfl ?_
        -- at 25: .if_icmp .ge 52
        rw [show I' 59 3 = nI (pN (rE I)) by rw [← sm.2.1]; exact (sm.inv hok).a.1]
        refine x_icmp_ge (tgt := 77) dR_lost_25 (by decide) (fun _ => ?_) (fun h => absurd (by rw [hj]; exact Int32.le_refl _) h)
        refine x_lload_n dR_lost_77 rfl ?_
        -- at 78: .lreturn
        refine x_lreturn dR_lost_78 rfl ?_
        rw [ha, hj]
        exact h1 sm
      | succ k ih =>
        intro j acc I' L' hj ha sm
        have e62 : I' 62 = rE I 2 := congrFun sm.2.1 2
        have no : ¬ (canV (rE I) j i = true ∧ ¬ rE I 2 j = 4) → X mR_lost G (6, 0, 0) S1 I' L' 69 [.ref 59, .int (nI i), .long acc, .null, .int (nI j)] [] Post := by
          intro hn
          refine x_lload_n dR_lost_69 rfl ?_
          refine x_lstoren_2 dR_lost_70 rfl rfl ?_
          refine x_iincp_4 dR_lost_71 rfl rfl ?_
          refine x_goto (tgt := 19) dR_lost_74 (by decide) ?_
          -- at 19: .iload 4
          rw [nI_1]
          exact ih (j + 1) _ I' L' (by omega) (by rw [lostR, if_neg hn, ha]) sm
        refine x_iload dR_lost_19 rfl ?_
        refine x_aload_n dR_lost_21 rfl ?_
        refine x_getI fl_R_148 rfl dR_lost_22 rfl rfl ?_
        -- at 25: .if_icmp .ge 52
        rw [show I' 59 3 = nI (pN (rE I)) by rw [← sm.2.1]; exact (sm.inv hok).a.1]
        refine x_icmp_ge (tgt := 77) dR_lost_25 (by decide) (fun h => absurd h (nI_ge (by omega) (by omega))) (fun _ => ?_)
        refine x_aload_n dR_lost_28 rfl ?_
        refine x_iload dR_lost_29 rfl ?_
        refine x_iload_n dR_lost_31 rfl ?_
        -- at 32: .invokevirtual 283
        refine x_callV_2 c_R_can ok_R_can ml_R_283 dR_lost_32 rfl rfl rfl rfl rfl ?_
        refine ⟨j, i, rfl, rfl, by omega, by omega, fun b1 => ?_, fun b1 => ?_⟩
        · rw [can_eq (rVE I'), sm.2.1] at b1
          refine x_if_eq (tgt := 69) dR_lost_35 (by decide) (fun h => absurd h (by decide)) (fun _ => ?_)
          refine x_aload_n dR_lost_38 rfl ?_
          refine x_getR fl_R_20 rfl dR_lost_39 rfl rfl rfl ?_
          refine x_iload dR_lost_42 rfl ?_
          refine x_ialdJ (j := j) dR_lost_44 rfl rfl (by first | rfl | (simp only [← nI_add, ← pk_mul]; rfl)) (by omega) ?_
          refine x_iconst (v := 4) dR_lost_45 rfl ?_
          -- at 46: .if_icmp .eq 23
          rw [e62]
          by_cases b2 : rE I 2 j = 4
          · refine x_icmp_eq (tgt := 69) dR_lost_46 (by decide) (fun _ => ?_) (fun h => absurd b2 h)
            exact no (fun z => z.2 b2)
          · refine x_icmp_eq (tgt := 69) dR_lost_46 (by decide) (fun h => absurd h b2) (fun _ => ?_)
            refine x_lload_n dR_lost_49 rfl ?_
            refine x_ldc2 dR_lost_50 cn_R_339 ?_
            refine x_aload_n dR_lost_53 rfl ?_
            refine x_iload dR_lost_54 rfl ?_
            refine x_iload_n dR_lost_56 rfl ?_
            -- at 57: .invokevirtual 341
            refine x_callV_2 c_R_chanceOf ok_R_chanceOf ml_R_341 dR_lost_57 rfl rfl rfl rfl rfl ?_
            refine ⟨j, i, rfl, rfl, ⟨sm.inv hok, sm.2.2⟩, by rw [sm.2.1]; omega, fun I2 L2 hF2 => ?_⟩
            rw [sm.2.1]
            refine x_lsub dR_lost_60 ?_
            refine x_lmul dR_lost_61 ?_
            refine x_ldc2 dR_lost_62 cn_R_339 ?_
            refine x_ldiv dR_lost_65 (by decide) ?_
            refine x_goto (tgt := 70) dR_lost_66 (by decide) ?_
            refine x_lstoren_2 dR_lost_70 rfl rfl ?_
            refine x_iincp_4 dR_lost_71 rfl rfl ?_
            refine x_goto (tgt := 19) dR_lost_74 (by decide) ?_
            -- at 19: .iload 4
            rw [nI_1]
            exact ih (j + 1) _ I2 L2 (by omega) (by rw [lostR, if_pos ⟨b1, b2⟩, ha]) (sm.fr (hF2.wk (by decide)))
        · rw [can_eq (rVE I'), sm.2.1] at b1
          refine x_if_eq (tgt := 69) dR_lost_35 (by decide) (fun _ => ?_) (fun h => absurd (by decide) h)
          exact no (fun z => b1 z.1)
    exact loop (pN (rE I)) 0 1000000 I L (by omega) rfl (rSame.refl own)
  · have a1 : ¬ inR q 0 (rE I 29 2 - 1) := a1
    refine x_if_ne (tgt := 12) dR_lost_5 (by decide) (fun h => absurd (by decide) h) (fun _ => ?_)
    rw [lostS, if_pos a1] at h1
    refine x_ldc2 dR_lost_8 cn_R_345 ?_
    -- at 11: .lreturn
    refine x_lreturn dR_lost_11 rfl ?_
    exact h1 (rSame.refl own)
/-! each law in turn -/
theorem up59_59 {I : IM} {j : Nat} (x y : Int32) : up2 (up2 I 59 j x) 59 j y = up2 I 59 j y := by
  funext k
  by_cases e : k = 59
  · subst e
    rw [up2_s, up2_s, up2_s]
    funext i
    unfold up1
    by_cases e2 : i = j <;> simp [e2]
  · rw [up2_n _ _ _ e, up2_n _ _ _ e, up2_n _ _ _ e]
theorem up59_id {I : IM} {j : Nat} : up2 I 59 j (I 59 j) = I := by
  funext k
  by_cases e : k = 59
  · subst e
    rw [up2_s]
    funext i
    unfold up1
    by_cases e2 : i = j <;> simp [e2]
  · rw [up2_n _ _ _ e]
theorem Fr.up59 {I I' : IM} {ks : List Nat} (h : Fr ks I I') (h59 : 59 ∉ ks) (j : Nat) (x : Int32) : Fr ks (up2 I 59 j x) (up2 I' 59 j x) := by
  intro k hk
  by_cases e : k = 59
  · subst e
    rw [up2_s, up2_s, h 59 h59]
  · rw [up2_n _ _ _ e, up2_n _ _ _ e]
    exact h k hk
theorem neg_lt {x y : Int32} (hx : 0 ≤ x) (hy : 0 ≤ y) : -y < -x ↔ x < y := by
  have h1 := Int32.le_iff_toInt_le.mp hx
  have h2 := Int32.le_iff_toInt_le.mp hy
  have b1 := x.toInt_lt
  have b2 := y.toInt_lt
  rw [Int32.lt_iff_toInt_lt, Int32.lt_iff_toInt_lt, Int32.toInt_neg, Int32.toInt_neg]
  simp only [Int.bmod] at *
  have e0 : (0 : Int32).toInt = 0 := rfl
  rw [e0] at h1 h2
  split <;> split <;> omega
theorem pain_nn (V : IM) (P : Nat → List Int32) (T : Nat → Int32) : ∀ n, n ≤ 8 → rng (painA V P T n) (10000 * n + 1) := by
  intro n
  induction n with
  | zero => intro _; exact ⟨0, by omega, rfl⟩
  | succ k ih =>
    intro hk
    obtain ⟨a, ha, ea⟩ := ih (by omega)
    have hb : rng (painV V P T k) 10000 := by
      unfold painV
      generalize valP _ _ = x
      have h0 := bnd_nn x 9999
      refine rng_of (M := 10000) rfl (by omega) h0 ?_
      unfold bnd
      have hm : imin x 9999 ≤ 9999 := by
        unfold imin
        split
        · exact Int32.le_refl _
        · rename_i h; exact Int32.not_lt.mp h
      unfold imax
      split
      · exact Int32.lt_of_le_of_lt hm (by decide)
      · decide
    obtain ⟨b, hb, eb⟩ := hb
    rw [painA, ea, eb, nI_add]
    exact ⟨a + b, by omega, rfl⟩
/-- the same but for THE LAW -/
def rLawS (I I' : IM) : Prop := rSame I (up2 I' 59 27 (I 59 27))
theorem rLawS.fr {I I' I'' : IM} (h : rLawS I I') (hF : Fr [93, 94, 95, 96, 97, 98, 99] I' I'') : rLawS I I'' := by
  unfold rLawS at h ⊢
  exact h.fr (hF.up59 (by decide) _ _)
theorem rLawS.up {I I' : IM} (h : rLawS I I') (x : Int32) : rLawS I (up2 I' 59 27 x) := by
  unfold rLawS at h ⊢
  rw [up59_59]
  exact h
theorem rLawS.at {I I' : IM} (h : rLawS I I') {j : Nat} (hj : j ≠ 27) : I' 59 j = up2 I' 59 27 (I 59 27) 59 j := by
  rw [up2_s, up1_n _ _ hj]
def KpL (I' : IM) (E : IM) (t : Nat) : Prop := KpOk I' E (prog E t) (RT E t) (pN E) (qN E)
theorem TQ_L (E : IM) (t : Nat) : TQ (RT E t) (qN E) = TT E t := by
  funext p
  exact QV_tot E (prog E t) (pN E) (qN E) (-1) (sN E) p
/-- owes, by the law t -/
theorem rLaw_ow {I I' : IM} (hok : Inv (rE I)) (h : rLawS I I') {t : Nat} (ht : t < tN (rE I)) : RkOk (up2 I' 59 27 (nI t)) (prog (rE I) t) (pN (rE I)) (sN (rE I)) ∧ OwOk (up2 I' 59 27 (nI t)) (pN (rE I)) (sN (rE I)) (qN (rE I)) ∧ up2 I' 59 27 (nI t) 59 60 = -1 ∧ up2 I' 59 27 (nI t) 59 55 = 0 ∧ VEq (rV (up2 I' 59 27 (nI t))) (rE I) (pN (rE I)) (sN (rE I)) ∧ up2 I' 59 27 (nI t) 59 17 = nI (sN (rE I)) := by
  unfold rLawS at h
  have e : up2 I' 59 27 (nI t) = up2 (up2 I' 59 27 (I 59 27)) 59 27 (nI t) := (up59_59 _ _).symm
  rw [e]
  generalize up2 I' 59 27 (I 59 27) = J at h ⊢
  have hJ := h.inv hok
  obtain ⟨k1, k2, k3, k4, k5, k6⟩ := rRk hJ
  obtain ⟨w1, w2, w3, w4⟩ := rOw hJ (sN (rE J))
  have hV := rVE J
  have hs : J 59 17 = nI (sN (rE J)) := hJ.c.1
  have ht2 := rTxt hJ (t := t) (by rw [h.2.1]; exact ht)
  rw [h.2.1] at k1 k2 k3 k4 k5 w1 w2 w3 w4 hV hs ht2
  have hn : ∀ j, j ≠ 27 → up2 J 59 27 (nI t) 59 j = J 59 j := fun j hj => by rw [up2_s, up1_n _ _ hj]
  refine ⟨⟨by rw [hn 3 (by decide)]; exact k1, k2, k3, by rw [rV_59]; exact k4, by rw [rV_59]; exact k5, ⟨t, by rw [up2_s, up1_s], ?_⟩⟩, ⟨by rw [hn 12 (by decide)]; exact w1, w2, by rw [rV_59]; exact w3, by rw [rV_59]; exact w4⟩, by rw [hn 60 (by decide)]; exact h.2.2.2.1, by rw [hn 55 (by decide)]; exact h.2.2.1, by rw [rV_59]; exact hV, by rw [hn 17 (by decide)]; exact hs⟩
  unfold TxtR at ht2 ⊢
  rw [up2_n _ _ _ (by decide), up2_n _ _ _ (by decide)]
  exact ht2
/-- what is held of the best law so far -/
def lwI (E : IM) (w : Int32) (t : Nat) (a b : Int32) : Prop := w = 0 ∨ (w = 1 ∧ a = (lwF E 1 t).1 ∧ b = (lwF E 1 t).2) ∨ (w = 2 ∧ a = (lwF E 2 t).1 ∧ b = -(lwF E 2 t).2 ∧ 0 ≤ (lwF E 2 t).2)
def lwW (E : IM) (w : Int32) (t : Nat) (v : Int32) : Prop := w = 0 ∨ (w = 1 ∧ v = lawK E t 1) ∨ (w = 2 ∧ v = -lawK E t 2 ∧ 0 ≤ lawK E t 2)
theorem lwI.take {E : IM} {w : Int32} {t : Nat} {a b v : Int32} (h : lwI E w t a b) (hv : lwW E w t v) (hc : a = -1 ∨ b < v) : lwI E w (t + 1) (nI t) v := by
  rcases h with h | ⟨h, h1, h2⟩ | ⟨h, h1, h2, h3⟩
  · exact Or.inl h
  · refine Or.inr (Or.inl ⟨h, ?_⟩)
    subst h
    rcases hv with z | ⟨z, hv⟩ | ⟨z, hv, -⟩
    · exact absurd z (by decide)
    · have hs : lwF E 1 (t + 1) = (nI t, lawK E t 1) := by
        rw [lwF, if_pos]
        rw [h1, h2, hv] at hc
        exact hc.elim Or.inl (fun y => Or.inr (Or.inr ⟨by decide, y⟩))
      rw [hs]
      exact ⟨rfl, hv⟩
    · exact absurd z (by decide)
  · refine Or.inr (Or.inr ⟨h, ?_⟩)
    subst h
    rcases hv with z | ⟨z, hv⟩ | ⟨z, hv, hnn⟩
    · exact absurd z (by decide)
    · exact absurd z (by decide)
    · have hs : lwF E 2 (t + 1) = (nI t, lawK E t 2) := by
        rw [lwF, if_pos]
        rw [h1, h2, hv] at hc
        exact hc.elim Or.inl (fun y => Or.inr (Or.inl ⟨rfl, (neg_lt hnn h3).mp y⟩))
      rw [hs]
      exact ⟨rfl, hv, hnn⟩
theorem lwI.keep {E : IM} {w : Int32} {t : Nat} {a b v : Int32} (h : lwI E w t a b) (hv : lwW E w t v) (hc : ¬ a = -1) (hc2 : ¬ b < v) : lwI E w (t + 1) a b := by
  rcases h with h | ⟨h, h1, h2⟩ | ⟨h, h1, h2, h3⟩
  · exact Or.inl h
  · refine Or.inr (Or.inl ⟨h, ?_⟩)
    subst h
    rcases hv with z | ⟨z, hv⟩ | ⟨z, hv, -⟩
    · exact absurd z (by decide)
    · have hs : lwF E 1 (t + 1) = lwF E 1 t := by
        rw [lwF, if_neg]
        rw [h1] at hc
        rw [h2, hv] at hc2
        rintro (y | ⟨y, -⟩ | ⟨-, y⟩)
        · exact hc y
        · exact absurd y (by decide)
        · exact hc2 y
      rw [hs]
      exact ⟨h1, h2⟩
    · exact absurd z (by decide)
  · refine Or.inr (Or.inr ⟨h, ?_⟩)
    subst h
    rcases hv with z | ⟨z, hv⟩ | ⟨z, hv, hnn⟩
    · exact absurd z (by decide)
    · exact absurd z (by decide)
    · have hs : lwF E 2 (t + 1) = lwF E 2 t := by
        rw [lwF, if_neg]
        rw [h1] at hc
        rw [h2, hv] at hc2
        rintro (y | ⟨-, y⟩ | ⟨y, -⟩)
        · exact hc y
        · exact hc2 ((neg_lt hnn h3).mpr y)
        · exact absurd rfl y
      rw [hs]
      exact ⟨h1, h2, h3⟩
def sp_R_laws : SpT := fun as S I L Post => ∃ w : Int32, rSp [.int w] (fun E => .int (lawsS E w)) (fun E => E) as S I L Post
set_option maxHeartbeats 4000000 in
set_option maxRecDepth 100000 in
theorem c_R_laws : Con mR_laws 9 0 0 sp_R_laws := by
  refine con_of_X rfl fun G as S I L Post hs => ?_
  obtain ⟨w, rfl, rfl, ⟨hok, own⟩, h1⟩ := hs
  dsimp only at h1
  have h1 := r_end h1
  refine ⟨6, Nat.le_of_ble_eq_true rfl, ?_⟩
  show X mR_laws G _ S1 I L 0 [.ref 59, .int w, .null, .null, .null, .null, .null, .null] [] Post
  have n1 := hok.a.2.1
  have n2 := hok.b.2.1
  have n4 := hok.d.2.2.1
  refine x_iload_n dR_laws_0 rfl ?_
  refine x_iconst (v := 0) dR_laws_1 rfl ?_
  refine x_iconst (v := 2) dR_laws_2 rfl ?_
  -- at 3: .invokestatic 151
  refine x_callS_3 c_R_in ok_R_in ml_R_151 dR_laws_3 rfl rfl ?_
  refine ⟨_, _, _, rfl, fun a1 => ?_, fun a1 => ?_⟩
  · have a1 : inR w 0 2 := a1
    refine x_if_ne (tgt := 12) dR_laws_6 (by decide) (fun _ => ?_) (fun h => absurd h (by decide))
    rw [lawsS, if_neg (not_not_intro a1)] at h1
    refine x_aload_n dR_laws_12 rfl ?_
    refine x_getI fl_R_164 rfl dR_laws_13 rfl rfl ?_
    refine x_istoren_2 dR_laws_16 rfl rfl ?_
    refine x_iconst (v := 0) dR_laws_17 rfl ?_
    refine x_istoren_3 dR_laws_18 rfl rfl ?_
    refine x_iconst (v := -1) dR_laws_19 rfl ?_
    refine x_istore_4 dR_laws_20 rfl rfl ?_
    refine x_iconst (v := 0) dR_laws_22 rfl ?_
    refine x_istore_5 dR_laws_23 rfl rfl ?_
    refine x_iconst (v := 0) dR_laws_25 rfl ?_
    refine x_istore_6 dR_laws_26 rfl rfl ?_
    -- at 28: .iload 6
    have loop : ∀ (k i : Nat) (acc a4 a5 : Int32) (a7 : Value) (I' : IM) (L' : LM), i + k = tN (rE I) → cat1at [a7] 1 = true → acc = bs i (lwBit (rE I)) → lwI (rE I) w i a4 a5 → rLawS I I' →
        X mR_laws G (9, 0, 0) S1 I' L' 28 [.ref 59, .int w, .int (I 59 27), .int acc, .int a4, .int a5, .int (nI i), a7] [] Post := by
      intro k
      induction k with
      | zero =>
        intro i acc a4 a5 a7 I' L' hi q7 ha hl sm
        have hi : i = tN (rE I) := by omega
        have e26 : I' 59 26 = nI (tN (rE I)) := by
          rw [sm.at (by decide), ← sm.2.1]
          exact (sm.inv hok).d.1
        refine x_iload dR_laws_28 rfl ?_
        refine x_aload_n dR_laws_30 rfl ?_
        refine x_getI fl_R_161 rfl dR_laws_31 rfl rfl ?_
        -- at 34: .if_icmp .ge 89
        rw [e26]
        refine x_icmp_ge (tgt := 123) dR_laws_34 (by decide) (fun _ => ?_) (fun h => absurd (by rw [hi]; exact Int32.le_refl _) h)
        refine x_aload_n dR_laws_123 rfl ?_
        refine x_iload_n dR_laws_124 rfl ?_
        refine x_putI fl_R_164 rfl dR_laws_125 (by decide) rfl rfl rfl rfl ?_
        refine x_iload_n dR_laws_128 rfl ?_
        -- at 129: .ifCond .ne 7
        refine x_if_ne (tgt := 136) dR_laws_129 (by decide) (fun w0 => ?_) (fun w0 => ?_)
        · refine x_iload dR_laws_136 rfl ?_
          -- at 138: .ireturn
          refine x_ireturn dR_laws_138 rfl rfl ?_
          rw [if_neg w0] at h1
          have e4 : a4 = (lwF (rE I) w (tN (rE I))).1 := by
            rw [hi] at hl
            rcases hl with z | ⟨rfl, z, -⟩ | ⟨rfl, z, -⟩
            · exact absurd z w0
            · exact z
            · exact z
          rw [e4]
          exact h1 sm
        · refine x_iload_n dR_laws_132 rfl ?_
          refine x_goto (tgt := 138) dR_laws_133 (by decide) ?_
          -- at 138: .ireturn
          refine x_ireturn dR_laws_138 rfl rfl ?_
          rw [if_pos w0] at h1
          rw [ha, hi]
          exact h1 sm
      | succ k ih =>
        intro i acc a4 a5 a7 I' L' hi q7 ha hl sm
        have e26 : I' 59 26 = nI (tN (rE I)) := by
          rw [sm.at (by decide), ← sm.2.1]
          exact (sm.inv hok).d.1
        refine x_iload dR_laws_28 rfl ?_
        refine x_aload_n dR_laws_30 rfl ?_
        refine x_getI fl_R_161 rfl dR_laws_31 rfl rfl ?_
        -- at 34: .if_icmp .ge 89
        rw [e26]
        refine x_icmp_ge (tgt := 123) dR_laws_34 (by decide) (fun h => absurd h (nI_ge (by omega) (by omega))) (fun _ => ?_)
        refine x_aload_n dR_laws_37 rfl ?_
        refine x_iload dR_laws_38 rfl ?_
        refine x_putI fl_R_164 rfl dR_laws_40 (by decide) rfl rfl rfl rfl ?_
        refine x_aload_n dR_laws_43 rfl ?_
        refine x_aload_n dR_laws_44 rfl ?_
        refine x_getI fl_R_158 rfl dR_laws_45 rfl rfl ?_
        -- at 48: .invokevirtual 295
        obtain ⟨o1, o2, o3, o4, o5, o6⟩ := rLaw_ow hok sm (t := i) (by omega)
        have sm1 := sm.up (nI i)
        generalize up2 I' 59 27 (nI i) = I1 at o1 o2 o3 o4 o5 o6 sm1
        rw [o6]
        refine x_callV_1 cE_R_owes ok_R_owes ml_R_295 dR_laws_48 rfl rfl rfl rfl rfl ?_
        refine ⟨sN (rE I), pN (rE I), qN (rE I), -1, prog (rE I) i, rE I, rfl, rfl, o1, o2, o3, o4, o5, fun I2 L2 hF2 _ hk => ?_⟩
        have hk : KpL I2 (rE I) i := hk
        have sm2 : rLawS I I2 := sm1.fr (hF2.wk (by decide))
        refine x_iload_n dR_laws_51 rfl ?_
        refine x_aload_n dR_laws_52 rfl ?_
        -- at 53: .invokevirtual 310
        refine x_callV_0 c_R_keptNow ok_R_keptNow ml_R_310 dR_laws_53 rfl rfl rfl rfl rfl ?_
        refine ⟨_, _, _, _, _, rfl, rfl, hk, ?_⟩
        have e12 : I2 59 12 = rE I 29 2 := hk.2.2.2.1.trans hok.b.1.symm
        refine x_iconst (v := 1) dR_laws_56 rfl ?_
        refine x_aload_n dR_laws_57 rfl ?_
        refine x_getI fl_R_155 rfl dR_laws_58 rfl rfl ?_
        refine x_ishl dR_laws_61 ?_
        refine x_iconst (v := 1) dR_laws_62 rfl ?_
        refine x_isub dR_laws_63 ?_
        -- at 64: .if_icmp .ne 10
        rw [e12]
        have tail : ∀ (v : Int32) (acc2 : Int32) (I3 : IM), acc2 = bs (i + 1) (lwBit (rE I)) → rLawS I I3 → lwW (rE I) w i v → X mR_laws G (9, 0, 0) S1 I3 L2 94 [.ref 59, .int w, .int (I 59 27), .int acc2, .int a4, .int a5, .int (nI i), a7] [.int v] Post := by
          intro v acc2 I3 ha2 sm3 hv
          have take : (a4 = -1 ∨ a5 < v) → X mR_laws G (9, 0, 0) S1 I3 L2 109 [.ref 59, .int w, .int (I 59 27), .int acc2, .int a4, .int a5, .int (nI i), .int v] [] Post := by
            intro hc
            refine x_iload dR_laws_109 rfl ?_
            refine x_istore_4 dR_laws_111 rfl rfl ?_
            refine x_iload dR_laws_113 rfl ?_
            refine x_istore_5 dR_laws_115 rfl rfl ?_
            refine x_iincp_6 dR_laws_117 rfl rfl ?_
            refine x_goto (tgt := 28) dR_laws_120 (by decide) ?_
            -- at 28: .iload 6
            rw [nI_1]
            exact ih (i + 1) acc2 _ _ _ I3 L2 (by omega) rfl ha2 (hl.take hv hc) sm3
          refine x_istore_7 dR_laws_94 rfl rfl ?_
          refine x_iload dR_laws_96 rfl ?_
          refine x_iconst (v := -1) dR_laws_98 rfl ?_
          -- at 99: .if_icmp .eq 10
          refine x_icmp_eq (tgt := 109) dR_laws_99 (by decide) (fun c1 => ?_) (fun c1 => ?_)
          · exact take (Or.inl c1)
          · refine x_iload dR_laws_102 rfl ?_
            refine x_iload dR_laws_104 rfl ?_
            -- at 106: .if_icmp .le 11
            refine x_icmp_le (tgt := 117) dR_laws_106 (by decide) (fun c2 => ?_) (fun c2 => ?_)
            · refine x_iincp_6 dR_laws_117 rfl rfl ?_
              refine x_goto (tgt := 28) dR_laws_120 (by decide) ?_
              -- at 28: .iload 6
              rw [nI_1]
              exact ih (i + 1) acc2 _ _ _ I3 L2 (by omega) rfl ha2 (hl.keep hv c1 (Int32.not_lt.mpr c2)) sm3
            · exact take (Or.inr (Int32.not_le.mp c2))
        have mid : ∀ acc2 : Int32, acc2 = bs (i + 1) (lwBit (rE I)) → X mR_laws G (9, 0, 0) S1 I2 L2 76 [.ref 59, .int w, .int (I 59 27), .int acc, .int a4, .int a5, .int (nI i), a7] [.int acc2] Post := by
          intro acc2 ha2
          refine x_istoren_3 dR_laws_76 rfl rfl ?_
          refine x_iload_n dR_laws_77 rfl ?_
          refine x_iconst (v := 1) dR_laws_78 rfl ?_
          -- at 79: .if_icmp .ne 10
          refine x_icmp_ne (tgt := 89) dR_laws_79 (by decide) (fun w1 => ?_) (fun w1 => ?_)
          · refine x_aload_n dR_laws_89 rfl ?_
            -- at 90: .invokevirtual 316
            refine x_callV_0 c_R_painNow ok_R_painNow ml_R_316 dR_laws_90 rfl rfl rfl rfl rfl ?_
            refine ⟨_, _, _, _, _, rfl, rfl, hk, fun I3 hF3 => ?_⟩
            have hp : rng (painA (rE I) (prog (rE I) i) (TQ (RT (rE I) i) (qN (rE I))) (pN (rE I))) (10000 * pN (rE I) + 1) := pain_nn _ _ _ _ n1
            refine x_ineg dR_laws_93 ?_
            -- at 94: .istore 7
            refine tail _ acc2 I3 ha2 (sm2.fr (hF3.wk (by decide))) ?_
            obtain ⟨j, hj, rfl⟩ := inR_of (n := 2) (by decide) a1
            rcases (show j = 0 ∨ j = 1 ∨ j = 2 by omega) with rfl | rfl | rfl
            · exact Or.inl rfl
            · exact absurd rfl w1
            · refine Or.inr (Or.inr ⟨rfl, ?_, ?_⟩)
              · rw [TQ_L]; rfl
              · have := rng_nn hp (by omega)
                rw [TQ_L] at this
                exact this
          · subst w1
            refine x_aload_n dR_laws_82 rfl ?_
            -- at 83: .invokevirtual 313
            refine x_callV_0 c_R_worthNow ok_R_worthNow ml_R_313 dR_laws_83 rfl rfl rfl rfl rfl ?_
            refine ⟨_, _, _, _, _, rfl, rfl, hk, ?_⟩
            refine x_goto (tgt := 94) dR_laws_86 (by decide) ?_
            -- at 94: .istore 7
            exact tail _ acc2 I2 ha2 sm2 (Or.inr (Or.inl ⟨rfl, rfl⟩))
        refine x_icmp_ne (tgt := 74) dR_laws_64 (by decide) (fun c1 => ?_) (fun c1 => ?_)
        · refine x_iconst (v := 0) dR_laws_74 rfl ?_
          refine x_ior dR_laws_75 ?_
          -- at 76: .istore_n 3
          refine x_eqi (y := acc) (by simp) ?_
          refine mid acc ?_
          rw [bs, if_neg (show ¬ lwBit (rE I) i = true from fun z => c1 (of_decide_eq_true z)), ha]
        · refine x_iconst (v := 1) dR_laws_67 rfl ?_
          refine x_iload dR_laws_68 rfl ?_
          refine x_ishl dR_laws_70 ?_
          refine x_goto (tgt := 75) dR_laws_71 (by decide) ?_
          refine x_ior dR_laws_75 ?_
          -- at 76: .istore_n 3
          refine mid _ ?_
          rw [bs, if_pos (show lwBit (rE I) i = true from decide_eq_true c1), ha]
          rfl
    refine loop (tN (rE I)) 0 0 (-1) 0 .null I L (by omega) rfl rfl ?_ ?_
    · obtain ⟨j, hj, rfl⟩ := inR_of (n := 2) (by decide) a1
      rcases (show j = 0 ∨ j = 1 ∨ j = 2 by omega) with rfl | rfl | rfl
      · exact Or.inl rfl
      · exact Or.inr (Or.inl ⟨rfl, rfl, rfl⟩)
      · exact Or.inr (Or.inr ⟨rfl, rfl, by rw [lwF]; decide, Int32.le_refl _⟩)
    · unfold rLawS
      rw [up59_id]
      exact rSame.refl own
  · have a1 : ¬ inR w 0 2 := a1
    refine x_if_ne (tgt := 12) dR_laws_6 (by decide) (fun h => absurd (by decide) h) (fun _ => ?_)
    rw [lawsS, if_pos a1] at h1
    refine x_bipush (v := -2) dR_laws_9 rfl ?_
    -- at 11: .ireturn
    refine x_ireturn dR_laws_11 rfl rfl ?_
    exact h1 (rSame.refl own)
