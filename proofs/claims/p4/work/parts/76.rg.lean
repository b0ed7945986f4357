/-! the reference's calls: drawn, odds -/
theorem sd1 {k : Nat} (h : k ≤ 99999) : (nI k + 1).toInt64 = (nI k).toInt64 + 1 := by
  rw [nI_1, nI_l (by omega), nI_l (by omega), lN_1]
def KpD (I' E : IM) (seed : Int32) : Prop := KpOk I' E (PE E) (RD E seed) (pN E) (qN E)
theorem TQ_D (E : IM) (seed : Int32) : TQ (RD E seed) (qN E) = TD E seed := by
  funext p
  exact tot_sum _ _ _ _ _ _
def sp_R_draws : SpT := fun as S I L Post => ∃ k : Nat, as = [.ref 59, .int (nI k)] ∧ S = S1 ∧ rOk I ∧ k ≤ 99999 ∧ ∀ (I' : IM) (L' : LM), rSame I I' → KpD I' (rE I) (nI k) → Post none S1 I' L'
set_option maxHeartbeats 4000000 in
set_option maxRecDepth 100000 in
theorem c_R_draws : Con mR_draws 9 0 0 sp_R_draws := by
  refine con_of_X rfl fun G as S I L Post hs => ?_
  obtain ⟨k, rfl, rfl, ⟨hok, own⟩, hk, h1⟩ := hs
  refine ⟨0, Nat.le_of_ble_eq_true rfl, ?_⟩
  show X mR_draws G _ S1 I L 0 [.ref 59, .int (nI k)] [] Post
  refine x_aload_n dR_draws_0 rfl ?_
  refine x_iload_n dR_draws_1 rfl ?_
  refine x_i2l dR_draws_2 ?_
  refine x_lconst (v := 1) dR_draws_3 rfl ?_
  refine x_ladd dR_draws_4 ?_
  refine x_putJ fl_R_263 rfl dR_draws_5 (by decide) rfl rfl rfl rfl ?_
  refine x_aload_n dR_draws_8 rfl ?_
  refine x_iconst (v := 1) dR_draws_9 rfl ?_
  refine x_putI fl_R_259 rfl dR_draws_10 (by decide) rfl rfl rfl rfl ?_
  refine x_aload_n dR_draws_13 rfl ?_
  refine x_aload_n dR_draws_14 rfl ?_
  refine x_getI fl_R_158 rfl dR_draws_15 rfl rfl ?_
  -- at 18: .invokevirtual 295
  have e17 : up2 I 59 55 1 59 17 = nI (sN (rE I)) := by
    rw [up2_s, up1_n _ _ (by decide)]
    exact hok.c.1
  rw [e17]
  obtain ⟨k1, k2, k3, k4, k5, k6⟩ := rRk hok
  obtain ⟨w1, w2, w3, w4⟩ := rOw hok (sN (rE I))
  have hn : ∀ j, j ≠ 55 → up2 I 59 55 1 59 j = I 59 j := fun j hj => by rw [up2_s, up1_n _ _ hj]
  refine x_callV_1 c_R_owes ok_R_owes ml_R_295 dR_draws_18 rfl rfl rfl rfl rfl ?_
  refine ⟨sN (rE I), pN (rE I), qN (rE I), -1, PE (rE I), CDr (rV I) (PE (rE I)) (pN (rE I)) ((nI k).toInt64 + 1), rfl, rfl, ⟨by rw [hn 3 (by decide)]; exact k1, k2, k3, by rw [rV_59]; exact k4, by rw [rV_59]; exact k5, k6.up59 (by decide) _⟩, ⟨by rw [hn 12 (by decide)]; exact w1, w2, by rw [rV_59]; exact w3, by rw [rV_59]; exact w4⟩, by rw [hn 60 (by decide)]; exact own.2.1, Or.inl rfl, Or.inr ⟨by rw [up2_s, up1_s], (nI k).toInt64 + 1, ?_, by rw [rV_59]⟩, fun I2 L2 hF2 ho => ?_⟩
  · rw [up2_s, Nat.zero_mul, lot]
    simp [up1]
  · refine x_aload_n dR_draws_21 rfl ?_
    refine x_iconst (v := 0) dR_draws_22 rfl ?_
    refine x_putI fl_R_259 rfl dR_draws_23 (by decide) rfl rfl rfl rfl ?_
    -- at 26: .return_
    refine x_return dR_draws_26 rfl ?_
    rw [rV_59] at ho
    have ho2 := rowesR_eq (D' := DD (rE I) (PE (rE I)) (CDE (rE I) (nI k))) (rVE I) (Nat.le_refl _) (fun p hp s hs => by unfold DD CDE; rw [share_eq (rVE I) _ hs, CDr_eq (rVE I) _ _ hs, sd1 hk]) ho
    have hF3 : Fr [94, 95, 96, 97, 98] I (up2 I2 59 55 0) := fun j hj => by
      by_cases e : j = 59
      · subst e
        rw [up2_s, hF2 59 (by decide), up2_s]
        funext i
        unfold up1
        by_cases e2 : i = 55
        · subst e2; simp only [if_true]; exact own.1.symm
        · simp [e2]
      · rw [up2_n _ _ _ e, hF2 j hj, up2_n _ _ _ e]
    have hrow : RowR (up2 I2 59 55 0) (pN (rE I)) (RD (rE I) (nI k)) := by
      unfold RowR
      rw [up2_n _ _ _ (by decide)]
      exact ho2.1
    generalize up2 I2 59 55 0 = I3 at hF3 hrow
    have sm := rSame.of own hF3
    refine h1 I3 L2 sm ⟨⟨sN (rE I), by rw [rV_fr (hF3.wk (by decide))]; exact rVE I⟩, by rw [hF3 59 (by decide)]; exact k1, k2, by rw [hF3 59 (by decide)]; exact w1, w2, hrow, k6.fr (hF3 59 (by decide)) (hF3 79 (by decide)) (hF3 80 (by decide))⟩
def sp_R_drawn : SpT := fun as S I L Post => ∃ seed w : Int32, rSp [.int seed, .int w] (fun E => .int (drawnS E seed w)) (fun E => E) as S I L Post
set_option maxHeartbeats 4000000 in
set_option maxRecDepth 100000 in
theorem c_R_drawn : Con mR_drawn 10 0 0 sp_R_drawn := by
  refine con_of_X rfl fun G as S I L Post hs => ?_
  obtain ⟨seed, w, rfl, rfl, ⟨hok, own⟩, h1⟩ := hs
  dsimp only at h1
  have h1 := r_end h1
  refine ⟨0, Nat.le_of_ble_eq_true rfl, ?_⟩
  show X mR_drawn G _ S1 I L 0 [.ref 59, .int seed, .int w] [] Post
  have bad : ¬ drwC seed w → X mR_drawn G (10, 0, 0) S1 I L 20 [.ref 59, .int seed, .int w] [] Post := by
    intro hc
    rw [drawnS, if_pos hc] at h1
    refine x_bipush (v := -2) dR_drawn_20 rfl ?_
    -- at 22: .ireturn
    refine x_ireturn dR_drawn_22 rfl rfl ?_
    exact h1 (rSame.refl own)
  refine x_iload_n dR_drawn_0 rfl ?_
  refine x_iconst (v := 0) dR_drawn_1 rfl ?_
  refine x_ldcw dR_drawn_2 cn_R_353 ?_
  -- at 5: .invokestatic 151
  refine x_callS_3 c_R_in ok_R_in ml_R_151 dR_drawn_5 rfl rfl ?_
  refine ⟨_, _, _, rfl, fun a1 => ?_, fun a1 => ?_⟩
  · refine x_if_eq (tgt := 20) dR_drawn_8 (by decide) (fun h => absurd h (by decide)) (fun _ => ?_)
    refine x_iload_n dR_drawn_11 rfl ?_
    refine x_iconst (v := 0) dR_drawn_12 rfl ?_
    refine x_iconst (v := 2) dR_drawn_13 rfl ?_
    -- at 14: .invokestatic 151
    refine x_callS_3 c_R_in ok_R_in ml_R_151 dR_drawn_14 rfl rfl ?_
    refine ⟨_, _, _, rfl, fun a2 => ?_, fun a2 => ?_⟩
    · refine x_if_ne (tgt := 23) dR_drawn_17 (by decide) (fun _ => ?_) (fun h => absurd h (by decide))
      have a1 : inR seed 0 99999 := a1
      have a2 : inR w 0 2 := a2
      rw [drawnS, if_neg (not_not_intro (show drwC seed w from ⟨a1, a2⟩)), outE, outV] at h1
      obtain ⟨k, hk, rfl⟩ := inR_of (n := 99999) (by decide) a1
      refine x_aload_n dR_drawn_23 rfl ?_
      refine x_iload_n dR_drawn_24 rfl ?_
      -- at 25: .invokevirtual 354
      refine x_callV_1 c_R_draws ok_R_draws ml_R_354 dR_drawn_25 rfl rfl rfl rfl rfl ?_
      refine ⟨k, rfl, rfl, ⟨hok, own⟩, hk, fun I2 L2 sm hkp => ?_⟩
      refine x_iload_n dR_drawn_28 rfl ?_
      -- at 29: .ifCond .ne 10
      refine x_if_ne (tgt := 39) dR_drawn_29 (by decide) (fun w0 => ?_) (fun w0 => ?_)
      · rw [if_neg w0] at h1
        refine x_iload_n dR_drawn_39 rfl ?_
        refine x_iconst (v := 1) dR_drawn_40 rfl ?_
        -- at 41: .if_icmp .ne 10
        refine x_icmp_ne (tgt := 51) dR_drawn_41 (by decide) (fun w1 => ?_) (fun w1 => ?_)
        · rw [if_neg w1] at h1
          refine x_aload_n dR_drawn_51 rfl ?_
          -- at 52: .invokevirtual 316
          refine x_callV_0 c_R_painNow ok_R_painNow ml_R_316 dR_drawn_52 rfl rfl rfl rfl rfl ?_
          refine ⟨_, _, _, _, _, rfl, rfl, hkp, fun I3 hF3 => ?_⟩
          refine x_ireturn dR_drawn_55 rfl rfl ?_
          rw [TQ_D]
          exact h1 (sm.fr (hF3.wk (by decide)))
        · rw [if_pos w1] at h1
          refine x_aload_n dR_drawn_44 rfl ?_
          -- at 45: .invokevirtual 313
          refine x_callV_0 c_R_worthNow ok_R_worthNow ml_R_313 dR_drawn_45 rfl rfl rfl rfl rfl ?_
          refine ⟨_, _, _, _, _, rfl, rfl, hkp, ?_⟩
          refine x_goto (tgt := 55) dR_drawn_48 (by decide) ?_
          -- at 55: .ireturn
          refine x_ireturn dR_drawn_55 rfl rfl ?_
          exact h1 sm
      · rw [if_pos w0] at h1
        refine x_aload_n dR_drawn_32 rfl ?_
        -- at 33: .invokevirtual 310
        refine x_callV_0 c_R_keptNow ok_R_keptNow ml_R_310 dR_drawn_33 rfl rfl rfl rfl rfl ?_
        refine ⟨_, _, _, _, _, rfl, rfl, hkp, ?_⟩
        refine x_goto (tgt := 55) dR_drawn_36 (by decide) ?_
        -- at 55: .ireturn
        refine x_ireturn dR_drawn_55 rfl rfl ?_
        exact h1 sm
    · refine x_if_ne (tgt := 23) dR_drawn_17 (by decide) (fun h => absurd (by decide) h) (fun _ => ?_)
      exact bad (fun z => a2 z.2)
  · refine x_if_eq (tgt := 20) dR_drawn_8 (by decide) (fun _ => ?_) (fun h => absurd (by decide) h)
    exact bad (fun z => a1 z.1)
theorem lw_cmp : ∀ a, a ≤ 20 → (lg_cmp (lN a) 0 = 0 ↔ a = 0) := by decide +kernel
theorem lw_rem : ∀ a, a ≤ 20 → ∀ b, b ≤ 20 → ¬ b = 0 → lN a - lN a / lN b * lN b = lN (a % b) ∧ lN a / lN b = lN (a / b) ∧ ¬ lN b = 0 := by decide +kernel
def sp_R_lowest : SpT := fun as S I L Post => ∃ (a b : Nat) (part : Int32), as = [.long (lN a), .long (lN b), .int part] ∧ a ≤ 20 ∧ 1 ≤ b ∧ b ≤ 20 ∧ inR part 0 1 ∧ Post (some (.long (lowV a b part))) S I L
set_option maxHeartbeats 4000000 in
set_option maxRecDepth 100000 in
theorem c_R_lowest : Con mR_lowest 2 0 0 sp_R_lowest := by
  refine con_of_X rfl fun G as S I L Post hs => ?_
  obtain ⟨a, b, part, rfl, ha, hb1, hb, hp, h1⟩ := hs
  refine ⟨6, Nat.le_of_ble_eq_true rfl, ?_⟩
  show X mR_lowest G _ S I L 0 [.long (lN a), .null, .long (lN b), .null, .int part, .null, .null, .null, .null, .null, .null] [] Post
  refine x_lload_n dR_lowest_0 rfl ?_
  refine x_lconst (v := 0) dR_lowest_1 rfl ?_
  refine x_lcmp dR_lowest_2 ?_
  -- at 3: .ifCond .ne 7
  by_cases h0 : a = 0
  · subst h0
    refine x_if_ne (tgt := 10) dR_lowest_3 (by decide) (fun h => absurd ((lw_cmp 0 (by omega)).mpr rfl) h) (fun _ => ?_)
    refine x_iload dR_lowest_6 rfl ?_
    refine x_i2l dR_lowest_8 ?_
    -- at 9: .lreturn
    refine x_lreturn dR_lowest_9 rfl ?_
    obtain ⟨j, hj, rfl⟩ := inR_of (n := 1) (by decide) hp
    have e : lowV 0 b (nI j) = (nI j).toInt64 := by
      unfold lowV
      rw [Nat.gcd_zero_left]
      rcases (show j = 0 ∨ j = 1 by omega) with rfl | rfl
      · rw [if_pos (by decide), Nat.zero_div]
      · rw [if_neg (by decide), Nat.div_self hb1]
    rw [← e]
    exact h1
  · refine x_if_ne (tgt := 10) dR_lowest_3 (by decide) (fun _ => ?_) (fun h => absurd h (fun z => h0 ((lw_cmp a ha).mp z)))
    refine x_lload_n dR_lowest_10 rfl ?_
    refine x_lstore_5 dR_lowest_11 rfl rfl ?_
    refine x_lload_n dR_lowest_13 rfl ?_
    refine x_lstore_7 dR_lowest_14 rfl rfl ?_
    -- at 16: .lload 7
    have loop : ∀ (k x y : Nat) (a9 : Value), y ≤ k → x ≤ 20 → y ≤ 20 → (a9 = .null ∨ ∃ z, a9 = .long z) → Nat.gcd y x = Nat.gcd a b → X mR_lowest G (2, 0, 0) S I L 16 [.long (lN a), .null, .long (lN b), .null, .int part, .long (lN x), .null, .long (lN y), .null, a9, .null] [] Post := by
      intro k
      have fin : ∀ (x : Nat) (a9 : Value), x = Nat.gcd a b → X mR_lowest G (2, 0, 0) S I L 41 [.long (lN a), .null, .long (lN b), .null, .int part, .long (lN x), .null, .long (lN 0), .null, a9, .null] [] Post := by
        intro x a9 hx
        subst hx
        have g0 : 0 < Nat.gcd a b := Nat.gcd_pos_of_pos_right a hb1
        have g1 : Nat.gcd a b ≤ b := Nat.gcd_le_right a hb1
        refine x_iload dR_lowest_41 rfl ?_
        -- at 43: .ifCond .ne 7
        refine x_if_ne (tgt := 50) dR_lowest_43 (by decide) (fun c1 => ?_) (fun c1 => ?_)
        · obtain ⟨-, e1, e2⟩ := lw_rem b hb (Nat.gcd a b) (by omega) (by omega)
          refine x_lload_n dR_lowest_50 rfl ?_
          refine x_lload dR_lowest_51 rfl ?_
          -- at 53: .ldiv
          refine x_ldiv dR_lowest_53 e2 ?_
          -- at 54: .lreturn
          refine x_lreturn dR_lowest_54 rfl ?_
          rw [e1]
          have e3 : lowV a b part = lN (b / Nat.gcd a b) := by
            unfold lowV
            rw [if_neg c1, nI_l (Nat.lt_of_le_of_lt (Nat.div_le_self _ _) (by omega))]
          rw [← e3]
          exact h1
        · obtain ⟨-, e1, e2⟩ := lw_rem a ha (Nat.gcd a b) (by omega) (by omega)
          refine x_lload_n dR_lowest_46 rfl ?_
          refine x_goto (tgt := 51) dR_lowest_47 (by decide) ?_
          refine x_lload dR_lowest_51 rfl ?_
          -- at 53: .ldiv
          refine x_ldiv dR_lowest_53 e2 ?_
          -- at 54: .lreturn
          refine x_lreturn dR_lowest_54 rfl ?_
          rw [e1]
          have e3 : lowV a b part = lN (a / Nat.gcd a b) := by
            unfold lowV
            rw [if_pos c1, nI_l (Nat.lt_of_le_of_lt (Nat.div_le_self _ _) (by omega))]
          rw [← e3]
          exact h1
      induction k with
      | zero =>
        intro x y a9 hy hx hy2 h9 hg
        obtain rfl : y = 0 := by omega
        refine x_lload dR_lowest_16 rfl ?_
        refine x_lconst (v := 0) dR_lowest_18 rfl ?_
        refine x_lcmp dR_lowest_19 ?_
        -- at 20: .ifCond .eq 21
        refine x_if_eq (tgt := 41) dR_lowest_20 (by decide) (fun _ => ?_) (fun h => absurd ((lw_cmp 0 (by omega)).mpr rfl) h)
        exact fin x a9 (by rw [← hg, Nat.gcd_zero_left])
      | succ k ih =>
        intro x y a9 hy hx hy2 h9 hg
        refine x_lload dR_lowest_16 rfl ?_
        refine x_lconst (v := 0) dR_lowest_18 rfl ?_
        refine x_lcmp dR_lowest_19 ?_
        -- at 20: .ifCond .eq 21
        by_cases hy0 : y = 0
        · subst hy0
          refine x_if_eq (tgt := 41) dR_lowest_20 (by decide) (fun _ => ?_) (fun h => absurd ((lw_cmp 0 (by omega)).mpr rfl) h)
          exact fin x a9 (by rw [← hg, Nat.gcd_zero_left])
        · obtain ⟨e1, -, e2⟩ := lw_rem x hx y hy2 hy0
          have hlt : x % y < y := Nat.mod_lt _ (by omega)
          refine x_if_eq (tgt := 41) dR_lowest_20 (by decide) (fun h => absurd h (fun z => hy0 ((lw_cmp y hy2).mp z))) (fun _ => ?_)
          rcases h9 with rfl | ⟨z9, rfl⟩
          · refine x_lload dR_lowest_23 rfl ?_
            refine x_lload dR_lowest_25 rfl ?_
            refine x_lrem dR_lowest_27 e2 ?_
            -- at 28: .lstore 9
            rw [e1]
            refine x_lstore_9 dR_lowest_28 rfl rfl ?_
            refine x_lload dR_lowest_30 rfl ?_
            refine x_lstore_5 dR_lowest_32 rfl rfl ?_
            refine x_lload dR_lowest_34 rfl ?_
            refine x_lstore_7 dR_lowest_36 rfl rfl ?_
            refine x_goto (tgt := 16) dR_lowest_38 (by decide) ?_
            -- at 16: .lload 7
            exact ih y (x % y) _ (by omega) hy2 (by omega) (Or.inr ⟨_, rfl⟩) (by rw [← hg]; exact (Nat.gcd_rec y x).symm)
          · refine x_lload dR_lowest_23 rfl ?_
            refine x_lload dR_lowest_25 rfl ?_
            refine x_lrem dR_lowest_27 e2 ?_
            -- at 28: .lstore 9
            rw [e1]
            refine x_lstore_9 dR_lowest_28 rfl rfl ?_
            refine x_lload dR_lowest_30 rfl ?_
            refine x_lstore_5 dR_lowest_32 rfl rfl ?_
            refine x_lload dR_lowest_34 rfl ?_
            refine x_lstore_7 dR_lowest_36 rfl rfl ?_
            refine x_goto (tgt := 16) dR_lowest_38 (by decide) ?_
            -- at 16: .lload 7
            exact ih y (x % y) _ (by omega) hy2 (by omega) (Or.inr ⟨_, rfl⟩) (by rw [← hg]; exact (Nat.gcd_rec y x).symm)
    exact loop b a b .null (Nat.le_refl _) ha hb (Or.inl rfl) (Nat.gcd_comm b a)
theorem imin_in {x : Int32} {i : Nat} (h : inR x 0 99999) (hi : i ≤ 20) : ∃ k, k ≤ 99999 ∧ imin (x + nI i) 99999 = nI k := by
  obtain ⟨n, hn, rfl⟩ := inR_of (n := 99999) (by decide) h
  rw [nI_add]
  unfold imin
  split
  · exact ⟨99999, Nat.le_refl _, rfl⟩
  · rename_i c
    refine ⟨n + i, ?_, rfl⟩
    exact (nI_leI (b := 99999) (by omega) (by omega)).mp (Int32.not_lt.mp c)
def sp_R_odds : SpT := fun as S I L Post => ∃ q seed many part : Int32, rSp [.int q, .int seed, .int many, .int part] (fun E => .long (oddsS E q seed many part)) (fun E => E) as S I L Post
set_option maxHeartbeats 4000000 in
set_option maxRecDepth 100000 in
theorem c_R_odds : Con mR_odds 10 0 0 sp_R_odds := by
  refine con_of_X rfl fun G as S I L Post hs => ?_
  obtain ⟨q0, seed, many, part, rfl, rfl, ⟨hok, own⟩, h1⟩ := hs
  dsimp only at h1
  have h1 := r_end h1
  refine ⟨4, Nat.le_of_ble_eq_true rfl, ?_⟩
  show X mR_odds G _ S1 I L 0 [.ref 59, .int q0, .int seed, .int many, .int part, .null, .null, .null, .null] [] Post
  have n2 := hok.b.2.1
  have bad : ¬ oddC (rE I) q0 seed many part → X mR_odds G (10, 0, 0) S1 I L 43 [.ref 59, .int q0, .int seed, .int many, .int part, .null, .null, .null, .null] [] Post := by
    intro hc
    rw [oddsS, if_pos hc] at h1
    refine x_iconst (v := 0) dR_odds_43 rfl ?_
    refine x_istore_5 dR_odds_44 rfl rfl ?_
    refine x_iload dR_odds_46 rfl ?_
    -- at 48: .ifCond .ne 7
    refine x_if_ne (tgt := 55) dR_odds_48 (by decide) (fun h => absurd rfl h) (fun _ => ?_)
    refine x_ldc2 dR_odds_51 cn_R_345 ?_
    -- at 54: .lreturn
    refine x_lreturn dR_odds_54 rfl ?_
    exact h1 (rSame.refl own)
  refine x_aload_n dR_odds_0 rfl ?_
  refine x_iload_n dR_odds_1 rfl ?_
  -- at 2: .invokevirtual 236
  refine x_callV_1 c_R_isPromise ok_R_isPromise ml_R_236 dR_odds_2 rfl rfl rfl rfl rfl ?_
  refine ⟨_, rfl, rfl, fun a1 => ?_, fun a1 => ?_⟩
  · refine x_if_eq (tgt := 43) dR_odds_5 (by decide) (fun h => absurd h (by decide)) (fun _ => ?_)
    refine x_iload_n dR_odds_8 rfl ?_
    refine x_iconst (v := 0) dR_odds_9 rfl ?_
    refine x_ldcw dR_odds_10 cn_R_353 ?_
    -- at 13: .invokestatic 151
    refine x_callS_3 c_R_in ok_R_in ml_R_151 dR_odds_13 rfl rfl ?_
    refine ⟨_, _, _, rfl, fun a2 => ?_, fun a2 => ?_⟩
    · refine x_if_eq (tgt := 43) dR_odds_16 (by decide) (fun h => absurd h (by decide)) (fun _ => ?_)
      refine x_iload_n dR_odds_19 rfl ?_
      refine x_iconst (v := 1) dR_odds_20 rfl ?_
      refine x_bipush (v := 20) dR_odds_21 rfl ?_
      -- at 23: .invokestatic 151
      refine x_callS_3 c_R_in ok_R_in ml_R_151 dR_odds_23 rfl rfl ?_
      refine ⟨_, _, _, rfl, fun a3 => ?_, fun a3 => ?_⟩
      · refine x_if_eq (tgt := 43) dR_odds_26 (by decide) (fun h => absurd h (by decide)) (fun _ => ?_)
        refine x_iload dR_odds_29 rfl ?_
        refine x_iconst (v := 0) dR_odds_31 rfl ?_
        refine x_iconst (v := 1) dR_odds_32 rfl ?_
        -- at 33: .invokestatic 151
        refine x_callS_3 c_R_in ok_R_in ml_R_151 dR_odds_33 rfl rfl ?_
        refine ⟨_, _, _, rfl, fun a4 => ?_, fun a4 => ?_⟩
        · refine x_if_eq (tgt := 43) dR_odds_36 (by decide) (fun h => absurd h (by decide)) (fun _ => ?_)
          refine x_iconst (v := 1) dR_odds_39 rfl ?_
          refine x_goto (tgt := 44) dR_odds_40 (by decide) ?_
          refine x_istore_5 dR_odds_44 rfl rfl ?_
          refine x_iload dR_odds_46 rfl ?_
          -- at 48: .ifCond .ne 7
          refine x_if_ne (tgt := 55) dR_odds_48 (by decide) (fun _ => ?_) (fun h => absurd h (by decide))
          have a1 : inR q0 0 (rE I 29 2 - 1) := a1
          have a3 : inR many 1 20 := a3
          rw [oddsS, if_neg (not_not_intro (show oddC (rE I) q0 seed many part from ⟨a1, a2, a3, a4⟩))] at h1
          rw [show rE I 29 2 = nI (qN (rE I)) from hok.b.1] at a1
          obtain ⟨q, hq, rfl⟩ := has_nat (by omega) a1
          have hm : ∃ m, 1 ≤ m ∧ m ≤ 20 ∧ many = nI m := by
            obtain ⟨m, hm, e⟩ := inR_of (n := 20) (by decide) (show inR many 0 20 from ⟨Int32.le_trans (by decide) a3.1, a3.2⟩)
            refine ⟨m, ?_, hm, e⟩
            by_cases h0 : m = 0
            · subst h0
              subst e
              exact absurd a3.1 (by decide)
            · omega
          obtain ⟨m, hm1, hm20, rfl⟩ := hm
          rw [cl_nI (by omega), cl_nI (by omega)] at h1
          refine x_lconst (v := 0) dR_odds_55 rfl ?_
          refine x_lstore_6 dR_odds_56 rfl rfl ?_
          refine x_iconst (v := 0) dR_odds_58 rfl ?_
          refine x_istore_8 dR_odds_59 rfl rfl ?_
          -- at 61: .iload 8
          have loop : ∀ (k i : Nat) (I' : IM) (L' : LM) (x : Int32), i + k = m → rSame I I' → X mR_odds G (10, 0, 0) S1 I' L' 61 [.ref 59, .int (nI q), .int seed, .int (nI m), .int part, .int x, .long (lN (odN (rE I) q seed i)), .null, .int (nI i)] [] Post := by
            intro k
            induction k with
            | zero =>
              intro i I' L' x hi sm
              obtain rfl : i = m := by omega
              have hle := odN_le (rE I) q seed i
              refine x_iload dR_odds_61 rfl ?_
              refine x_iload_n dR_odds_63 rfl ?_
              -- at 64: .if_icmp .ge 51
              refine x_icmp_ge (tgt := 115) dR_odds_64 (by decide) (fun _ => ?_) (fun h => absurd (Int32.le_refl _) h)
              refine x_lload dR_odds_115 rfl ?_
              refine x_iload_n dR_odds_117 rfl ?_
              refine x_i2l dR_odds_118 ?_
              refine x_iload dR_odds_119 rfl ?_
              -- at 121: .invokestatic 357
              rw [nI_l (by omega)]
              refine x_callS_3 c_R_lowest ok_R_lowest ml_R_357 dR_odds_121 rfl rfl ?_
              refine ⟨odN (rE I) q seed i, i, part, rfl, by omega, hm1, hm20, a4, ?_⟩
              refine x_lreturn dR_odds_124 rfl ?_
              exact h1 sm
            | succ k ih =>
              intro i I' L' x hi sm
              have hle := odN_le (rE I) q seed i
              refine x_iload dR_odds_61 rfl ?_
              refine x_iload_n dR_odds_63 rfl ?_
              -- at 64: .if_icmp .ge 51
              refine x_icmp_ge (tgt := 115) dR_odds_64 (by decide) (fun h => absurd h (nI_ge (by omega) (by omega))) (fun _ => ?_)
              have go : X mR_odds G (10, 0, 0) S1 I' L' 88 [.ref 59, .int (nI q), .int seed, .int (nI m), .int part, .int x, .long (lN (odN (rE I) q seed i)), .null, .int (nI i)] [.int (imin (seed + nI i) 99999), .ref 59] Post := by
                obtain ⟨s2, hs2, es2⟩ := imin_in (i := i) a2 (by omega)
                have hs : odN (rE I) q seed (i + 1) = if keepsV (rE I) (pN (rE I)) (RD (rE I) (nI s2)) q = true then odN (rE I) q seed i + 1 else odN (rE I) q seed i := by rw [odN, es2]
                rw [es2]
                refine x_callV_1 c_R_draws ok_R_draws ml_R_354 dR_odds_88 rfl rfl rfl rfl rfl ?_
                refine ⟨s2, rfl, rfl, ⟨sm.inv hok, sm.2.2⟩, hs2, fun I2 L2 sm2 hk => ?_⟩
                rw [sm.2.1] at hk
                refine x_lload dR_odds_91 rfl ?_
                refine x_aload_n dR_odds_93 rfl ?_
                refine x_iload_n dR_odds_94 rfl ?_
                -- at 95: .invokevirtual 307
                refine x_callV_1 c_R_isKept ok_R_isKept ml_R_307 dR_odds_95 rfl rfl rfl rfl rfl ?_
                refine ⟨q, _, _, _, _, _, rfl, rfl, by omega, hk, fun g => ?_, fun g => ?_⟩
                · rw [if_pos g] at hs
                  refine x_if_eq (tgt := 105) dR_odds_98 (by decide) (fun h => absurd h (by decide)) (fun _ => ?_)
                  refine x_lconst (v := 1) dR_odds_101 rfl ?_
                  refine x_goto (tgt := 106) dR_odds_102 (by decide) ?_
                  refine x_ladd dR_odds_106 ?_
                  refine x_lstore_6 dR_odds_107 rfl rfl ?_
                  refine x_iincp_8 dR_odds_109 rfl rfl ?_
                  refine x_goto (tgt := 61) dR_odds_112 (by decide) ?_
                  -- at 61: .iload 8
                  rw [nI_1, lN_1, ← hs]
                  exact ih (i + 1) I2 L2 x (by omega) (sm.tr sm2)
                · rw [if_neg g] at hs
                  refine x_if_eq (tgt := 105) dR_odds_98 (by decide) (fun _ => ?_) (fun h => absurd (by decide) h)
                  refine x_lconst (v := 0) dR_odds_105 rfl ?_
                  refine x_ladd dR_odds_106 ?_
                  refine x_lstore_6 dR_odds_107 rfl rfl ?_
                  refine x_iincp_8 dR_odds_109 rfl rfl ?_
                  refine x_goto (tgt := 61) dR_odds_112 (by decide) ?_
                  -- at 61: .iload 8
                  rw [nI_1, Int64.add_zero, ← hs]
                  exact ih (i + 1) I2 L2 x (by omega) (sm.tr sm2)
              refine x_aload_n dR_odds_67 rfl ?_
              refine x_iload_n dR_odds_68 rfl ?_
              refine x_iload dR_odds_69 rfl ?_
              refine x_iadd dR_odds_71 ?_
              refine x_ldcw dR_odds_72 cn_R_353 ?_
              -- at 75: .if_icmp .le 9
              refine x_icmp_le (tgt := 84) dR_odds_75 (by decide) (fun c1 => ?_) (fun c1 => ?_)
              · refine x_iload_n dR_odds_84 rfl ?_
                refine x_iload dR_odds_85 rfl ?_
                refine x_iadd dR_odds_87 ?_
                -- at 88: .invokevirtual 354
                have e : imin (seed + nI i) 99999 = seed + nI i := by unfold imin; rw [if_neg (Int32.not_lt.mpr c1)]
                rw [← e]
                exact go
              · refine x_ldcw dR_odds_78 cn_R_353 ?_
                refine x_goto (tgt := 88) dR_odds_81 (by decide) ?_
                -- at 88: .invokevirtual 354
                have e : imin (seed + nI i) 99999 = 99999 := by unfold imin; rw [if_pos (Int32.not_le.mp c1)]
                rw [← e]
                exact go
          exact loop m 0 I L 1 (by omega) (rSame.refl own)
        · refine x_if_eq (tgt := 43) dR_odds_36 (by decide) (fun _ => ?_) (fun h => absurd (by decide) h)
          exact bad (fun z => a4 z.2.2.2)
      · refine x_if_eq (tgt := 43) dR_odds_26 (by decide) (fun _ => ?_) (fun h => absurd (by decide) h)
        exact bad (fun z => a3 z.2.2.1)
    · refine x_if_eq (tgt := 43) dR_odds_16 (by decide) (fun _ => ?_) (fun h => absurd (by decide) h)
      exact bad (fun z => a2 z.2.1)
  · refine x_if_eq (tgt := 43) dR_odds_5 (by decide) (fun _ => ?_) (fun h => absurd (by decide) h)
    exact bad (fun z => a1 z.1)
/-! sheets that tell: what keeps them from it, else any answer -/
def rwSp (args : List Value) (bad : IM → Int32) : SpT := fun as S I L Post => as = .ref 59 :: args ∧ S = S1 ∧ rOk I ∧ ∀ (v : Int32) (I' : IM) (L' : LM), rSame I I' → (¬ bad (rE I) = 0 → v = bad (rE I)) → Post (some (.int v)) S1 I' L'
def sp_R_sheetWrong : SpT := fun as S I L Post => ∃ s : Int32, as = [.ref 59, .int s] ∧ S = S1 ∧ Post (some (.int (wRef (rE I) s))) S1 I L
set_option maxHeartbeats 4000000 in
set_option maxRecDepth 100000 in
theorem c_R_sheetWrong : Con mR_sheetWrong 3 0 0 sp_R_sheetWrong := by
  refine con_of_X rfl fun G as S I L Post hs => ?_
  obtain ⟨s, rfl, rfl, h1⟩ := hs
  refine ⟨0, Nat.le_of_ble_eq_true rfl, ?_⟩
  show X mR_sheetWrong G _ S1 I L 0 [.ref 59, .int s] [] Post
  refine x_iload_n dR_sheetWrong_0 rfl ?_
  refine x_iconst (v := 0) dR_sheetWrong_1 rfl ?_
  refine x_iconst (v := 3) dR_sheetWrong_2 rfl ?_
  -- at 3: .invokestatic 151
  refine x_callS_3 c_R_in ok_R_in ml_R_151 dR_sheetWrong_3 rfl rfl ?_
  refine ⟨_, _, _, rfl, fun a1 => ?_, fun a1 => ?_⟩
  · have a1 : inR s 0 3 := a1
    refine x_if_ne (tgt := 12) dR_sheetWrong_6 (by decide) (fun _ => ?_) (fun h => absurd h (by decide))
    rw [wRef, if_neg (not_not_intro a1)] at h1
    obtain ⟨k, hk, rfl⟩ := inR_of (n := 3) (by decide) a1
    rw [cl_nI (by omega)] at h1
    refine x_aload_n dR_sheetWrong_12 rfl ?_
    refine x_getR fl_R_98 rfl dR_sheetWrong_13 rfl rfl rfl ?_
    refine x_iload_n dR_sheetWrong_16 rfl ?_
    refine x_ialdJ (j := k) dR_sheetWrong_17 rfl rfl (by first | rfl | (simp only [← nI_add, ← pk_mul]; rfl)) (by omega) ?_
    refine x_iconst (v := -1) dR_sheetWrong_18 rfl ?_
    -- at 19: .if_icmp .ne 6
    have h1 : Post (some (.int (if I 88 k = -1 then -11 else if I 89 k = I 59 17 then 0 else -2))) S1 I L := h1
    refine x_icmp_ne (tgt := 25) dR_sheetWrong_19 (by decide) (fun c1 => ?_) (fun c1 => ?_)
    · rw [if_neg c1] at h1
      refine x_aload_n dR_sheetWrong_25 rfl ?_
      refine x_getR fl_R_101 rfl dR_sheetWrong_26 rfl rfl rfl ?_
      refine x_iload_n dR_sheetWrong_29 rfl ?_
      refine x_ialdJ (j := k) dR_sheetWrong_30 rfl rfl (by first | rfl | (simp only [← nI_add, ← pk_mul]; rfl)) (by omega) ?_
      refine x_aload_n dR_sheetWrong_31 rfl ?_
      refine x_getI fl_R_158 rfl dR_sheetWrong_32 rfl rfl ?_
      -- at 35: .if_icmp .ne 7
      refine x_icmp_ne (tgt := 42) dR_sheetWrong_35 (by decide) (fun c2 => ?_) (fun c2 => ?_)
      · rw [if_neg c2] at h1
        refine x_bipush (v := -2) dR_sheetWrong_42 rfl ?_
        -- at 44: .ireturn
        refine x_ireturn dR_sheetWrong_44 rfl rfl ?_
        exact h1
      · rw [if_pos c2] at h1
        refine x_iconst (v := 0) dR_sheetWrong_38 rfl ?_
        refine x_goto (tgt := 44) dR_sheetWrong_39 (by decide) ?_
        -- at 44: .ireturn
        refine x_ireturn dR_sheetWrong_44 rfl rfl ?_
        exact h1
    · rw [if_pos c1] at h1
      refine x_bipush (v := -11) dR_sheetWrong_22 rfl ?_
      -- at 24: .ireturn
      refine x_ireturn dR_sheetWrong_24 rfl rfl ?_
      exact h1
  · have a1 : ¬ inR s 0 3 := a1
    refine x_if_ne (tgt := 12) dR_sheetWrong_6 (by decide) (fun h => absurd (by decide) h) (fun _ => ?_)
    rw [wRef, if_pos a1] at h1
    refine x_bipush (v := -2) dR_sheetWrong_9 rfl ?_
    -- at 11: .ireturn
    refine x_ireturn dR_sheetWrong_11 rfl rfl ?_
    exact h1
def sp_R_unlike : SpT := fun as S I L Post => ∃ s : Nat, as = [.ref 59, .int (nI s)] ∧ S = S1 ∧ rOk I ∧ s < 4 ∧ ∀ (v : Int32) (I' : IM) (L' : LM), Fr [94, 95] I I' → Post (some (.int v)) S1 I' L'
set_option maxHeartbeats 4000000 in
set_option maxRecDepth 100000 in
theorem c_R_unlike : Con mR_unlike 7 0 0 sp_R_unlike := by
  refine con_of_X rfl fun G as S I L Post hs => ?_
  obtain ⟨s, rfl, rfl, ⟨hok, own⟩, hs, h1⟩ := hs
  refine ⟨1, Nat.le_of_ble_eq_true rfl, ?_⟩
  show X mR_unlike G _ S1 I L 0 [.ref 59, .int (nI s), .null] [] Post
  have n3 := hok.c.2.1
  refine x_iconst (v := 0) dR_unlike_0 rfl ?_
  refine x_istoren_2 dR_unlike_1 rfl rfl ?_
  -- at 2: .iload_n 2
  have loop : ∀ (k i : Nat) (I' : IM) (L' : LM), i + k = sN (rE I) → Fr [94, 95] I I' → X mR_unlike G (7, 0, 0) S1 I' L' 2 [.ref 59, .int (nI s), .int (nI i)] [] Post := by
    intro k
    induction k with
    | zero =>
      intro i I' L' hi hF
      have hi : i = sN (rE I) := by omega
      refine x_iload_n dR_unlike_2 rfl ?_
      refine x_aload_n dR_unlike_3 rfl ?_
      refine x_getI fl_R_158 rfl dR_unlike_4 rfl rfl ?_
      -- at 7: .if_icmp .ge 30
      rw [hF 59 (by decide), show I 59 17 = nI (sN (rE I)) from hok.c.1]
      refine x_icmp_ge (tgt := 37) dR_unlike_7 (by decide) (fun _ => ?_) (fun h => absurd (by rw [hi]; exact Int32.le_refl _) h)
      refine x_iconst (v := -1) dR_unlike_37 rfl ?_
      -- at 38: .ireturn
      refine x_ireturn dR_unlike_38 rfl rfl ?_
      exact h1 _ I' L' hF
    | succ k ih =>
      intro i I' L' hi hF
      have sm := rSame.of2 own hF
      refine x_iload_n dR_unlike_2 rfl ?_
      refine x_aload_n dR_unlike_3 rfl ?_
      refine x_getI fl_R_158 rfl dR_unlike_4 rfl rfl ?_
      -- at 7: .if_icmp .ge 30
      rw [hF 59 (by decide), show I 59 17 = nI (sN (rE I)) from hok.c.1]
      refine x_icmp_ge (tgt := 37) dR_unlike_7 (by decide) (fun h => absurd h (nI_ge (by omega) (by omega))) (fun _ => ?_)
      refine x_aload_n dR_unlike_10 rfl ?_
      refine x_getR fl_R_104 rfl dR_unlike_11 rfl rfl rfl ?_
      refine x_bipush (v := 40) dR_unlike_14 rfl ?_
      refine x_iload_n dR_unlike_16 rfl ?_
      refine x_imul dR_unlike_17 ?_
      refine x_iload_n dR_unlike_18 rfl ?_
      refine x_iadd dR_unlike_19 ?_
      refine x_ialdJ dR_unlike_20 rfl rfl (r40 s i) (by omega) ?_
      refine x_aload_n dR_unlike_21 rfl ?_
      refine x_iload_n dR_unlike_22 rfl ?_
      -- at 23: .invokevirtual 277
      refine x_callV_1 cE_R_clear ok_R_clearTo ml_R_277 dR_unlike_23 rfl rfl rfl rfl rfl ?_
      refine ⟨i, rfl, rfl, ⟨sm.inv hok, sm.2.2⟩, by rw [sm.2.1]; omega, fun I2 L2 hF2 => ?_⟩
      refine x_icmp_eq (tgt := 31) dR_unlike_26 (by decide) (fun c1 => ?_) (fun c1 => ?_)
      · refine x_iincp_2 dR_unlike_31 rfl rfl ?_
        refine x_goto (tgt := 2) dR_unlike_34 (by decide) ?_
        -- at 2: .iload_n 2
        rw [nI_1]
        exact ih (i + 1) I2 L2 (by omega) (hF.tr hF2)
      · refine x_iload_n dR_unlike_29 rfl ?_
        -- at 30: .ireturn
        refine x_ireturn dR_unlike_30 rfl rfl ?_
        exact h1 _ I2 L2 (hF.tr hF2)
  exact loop (sN (rE I)) 0 I L (by omega) Fr.rfl
theorem wRef_in {E : IM} {s : Int32} (h : wRef E s = 0) : inR s 0 3 := by
  by_cases h1 : inR s 0 3
  · exact h1
  · rw [wRef, if_pos h1] at h
    exact absurd h (by decide)
def sp_R_witness : SpT := fun as S I L Post => ∃ s : Int32, rwSp [.int s] (fun E => wRef E s) as S I L Post
set_option maxHeartbeats 4000000 in
set_option maxRecDepth 100000 in
theorem c_R_witness : Con mR_witness 8 0 0 sp_R_witness := by
  refine con_of_X rfl fun G as S I L Post hs => ?_
  obtain ⟨s, rfl, rfl, ⟨hok, own⟩, h1⟩ := hs
  dsimp only at h1
  refine ⟨1, Nat.le_of_ble_eq_true rfl, ?_⟩
  show X mR_witness G _ S1 I L 0 [.ref 59, .int s, .null] [] Post
  refine x_aload_n dR_witness_0 rfl ?_
  refine x_iload_n dR_witness_1 rfl ?_
  -- at 2: .invokevirtual 347
  refine x_callV_1 c_R_sheetWrong ok_R_sheetWrong ml_R_347 dR_witness_2 rfl rfl rfl rfl rfl ?_
  refine ⟨s, rfl, rfl, ?_⟩
  refine x_istoren_2 dR_witness_5 rfl rfl ?_
  refine x_iload_n dR_witness_6 rfl ?_
  -- at 7: .ifCond .ne 11
  refine x_if_ne (tgt := 18) dR_witness_7 (by decide) (fun c1 => ?_) (fun c1 => ?_)
  · refine x_iload_n dR_witness_18 rfl ?_
    -- at 19: .ireturn
    refine x_ireturn dR_witness_19 rfl rfl ?_
    exact h1 _ I L (rSame.refl own) (fun _ => rfl)
  · obtain ⟨k, hk, rfl⟩ := inR_of (n := 3) (by decide) (wRef_in c1)
    refine x_aload_n dR_witness_10 rfl ?_
    refine x_iload_n dR_witness_11 rfl ?_
    -- at 12: .invokevirtual 350
    refine x_callV_1 c_R_unlike ok_R_unlike ml_R_350 dR_witness_12 rfl rfl rfl rfl rfl ?_
    refine ⟨k, rfl, rfl, ⟨hok, own⟩, by omega, fun v I' L' hF => ?_⟩
    refine x_goto (tgt := 19) dR_witness_15 (by decide) ?_
    -- at 19: .ireturn
    refine x_ireturn dR_witness_19 rfl rfl ?_
    exact h1 v I' L' (rSame.of2 own hF) (fun z => absurd c1 z)
def sp_R_alibi : SpT := fun as S I L Post => ∃ p s : Int32, rwSp [.int p, .int s] (fun E => alBad E p s) as S I L Post
set_option maxHeartbeats 4000000 in
set_option maxRecDepth 100000 in
theorem c_R_alibi : Con mR_alibi 8 0 0 sp_R_alibi := by
  refine con_of_X rfl fun G as S I L Post hs => ?_
  obtain ⟨p, s, rfl, rfl, ⟨hok, own⟩, h1⟩ := hs
  dsimp only at h1
  refine ⟨4, Nat.le_of_ble_eq_true rfl, ?_⟩
  show X mR_alibi G _ S1 I L 0 [.ref 59, .int p, .int s, .null, .null, .null, .null] [] Post
  have n1 := hok.a.2.1
  refine x_aload_n dR_alibi_0 rfl ?_
  refine x_iload_n dR_alibi_1 rfl ?_
  -- at 2: .invokevirtual 230
  refine x_callV_1 c_R_isOne ok_R_isOne ml_R_230 dR_alibi_2 rfl rfl rfl rfl rfl ?_
  refine ⟨_, rfl, rfl, fun a1 => ?_, fun a1 => ?_⟩
  · have a1 : inR p 0 (rE I 29 1 - 1) := a1
    refine x_if_ne (tgt := 11) dR_alibi_5 (by decide) (fun _ => ?_) (fun h => absurd h (by decide))
    rw [show ∀ x, alBad (rE I) p x = wRef (rE I) x from fun x => by rw [alBad, if_neg (not_not_intro a1)]] at h1
    rw [show rE I 29 1 = nI (pN (rE I)) from hok.a.1] at a1
    obtain ⟨j, hj, rfl⟩ := has_nat (by omega) a1
    refine x_aload_n dR_alibi_11 rfl ?_
    refine x_iload_n dR_alibi_12 rfl ?_
    -- at 13: .invokevirtual 347
    refine x_callV_1 c_R_sheetWrong ok_R_sheetWrong ml_R_347 dR_alibi_13 rfl rfl rfl rfl rfl ?_
    refine ⟨s, rfl, rfl, ?_⟩
    refine x_istoren_3 dR_alibi_16 rfl rfl ?_
    refine x_iload_n dR_alibi_17 rfl ?_
    -- at 18: .ifCond .eq 5
    by_cases c1 : wRef (rE I) s = 0
    · obtain ⟨k, hk, es⟩ := inR_of (n := 3) (by decide) (wRef_in c1)
      rw [c1] at h1 ⊢
      subst es
      refine x_if_eq (tgt := 23) dR_alibi_18 (by decide) (fun _ => ?_) (fun h => absurd rfl h)
      refine x_aload_n dR_alibi_23 rfl ?_
      refine x_getR fl_R_41 rfl dR_alibi_24 rfl rfl rfl ?_
      refine x_iload_n dR_alibi_27 rfl ?_
      refine x_ialdJ (j := j) dR_alibi_28 rfl rfl (by first | rfl | (simp only [← nI_add, ← pk_mul]; rfl)) (by omega) ?_
      refine x_istore_4 dR_alibi_29 rfl rfl ?_
      refine x_iconst (v := 0) dR_alibi_31 rfl ?_
      refine x_istore_5 dR_alibi_32 rfl rfl ?_
      refine x_iconst (v := 0) dR_alibi_34 rfl ?_
      refine x_istore_6 dR_alibi_35 rfl rfl ?_
      -- at 37: .iload 6
      have loop : ∀ (z i : Nat) (acc : Int32) (I' : IM) (L' : LM), i + z = 6 → rSame I (up2 I' 69 j (I 69 j)) → X mR_alibi G (8, 0, 0) S1 I' L' 37 [.ref 59, .int (nI j), .int (nI k), .int 0, .int (I 69 j), .int acc, .int (nI i)] [] Post := by
        intro z
        induction z with
        | zero =>
          intro i acc I' L' hi sm
          obtain rfl : i = 6 := by omega
          refine x_iload dR_alibi_37 rfl ?_
          refine x_iconst (v := 5) dR_alibi_39 rfl ?_
          -- at 40: .if_icmp .gt 39
          refine x_icmp_gt (tgt := 79) dR_alibi_40 (by decide) (fun _ => ?_) (fun h => absurd (by decide) h)
          refine x_aload_n dR_alibi_79 rfl ?_
          refine x_getR fl_R_41 rfl dR_alibi_80 rfl rfl rfl ?_
          refine x_iload_n dR_alibi_83 rfl ?_
          refine x_iload dR_alibi_84 rfl ?_
          refine x_iastJ (j := j) dR_alibi_86 rfl rfl (by first | rfl | (simp only [← nI_add, ← pk_mul]; rfl)) (by omega) ?_
          refine x_iload dR_alibi_87 rfl ?_
          -- at 89: .ireturn
          refine x_ireturn dR_alibi_89 rfl rfl ?_
          exact h1 _ _ L' sm (fun y => absurd rfl y)
        | succ z ih =>
          intro i acc I' L' hi sm
          refine x_iload dR_alibi_37 rfl ?_
          refine x_iconst (v := 5) dR_alibi_39 rfl ?_
          -- at 40: .if_icmp .gt 39
          refine x_icmp_gt (tgt := 79) dR_alibi_40 (by decide) (fun h => absurd h (Int32.not_lt.mpr ((nI_leI (b := 5) (by omega) (by omega)).mpr (by omega)))) (fun _ => ?_)
          refine x_aload_n dR_alibi_43 rfl ?_
          refine x_getR fl_R_41 rfl dR_alibi_44 rfl rfl rfl ?_
          refine x_iload_n dR_alibi_47 rfl ?_
          refine x_iload dR_alibi_48 rfl ?_
          refine x_iastJ (j := j) dR_alibi_50 rfl rfl (by first | rfl | (simp only [← nI_add, ← pk_mul]; rfl)) (by omega) ?_
          refine x_iload dR_alibi_51 rfl ?_
          refine x_aload_n dR_alibi_53 rfl ?_
          refine x_iload_n dR_alibi_54 rfl ?_
          -- at 55: .invokevirtual 350
          have e2 : up2 (up2 I' 69 j (I 69 j)) 69 j (nI i) = up2 I' 69 j (nI i) := by
            funext x
            by_cases e : x = 69
            · subst e
              rw [up2_s, up2_s, up2_s]
              funext y
              unfold up1
              by_cases e3 : y = j <;> simp [e3]
            · rw [up2_n _ _ _ e, up2_n _ _ _ e, up2_n _ _ _ e]
          have hJ := sm.inv hok
          have e9 : rE (up2 I' 69 j (nI i)) = up2 (rE I) 9 j (nI i) := by
            rw [← e2, rE_u9 _ _ (by have e := congrArg pN sm.2.1; unfold pN at e; exact Nat.lt_of_lt_of_eq hj e.symm), sm.2.1]
          have own2 : rOwn (up2 I' 69 j (nI i)) := by
            rw [← e2]
            exact sm.2.2.up (by decide) (Or.inl (by decide))
          have hst : up2 (up2 I' 69 j (nI i)) 69 j (I 69 j) = up2 I' 69 j (I 69 j) := by
            funext x
            by_cases e : x = 69
            · subst e
              rw [up2_s, up2_s, up2_s]
              funext y
              unfold up1
              by_cases e3 : y = j <;> simp [e3]
            · rw [up2_n _ _ _ e, up2_n _ _ _ e, up2_n _ _ _ e]
          rw [← hst] at sm
          generalize up2 I' 69 j (nI i) = I1 at e9 own2 sm
          refine x_callV_1 c_R_unlike ok_R_unlike ml_R_350 dR_alibi_55 rfl rfl rfl rfl rfl ?_
          refine ⟨k, rfl, rfl, ⟨by rw [e9]; exact Inv_mv hok j (by omega), own2⟩, by omega, fun v I2 L2 hF2 => ?_⟩
          have sm2 : rSame I (up2 I2 69 j (I 69 j)) := by
            refine sm.fr (fun x hx => ?_)
            by_cases e : x = 69
            · subst e
              rw [up2_s, up2_s, hF2 69 (by decide)]
            · rw [up2_n _ _ _ e, up2_n _ _ _ e]
              exact hF2 x (fun y => hx (by simp at y ⊢; omega))
          refine x_iconst (v := -1) dR_alibi_58 rfl ?_
          -- at 59: .if_icmp .ne 10
          refine x_icmp_ne (tgt := 69) dR_alibi_59 (by decide) (fun c2 => ?_) (fun c2 => ?_)
          · refine x_iconst (v := 0) dR_alibi_69 rfl ?_
            refine x_ior dR_alibi_70 ?_
            refine x_istore_5 dR_alibi_71 rfl rfl ?_
            refine x_iincp_6 dR_alibi_73 rfl rfl ?_
            refine x_goto (tgt := 37) dR_alibi_76 (by decide) ?_
            -- at 37: .iload 6
            rw [nI_1]
            exact ih (i + 1) _ I2 L2 (by omega) sm2
          · refine x_iconst (v := 1) dR_alibi_62 rfl ?_
            refine x_iload dR_alibi_63 rfl ?_
            refine x_ishl dR_alibi_65 ?_
            refine x_goto (tgt := 70) dR_alibi_66 (by decide) ?_
            refine x_ior dR_alibi_70 ?_
            refine x_istore_5 dR_alibi_71 rfl rfl ?_
            refine x_iincp_6 dR_alibi_73 rfl rfl ?_
            refine x_goto (tgt := 37) dR_alibi_76 (by decide) ?_
            -- at 37: .iload 6
            rw [nI_1]
            exact ih (i + 1) _ I2 L2 (by omega) sm2
      refine loop 6 0 0 I L rfl ?_
      have e0 : up2 I 69 j (I 69 j) = I := by
        funext x
        by_cases e : x = 69
        · subst e
          rw [up2_s]
          funext y
          unfold up1
          by_cases e3 : y = j <;> simp [e3]
        · rw [up2_n _ _ _ e]
      rw [e0]
      exact rSame.refl own
    · refine x_if_eq (tgt := 23) dR_alibi_18 (by decide) (fun h => absurd h c1) (fun _ => ?_)
      refine x_iload_n dR_alibi_21 rfl ?_
      -- at 22: .ireturn
      refine x_ireturn dR_alibi_22 rfl rfl ?_
      exact h1 _ I L (rSame.refl own) (fun _ => rfl)
  · have a1 : ¬ inR p 0 (rE I 29 1 - 1) := a1
    refine x_if_ne (tgt := 11) dR_alibi_5 (by decide) (fun h => absurd (by decide) h) (fun _ => ?_)
    rw [show ∀ x, alBad (rE I) p x = -5 from fun x => by rw [alBad, if_pos a1]] at h1
    refine x_bipush (v := -5) dR_alibi_8 rfl ?_
    -- at 10: .ireturn
    refine x_ireturn dR_alibi_10 rfl rfl ?_
    exact h1 _ I L (rSame.refl own) (fun _ => rfl)
