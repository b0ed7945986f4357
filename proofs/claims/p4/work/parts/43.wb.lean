/-! the class's calls: chance -/
theorem chan_eq {V E : IM} {n m : Nat} (h : VEq V E n m) (P : Nat → List Int32) {p : Nat} (hp : p < n) (q : Int32) : ∀ k, k ≤ m → chanS V (hearV V P) p q k = chanS E (hearV E P) p q k := by
  intro k
  induction k with
  | zero => intro _; rw [chanS, chanS]
  | succ s ih =>
    intro hk
    rw [chanS, chanS, ih (by omega), (h.2.2 s (by omega)).1, hear_eq h P (by omega) hp]
def chanE (E : IM) (p q : Nat) : Int64 := 1000000 - chanS E (hearV E (PE E)) p (nI q) (sN E)
def chanceS (E : IM) (p q : Int32) : Int64 := if ¬ inR p 0 (E 29 1 - 1) ∨ ¬ inR q 0 (E 29 2 - 1) then -4611686018427387904 else chanE E (cl p) (cl q)
def spE_chanceOf : SpT := fun as S I L Post => ∃ (p q : Nat) (I0 : IM), as = [.ref 35, .int (nI p), .int (nI q)] ∧ S = S1 ∧ cOk I0 ∧ p < pN (cE I0) ∧ Fr kScr I0 I ∧ Hrd (cV I0) (PE (cE I0)) (pN (cE I0)) (sN (cE I0)) I ∧ Post (some (.long (chanE (cE I0) p q))) S1 I L
theorem cE_chanceOf : Con mLedger_chanceOf 2 0 0 spE_chanceOf := c_Ledger_chanceOf.imp fun as S I L Post hs => by
  obtain ⟨p, q, I0, rfl, rfl, hok, hp, hF, hh, h1⟩ := hs
  obtain ⟨b1, b2, b3⟩ := hok.say
  obtain ⟨c1, c2, c3⟩ := hok.ppl
  refine ⟨p, sN (cE I0), pN (cE I0), nI q, PE (cE I0), rfl, rfl, by rw [hF 18 (by decide)]; exact b1, b2, c2, hp, fun s hs x hx => ?_, ?_⟩
  · rw [cV_k hF]
    exact (hh s hs).1 x hx
  · rw [cV_k hF, chan_eq (cVE I0) _ hp _ _ (Nat.le_refl _)]
    exact h1
def sp_W_chance : SpT := fun as S I L Post => ∃ p q : Int32, cSp [.int p, .int q] (fun E => .long (chanceS E p q)) (fun E => E) as S I L Post
set_option maxHeartbeats 4000000 in
set_option maxRecDepth 100000 in
theorem c_W_chance : Con mW_chance 7 0 0 sp_W_chance := by
  refine con_of_X rfl fun G as S I L Post hs => ?_
  obtain ⟨p, q, rfl, rfl, hok, h1⟩ := hs
  dsimp only at h1
  refine ⟨0, Nat.le_of_ble_eq_true rfl, ?_⟩
  show X mW_chance G _ S1 I L 0 [.ref 0, .int p, .int q] [] Post
  obtain ⟨v1, v2, -⟩ := hok.vow
  obtain ⟨c1, c2, -⟩ := hok.ppl
  obtain ⟨l1, l2⟩ := hok.law
  have bad : (¬ inR p 0 (cE I 29 1 - 1) ∨ ¬ inR q 0 (cE I 29 2 - 1)) → X mW_chance G (7, 0, 0) S1 I L 22 [.ref 0, .int p, .int q] [] Post := by
    intro hc
    rw [chanceS, if_pos hc] at h1
    refine x_ldc2 dW_chance_22 cn_W_287 ?_
    -- at 25: .lreturn
    refine x_lreturn dW_chance_25 rfl ?_
    exact h1 I (fun _ _ => rfl) rfl
  refine x_aload_n dW_chance_0 rfl ?_
  refine x_getR fl_W_19 rfl dW_chance_1 rfl rfl rfl ?_
  refine x_iload_n dW_chance_4 rfl ?_
  -- at 5: .invokevirtual 143
  refine x_callV_1 c_Folk_has ok_Folk_has ml_W_143 dW_chance_5 rfl rfl rfl rfl rfl ?_
  refine ⟨_, rfl, rfl, fun a1 => ?_, fun a1 => ?_⟩
  · refine x_if_eq (tgt := 22) dW_chance_8 (by decide) (fun h => absurd h (by decide)) (fun _ => ?_)
    refine x_aload_n dW_chance_11 rfl ?_
    refine x_getR fl_W_26 rfl dW_chance_12 rfl rfl rfl ?_
    refine x_iload_n dW_chance_15 rfl ?_
    -- at 16: .invokevirtual 174
    refine x_callV_1 c_Vows_has ok_Vows_has ml_W_174 dW_chance_16 rfl rfl rfl rfl rfl ?_
    refine ⟨_, rfl, rfl, fun a2 => ?_, fun a2 => ?_⟩
    · refine x_if_ne (tgt := 26) dW_chance_19 (by decide) (fun _ => ?_) (fun h => absurd h (by decide))
      have a1 : inR p 0 (cE I 29 1 - 1) := a1
      have a2 : inR q 0 (cE I 29 2 - 1) := a2
      rw [chanceS, if_neg (fun z => z.elim (fun y => y a1) (fun y => y a2))] at h1
      rw [show cE I 29 1 = nI (pN (cE I)) from c1] at a1
      rw [show cE I 29 2 = nI (qN (cE I)) from v1] at a2
      obtain ⟨i, hi, rfl⟩ := has_nat (by omega) a1
      obtain ⟨j, hj, rfl⟩ := has_nat (by omega) a2
      rw [cl_nI (by omega), cl_nI (by omega)] at h1
      refine x_aload_n dW_chance_26 rfl ?_
      refine x_getR fl_W_56 rfl dW_chance_27 rfl rfl rfl ?_
      refine x_aload_n dW_chance_30 rfl ?_
      refine x_getR fl_W_47 rfl dW_chance_31 rfl rfl rfl ?_
      refine x_getI fl_W_127 rfl dW_chance_34 rfl rfl ?_
      -- at 37: .invokevirtual 205
      rw [l1]
      refine x_callV_1 cE_listen ok_Ledger_listen ml_W_205 dW_chance_37 rfl rfl rfl rfl rfl ?_
      refine ⟨_, rfl, rfl, hok, l2, fun I' hF _ hh _ => ?_⟩
      refine x_aload_n dW_chance_40 rfl ?_
      refine x_getR fl_W_56 rfl dW_chance_41 rfl rfl rfl ?_
      refine x_iload_n dW_chance_44 rfl ?_
      refine x_iload_n dW_chance_45 rfl ?_
      -- at 46: .invokevirtual 289
      refine x_callV_2 cE_chanceOf ok_Ledger_chanceOf ml_W_289 dW_chance_46 rfl rfl rfl rfl rfl ?_
      refine ⟨i, j, I, rfl, rfl, hok, hi, hF, hh, ?_⟩
      refine x_lreturn dW_chance_49 rfl ?_
      exact h1 I' (kstay hF) (cE_k hF)
    · refine x_if_ne (tgt := 26) dW_chance_19 (by decide) (fun h => absurd (by decide) h) (fun _ => ?_)
      exact bad (Or.inr a2)
  · refine x_if_eq (tgt := 22) dW_chance_8 (by decide) (fun _ => ?_) (fun h => absurd (by decide) h)
    exact bad (Or.inl a1)
def lostR (E : IM) (q : Nat) (k : Nat) : Int64 := match k with
  | 0 => 1000000
  | p + 1 => if canV E p q = true ∧ ¬ E 2 p = 4 then lostR E q p * (1000000 - chanE E p q) / 1000000 else lostR E q p
def lostS (E : IM) (q : Int32) : Int64 := if ¬ inR q 0 (E 29 2 - 1) then -4611686018427387904 else lostR E (cl q) (pN E)
def sp_W_lost : SpT := fun as S I L Post => ∃ q : Int32, cSp [.int q] (fun E => .long (lostS E q)) (fun E => E) as S I L Post
set_option maxHeartbeats 4000000 in
set_option maxRecDepth 100000 in
theorem c_W_lost : Con mW_lost 7 0 0 sp_W_lost := by
  refine con_of_X rfl fun G as S I L Post hs => ?_
  obtain ⟨q, rfl, rfl, hok, h1⟩ := hs
  dsimp only at h1
  refine ⟨3, Nat.le_of_ble_eq_true rfl, ?_⟩
  show X mW_lost G _ S1 I L 0 [.ref 0, .int q, .null, .null, .null] [] Post
  obtain ⟨v1, v2, -⟩ := hok.vow
  obtain ⟨c1, c2, -⟩ := hok.ppl
  obtain ⟨l1, l2⟩ := hok.law
  refine x_aload_n dW_lost_0 rfl ?_
  refine x_getR fl_W_26 rfl dW_lost_1 rfl rfl rfl ?_
  refine x_iload_n dW_lost_4 rfl ?_
  -- at 5: .invokevirtual 174
  refine x_callV_1 c_Vows_has ok_Vows_has ml_W_174 dW_lost_5 rfl rfl rfl rfl rfl ?_
  refine ⟨_, rfl, rfl, fun a1 => ?_, fun a1 => ?_⟩
  · refine x_if_ne (tgt := 15) dW_lost_8 (by decide) (fun _ => ?_) (fun h => absurd h (by decide))
    have a1 : inR q 0 (cE I 29 2 - 1) := a1
    rw [lostS, if_neg (not_not_intro a1)] at h1
    rw [show cE I 29 2 = nI (qN (cE I)) from v1] at a1
    obtain ⟨j, hj, rfl⟩ := has_nat (by omega) a1
    rw [cl_nI (by omega)] at h1
    refine x_aload_n dW_lost_15 rfl ?_
    refine x_getR fl_W_56 rfl dW_lost_16 rfl rfl rfl ?_
    refine x_aload_n dW_lost_19 rfl ?_
    refine x_getR fl_W_47 rfl dW_lost_20 rfl rfl rfl ?_
    refine x_getI fl_W_127 rfl dW_lost_23 rfl rfl ?_
    -- at 26: .invokevirtual 205
    rw [l1]
    refine x_callV_1 cE_listen ok_Ledger_listen ml_W_205 dW_lost_26 rfl rfl rfl rfl rfl ?_
    refine ⟨_, rfl, rfl, hok, l2, fun I' hF _ hh _ => ?_⟩
    refine x_ldc2 dW_lost_29 cn_W_293 ?_
    refine x_lstoren_2 dW_lost_32 rfl rfl ?_
    refine x_iconst (v := 0) dW_lost_33 rfl ?_
    refine x_istore_4 dW_lost_34 rfl rfl ?_
    -- at 36: .iload 4
    have loop : ∀ (k i : Nat) (acc : Int64), i + k = pN (cE I) → acc = lostR (cE I) j i → X mW_lost G (7, 0, 0) S1 I' L 36 [.ref 0, .int (nI j), .long acc, .null, .int (nI i)] [] Post := by
      intro k
      induction k with
      | zero =>
        intro i acc hi ha
        obtain rfl : i = pN (cE I) := by omega
        refine x_iload dW_lost_36 rfl ?_
        refine x_aload_n dW_lost_38 rfl ?_
        refine x_getR fl_W_19 rfl dW_lost_39 rfl rfl rfl ?_
        refine x_getI fl_W_121 rfl dW_lost_42 rfl rfl ?_
        -- at 45: .if_icmp .ge 63
        rw [hF 4 (by decide), c1]
        refine x_icmp_ge (tgt := 108) dW_lost_45 (by decide) (fun _ => ?_) (fun h => absurd (Int32.le_refl _) h)
        refine x_lload_n dW_lost_108 rfl ?_
        -- at 109: .lreturn
        refine x_lreturn dW_lost_109 rfl ?_
        rw [ha]
        exact h1 I' (kstay hF) (cE_k hF)
      | succ k ih =>
        intro i acc hi ha
        refine x_iload dW_lost_36 rfl ?_
        refine x_aload_n dW_lost_38 rfl ?_
        refine x_getR fl_W_19 rfl dW_lost_39 rfl rfl rfl ?_
        refine x_getI fl_W_121 rfl dW_lost_42 rfl rfl ?_
        -- at 45: .if_icmp .ge 63
        rw [hF 4 (by decide), c1]
        refine x_icmp_ge (tgt := 108) dW_lost_45 (by decide) (fun h => absurd h (nI_ge (b := pN (cE I)) (by omega) (by omega))) (fun _ => ?_)
        refine x_aload_n dW_lost_48 rfl ?_
        refine x_getR fl_W_19 rfl dW_lost_49 rfl rfl rfl ?_
        refine x_iload dW_lost_52 rfl ?_
        refine x_aload_n dW_lost_54 rfl ?_
        refine x_getR fl_W_26 rfl dW_lost_55 rfl rfl rfl ?_
        refine x_getR fl_W_175 rfl dW_lost_58 rfl rfl rfl ?_
        refine x_iload_n dW_lost_61 rfl ?_
        refine x_ialdJ (j := j) dW_lost_62 rfl rfl (by first | rfl | (simp only [← nI_add, ← pk_mul]; rfl)) (by omega) ?_
        -- at 63: .invokevirtual 295
        refine x_callV_2 c_Folk_canDo ok_Folk_canDo ml_W_295 dW_lost_63 rfl rfl rfl rfl rfl ?_
        refine ⟨i, _, rfl, rfl, by omega, fun hd => ?_, fun hd => ?_⟩
        · have e1 : canV (cE I) i j = true := by
            rw [hF 9 (by decide), hF 14 (by decide)] at hd
            exact decide_eq_true hd
          refine x_if_eq (tgt := 102) dW_lost_66 (by decide) (fun h => absurd h (by decide)) (fun _ => ?_)
          refine x_aload_n dW_lost_69 rfl ?_
          refine x_getR fl_W_19 rfl dW_lost_70 rfl rfl rfl ?_
          refine x_iload dW_lost_73 rfl ?_
          -- at 75: .invokevirtual 299
          refine x_callV_1 c_Folk_isBound ok_Folk_isBound ml_W_299 dW_lost_75 rfl rfl rfl rfl rfl ?_
          refine ⟨i, rfl, rfl, by omega, fun hb => ?_, fun hb => ?_⟩
          · rw [hF 5 (by decide)] at hb
            refine x_if_eq (tgt := 102) dW_lost_78 (by decide) (fun h => absurd h (by decide)) (fun _ => ?_)
            refine x_lload_n dW_lost_81 rfl ?_
            refine x_ldc2 dW_lost_82 cn_W_293 ?_
            refine x_aload_n dW_lost_85 rfl ?_
            refine x_getR fl_W_56 rfl dW_lost_86 rfl rfl rfl ?_
            refine x_iload dW_lost_89 rfl ?_
            refine x_iload_n dW_lost_91 rfl ?_
            -- at 92: .invokevirtual 289
            refine x_callV_2 cE_chanceOf ok_Ledger_chanceOf ml_W_289 dW_lost_92 rfl rfl rfl rfl rfl ?_
            refine ⟨i, j, I, rfl, rfl, hok, by omega, hF, hh, ?_⟩
            refine x_lsub dW_lost_95 ?_
            refine x_lmul dW_lost_96 ?_
            refine x_ldc2 dW_lost_97 cn_W_293 ?_
            refine x_ldiv dW_lost_100 (by decide) ?_
            refine x_lstoren_2 dW_lost_101 rfl rfl ?_
            refine x_iincp_4 dW_lost_102 rfl rfl ?_
            refine x_goto (tgt := 36) dW_lost_105 (by decide) ?_
            -- at 36: .iload 4
            rw [nI_1]
            refine ih (i + 1) _ (by omega) ?_
            rw [lostR, if_pos ⟨e1, hb⟩, ha]
          · rw [hF 5 (by decide)] at hb
            refine x_if_eq (tgt := 102) dW_lost_78 (by decide) (fun _ => ?_) (fun h => absurd (by decide) h)
            refine x_iincp_4 dW_lost_102 rfl rfl ?_
            refine x_goto (tgt := 36) dW_lost_105 (by decide) ?_
            -- at 36: .iload 4
            rw [nI_1]
            refine ih (i + 1) _ (by omega) ?_
            rw [lostR, if_neg (fun z => hb z.2), ha]
        · have e1 : ¬ canV (cE I) i j = true := by
            rw [hF 9 (by decide), hF 14 (by decide)] at hd
            exact fun z => hd (of_decide_eq_true z)
          refine x_if_eq (tgt := 102) dW_lost_66 (by decide) (fun _ => ?_) (fun h => absurd (by decide) h)
          refine x_iincp_4 dW_lost_102 rfl rfl ?_
          refine x_goto (tgt := 36) dW_lost_105 (by decide) ?_
          -- at 36: .iload 4
          rw [nI_1]
          refine ih (i + 1) _ (by omega) ?_
          rw [lostR, if_neg (fun z => e1 z.1), ha]
    exact loop (pN (cE I)) 0 _ (by omega) rfl
  · refine x_if_ne (tgt := 15) dW_lost_8 (by decide) (fun h => absurd (by decide) h) (fun _ => ?_)
    have a1 : ¬ inR q 0 (cE I 29 2 - 1) := a1
    rw [lostS, if_pos a1] at h1
    refine x_ldc2 dW_lost_11 cn_W_287 ?_
    -- at 14: .lreturn
    refine x_lreturn dW_lost_14 rfl ?_
    exact h1 I (fun _ _ => rfl) rfl
