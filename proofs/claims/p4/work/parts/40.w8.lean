/-! the class's calls: even, hardest -/
theorem any_eq {V E : IM} {n m : Nat} (h : VEq V E n m) (P : Nat → List Int32) (q : Int32) {p : Nat} (hp : p < n) : ∀ k, k ≤ m → anyF V P q k p = anyF E P q k p := by
  intro k
  induction k with
  | zero => intro _; rfl
  | succ s ih =>
    intro hk
    rw [anyF, anyF]
    dsimp only
    rw [ih (by omega), (h.2.2 s (by omega)).1]
    unfold clF
    rw [hear_eq h P (by omega) hp]
theorem ev_eq {V E : IM} {n m : Nat} (h : VEq V E n m) (P : Nat → List Int32) (q : Nat) {k : Nat} (hk : k ≤ m) : bs n (evF V P k q) = bs n (evF E P k q) :=
  bs_congr n (fun p hp => by unfold evF; rw [any_eq h P _ hp k hk, can_eq h, h.1 2 (by omega) (by omega)])
theorem lt_eq {V E : IM} {n m : Nat} (h : VEq V E n m) (f : Nat → Int32) (am : Int32) : ∀ k : Nat, ltR V f am k = ltR E f am k := by
  intro k
  induction k with
  | zero => rfl
  | succ p ih => rw [ltR, ltR, ih, ltS, ltS, h.1 7 (by omega) (by omega), h.1 8 (by omega) (by omega)]
theorem shR_eq {V E : IM} {n m : Nat} (h : VEq V E n m) (am : Int32) (x : Nat) : ∀ k : Nat, shR V am x k = shR E am x k := by
  intro k
  induction k with
  | zero => rfl
  | succ j ih =>
    rw [shR, shR, ih]
    cases shR E am x j with
    | none => rfl
    | some f => simp only [lt_eq h]
def shE (E : IM) (q : Nat) : Option (Nat → Int32) := shR E (bs (pN E) (evF E (PE E) (sN E) q)) (pN E) (cl (E 11 q))
def spE_shares : SpT := fun as S I L Post => ∃ (q : Nat) (I0 : IM), as = [.ref 35, .int (nI q)] ∧ S = S1 ∧ cOk I0 ∧ q < qN (cE I0) ∧ Fr kScr I0 I ∧ Hrd (cV I0) (PE (cE I0)) (pN (cE I0)) (sN (cE I0)) I ∧
  (shE (cE I0) q = none → ∀ I' : IM, Fr (43 :: kScr) I0 I' → Post (some (.int 0)) S1 I' L) ∧
  (∀ f, shE (cE I0) q = some f → ∀ I' : IM, Fr (43 :: kScr) I0 I' → (∀ p, p < 8 → I' 43 p = f p) → Post (some (.int 1)) S1 I' L)
theorem cE_shares : Con mLedger_sharesOut 4 0 0 spE_shares := c_Ledger_sharesOut.imp fun as S I L Post hs => by
  obtain ⟨q, I0, rfl, rfl, hok, hq, hF, hh, h1, h2⟩ := hs
  obtain ⟨b1, b2, b3⟩ := hok.say
  obtain ⟨c1, c2, c3⟩ := hok.ppl
  obtain ⟨v1, v2, v3⟩ := hok.vow
  obtain ⟨-, ⟨-, -, pq⟩, -⟩ := hok
  obtain ⟨-, ⟨k, hk1, hk2, ek⟩, -, -⟩ := pq q hq
  have ek' : I0 15 q = nI k := ek
  have e : shR (cV I) (bs (pN (cE I0)) (evF (cV I) (PE (cE I0)) (sN (cE I0)) q)) (pN (cE I0)) k = shE (cE I0) q := by
    rw [cV_k hF, ev_eq (cVE I0) _ q (Nat.le_refl _), shR_eq (cVE I0), shE, ek, cl_nI (by omega)]
  refine ⟨q, sN (cE I0), pN (cE I0), k, PE (cE I0), rfl, rfl, by omega, by rw [hF 18 (by decide)]; exact b1, b2, by rw [hF 4 (by decide)]; exact c1, c2, fun s hs => ?_, by rw [hF 15 (by decide)]; exact ek', hk2, fun z I' hF2 => ?_, fun f z I' hF2 hf => ?_⟩
  · rw [cV_k hF]
    exact (hh s hs).2
  · rw [e] at z
    exact h1 z I' ((hF.wk (by decide)).tr (hF2.wk (by decide)))
  · rw [e] at z
    exact h2 f z I' ((hF.wk (by decide)).tr (hF2.wk (by decide))) hf
def evenS (E : IM) (q p : Int32) : Int32 := if ¬ inR q 0 (E 29 2 - 1) ∨ ¬ inR p 0 (E 29 1 - 1) then -5 else match shE E (cl q) with
  | none => -3
  | some f => f (cl p)
theorem cE_e {I I' : IM} (hF : Fr (43 :: kScr) I I') : cE I' = cE I := cE_fr (hF.wk (by decide))
theorem estay {I I' : IM} (hF : Fr (43 :: kScr) I I') : ∀ k, 59 ≤ k → I' k = I k := fun k hk => hF k (by simp; omega)
def sp_W_even : SpT := fun as S I L Post => ∃ q p : Int32, cSp [.int q, .int p] (fun E => .int (evenS E q p)) (fun E => E) as S I L Post
set_option maxHeartbeats 4000000 in
set_option maxRecDepth 100000 in
theorem c_W_even : Con mW_even 7 0 0 sp_W_even := by
  refine con_of_X rfl fun G as S I L Post hs => ?_
  obtain ⟨q, p, rfl, rfl, hok, h1⟩ := hs
  dsimp only at h1
  refine ⟨0, Nat.le_of_ble_eq_true rfl, ?_⟩
  show X mW_even G _ S1 I L 0 [.ref 0, .int q, .int p] [] Post
  obtain ⟨v1, v2, -⟩ := hok.vow
  obtain ⟨c1, c2, -⟩ := hok.ppl
  obtain ⟨l1, l2⟩ := hok.law
  have bad : (¬ inR q 0 (cE I 29 2 - 1) ∨ ¬ inR p 0 (cE I 29 1 - 1)) → X mW_even G (7, 0, 0) S1 I L 22 [.ref 0, .int q, .int p] [] Post := by
    intro hc
    rw [evenS, if_pos hc] at h1
    refine x_bipush (v := -5) dW_even_22 rfl ?_
    -- at 24: .ireturn
    refine x_ireturn dW_even_24 rfl rfl ?_
    exact h1 I (fun _ _ => rfl) rfl
  refine x_aload_n dW_even_0 rfl ?_
  refine x_getR fl_W_26 rfl dW_even_1 rfl rfl rfl ?_
  refine x_iload_n dW_even_4 rfl ?_
  -- at 5: .invokevirtual 174
  refine x_callV_1 c_Vows_has ok_Vows_has ml_W_174 dW_even_5 rfl rfl rfl rfl rfl ?_
  refine ⟨_, rfl, rfl, fun a1 => ?_, fun a1 => ?_⟩
  · refine x_if_eq (tgt := 22) dW_even_8 (by decide) (fun h => absurd h (by decide)) (fun _ => ?_)
    refine x_aload_n dW_even_11 rfl ?_
    refine x_getR fl_W_19 rfl dW_even_12 rfl rfl rfl ?_
    refine x_iload_n dW_even_15 rfl ?_
    -- at 16: .invokevirtual 143
    refine x_callV_1 c_Folk_has ok_Folk_has ml_W_143 dW_even_16 rfl rfl rfl rfl rfl ?_
    refine ⟨_, rfl, rfl, fun a2 => ?_, fun a2 => ?_⟩
    · refine x_if_ne (tgt := 25) dW_even_19 (by decide) (fun _ => ?_) (fun h => absurd h (by decide))
      have a1 : inR q 0 (cE I 29 2 - 1) := a1
      have a2 : inR p 0 (cE I 29 1 - 1) := a2
      rw [evenS, if_neg (fun z => z.elim (fun y => y a1) (fun y => y a2))] at h1
      rw [show cE I 29 2 = nI (qN (cE I)) from v1] at a1
      rw [show cE I 29 1 = nI (pN (cE I)) from c1] at a2
      obtain ⟨i, hi, rfl⟩ := has_nat (by omega) a1
      obtain ⟨j, hj, rfl⟩ := has_nat (by omega) a2
      rw [cl_nI (by omega), cl_nI (by omega)] at h1
      refine x_aload_n dW_even_25 rfl ?_
      refine x_getR fl_W_56 rfl dW_even_26 rfl rfl rfl ?_
      refine x_aload_n dW_even_29 rfl ?_
      refine x_getR fl_W_47 rfl dW_even_30 rfl rfl rfl ?_
      refine x_getI fl_W_127 rfl dW_even_33 rfl rfl ?_
      -- at 36: .invokevirtual 205
      rw [l1]
      refine x_callV_1 cE_listen ok_Ledger_listen ml_W_205 dW_even_36 rfl rfl rfl rfl rfl ?_
      refine ⟨_, rfl, rfl, hok, l2, fun I' hF _ hh _ => ?_⟩
      refine x_aload_n dW_even_39 rfl ?_
      refine x_getR fl_W_56 rfl dW_even_40 rfl rfl rfl ?_
      refine x_iload_n dW_even_43 rfl ?_
      -- at 44: .invokevirtual 260
      refine x_callV_1 cE_shares ok_Ledger_sharesOut ml_W_260 dW_even_44 rfl rfl rfl rfl rfl ?_
      refine ⟨i, I, rfl, rfl, hok, hi, hF, hh, fun e I2 hF2 => ?_, fun f e I2 hF2 hf => ?_⟩
      · rw [e] at h1
        refine x_if_eq (tgt := 62) dW_even_47 (by decide) (fun _ => ?_) (fun h => absurd (by decide) h)
        refine x_bipush (v := -3) dW_even_62 rfl ?_
        -- at 64: .ireturn
        refine x_ireturn dW_even_64 rfl rfl ?_
        exact h1 I2 (estay hF2) (cE_e hF2)
      · rw [e] at h1
        refine x_if_eq (tgt := 62) dW_even_47 (by decide) (fun h => absurd h (by decide)) (fun _ => ?_)
        refine x_aload_n dW_even_50 rfl ?_
        refine x_getR fl_W_56 rfl dW_even_51 rfl rfl rfl ?_
        refine x_getR fl_W_263 rfl dW_even_54 rfl rfl rfl ?_
        refine x_iload_n dW_even_57 rfl ?_
        refine x_ialdJ (j := j) dW_even_58 rfl rfl (by first | rfl | (simp only [← nI_add, ← pk_mul]; rfl)) (by omega) ?_
        refine x_goto (tgt := 64) dW_even_59 (by decide) ?_
        -- at 64: .ireturn
        refine x_ireturn dW_even_64 rfl rfl ?_
        rw [hf j (by omega)]
        exact h1 I2 (estay hF2) (cE_e hF2)
    · refine x_if_ne (tgt := 25) dW_even_19 (by decide) (fun h => absurd (by decide) h) (fun _ => ?_)
      exact bad (Or.inr a2)
  · refine x_if_eq (tgt := 22) dW_even_8 (by decide) (fun _ => ?_) (fun h => absurd (by decide) h)
    exact bad (Or.inl a1)
def hardR (E : IM) (f : Nat → Int32) (k : Nat) : Int32 := match k with
  | 0 => 0
  | p + 1 => imax (hardR E f p) (E 7 p * f p)
def hardestS (E : IM) (q : Int32) : Int32 := if ¬ inR q 0 (E 29 2 - 1) then -5 else match shE E (cl q) with
  | none => -1
  | some f => hardR E f (pN E)
def sp_W_hardest : SpT := fun as S I L Post => ∃ q : Int32, cSp [.int q] (fun E => .int (hardestS E q)) (fun E => E) as S I L Post
set_option maxHeartbeats 4000000 in
set_option maxRecDepth 100000 in
theorem c_W_hardest : Con mW_hardest 7 0 0 sp_W_hardest := by
  refine con_of_X rfl fun G as S I L Post hs => ?_
  obtain ⟨q, rfl, rfl, hok, h1⟩ := hs
  dsimp only at h1
  refine ⟨2, Nat.le_of_ble_eq_true rfl, ?_⟩
  show X mW_hardest G _ S1 I L 0 [.ref 0, .int q, .null, .null] [] Post
  obtain ⟨v1, v2, -⟩ := hok.vow
  obtain ⟨c1, c2, -⟩ := hok.ppl
  obtain ⟨l1, l2⟩ := hok.law
  refine x_aload_n dW_hardest_0 rfl ?_
  refine x_getR fl_W_26 rfl dW_hardest_1 rfl rfl rfl ?_
  refine x_iload_n dW_hardest_4 rfl ?_
  -- at 5: .invokevirtual 174
  refine x_callV_1 c_Vows_has ok_Vows_has ml_W_174 dW_hardest_5 rfl rfl rfl rfl rfl ?_
  refine ⟨_, rfl, rfl, fun a1 => ?_, fun a1 => ?_⟩
  · refine x_if_ne (tgt := 14) dW_hardest_8 (by decide) (fun _ => ?_) (fun h => absurd h (by decide))
    have a1 : inR q 0 (cE I 29 2 - 1) := a1
    rw [hardestS, if_neg (not_not_intro a1)] at h1
    rw [show cE I 29 2 = nI (qN (cE I)) from v1] at a1
    obtain ⟨i, hi, rfl⟩ := has_nat (by omega) a1
    rw [cl_nI (by omega)] at h1
    refine x_aload_n dW_hardest_14 rfl ?_
    refine x_getR fl_W_56 rfl dW_hardest_15 rfl rfl rfl ?_
    refine x_aload_n dW_hardest_18 rfl ?_
    refine x_getR fl_W_47 rfl dW_hardest_19 rfl rfl rfl ?_
    refine x_getI fl_W_127 rfl dW_hardest_22 rfl rfl ?_
    -- at 25: .invokevirtual 205
    rw [l1]
    refine x_callV_1 cE_listen ok_Ledger_listen ml_W_205 dW_hardest_25 rfl rfl rfl rfl rfl ?_
    refine ⟨_, rfl, rfl, hok, l2, fun I' hF _ hh _ => ?_⟩
    refine x_aload_n dW_hardest_28 rfl ?_
    refine x_getR fl_W_56 rfl dW_hardest_29 rfl rfl rfl ?_
    refine x_iload_n dW_hardest_32 rfl ?_
    -- at 33: .invokevirtual 260
    refine x_callV_1 cE_shares ok_Ledger_sharesOut ml_W_260 dW_hardest_33 rfl rfl rfl rfl rfl ?_
    refine ⟨i, I, rfl, rfl, hok, hi, hF, hh, fun e I2 hF2 => ?_, fun f e I2 hF2 hf => ?_⟩
    · rw [e] at h1
      refine x_if_ne (tgt := 41) dW_hardest_36 (by decide) (fun h => absurd (by decide) h) (fun _ => ?_)
      refine x_iconst (v := -1) dW_hardest_39 rfl ?_
      -- at 40: .ireturn
      refine x_ireturn dW_hardest_40 rfl rfl ?_
      exact h1 I2 (estay hF2) (cE_e hF2)
    · rw [e] at h1
      refine x_if_ne (tgt := 41) dW_hardest_36 (by decide) (fun _ => ?_) (fun h => absurd h (by decide))
      refine x_iconst (v := 0) dW_hardest_41 rfl ?_
      refine x_istoren_2 dW_hardest_42 rfl rfl ?_
      refine x_iconst (v := 0) dW_hardest_43 rfl ?_
      refine x_istoren_3 dW_hardest_44 rfl rfl ?_
      -- at 45: .iload_n 3
      have loop : ∀ (k j : Nat) (acc : Int32), j + k = pN (cE I) → acc = hardR (cE I) f j → X mW_hardest G (7, 0, 0) S1 I2 L 45 [.ref 0, .int (nI i), .int acc, .int (nI j)] [] Post := by
        intro k
        induction k with
        | zero =>
          intro j acc hj ha
          obtain rfl : j = pN (cE I) := by omega
          refine x_iload_n dW_hardest_45 rfl ?_
          refine x_aload_n dW_hardest_46 rfl ?_
          refine x_getR fl_W_19 rfl dW_hardest_47 rfl rfl rfl ?_
          refine x_getI fl_W_121 rfl dW_hardest_50 rfl rfl ?_
          -- at 53: .if_icmp .ge 33
          rw [hF2 4 (by decide), c1]
          refine x_icmp_ge (tgt := 86) dW_hardest_53 (by decide) (fun _ => ?_) (fun h => absurd (Int32.le_refl _) h)
          refine x_iload_n dW_hardest_86 rfl ?_
          -- at 87: .ireturn
          refine x_ireturn dW_hardest_87 rfl rfl ?_
          rw [ha]
          exact h1 I2 (estay hF2) (cE_e hF2)
        | succ k ih =>
          intro j acc hj ha
          refine x_iload_n dW_hardest_45 rfl ?_
          refine x_aload_n dW_hardest_46 rfl ?_
          refine x_getR fl_W_19 rfl dW_hardest_47 rfl rfl rfl ?_
          refine x_getI fl_W_121 rfl dW_hardest_50 rfl rfl ?_
          -- at 53: .if_icmp .ge 33
          rw [hF2 4 (by decide), c1]
          refine x_icmp_ge (tgt := 86) dW_hardest_53 (by decide) (fun h => absurd h (nI_ge (b := pN (cE I)) (by omega) (by omega))) (fun _ => ?_)
          refine x_iload_n dW_hardest_56 rfl ?_
          refine x_aload_n dW_hardest_57 rfl ?_
          refine x_getR fl_W_19 rfl dW_hardest_58 rfl rfl rfl ?_
          refine x_getR fl_W_164 rfl dW_hardest_61 rfl rfl rfl ?_
          refine x_iload_n dW_hardest_64 rfl ?_
          refine x_ialdJ (j := j) dW_hardest_65 rfl rfl (by first | rfl | (simp only [← nI_add, ← pk_mul]; rfl)) (by omega) ?_
          refine x_aload_n dW_hardest_66 rfl ?_
          refine x_getR fl_W_56 rfl dW_hardest_67 rfl rfl rfl ?_
          refine x_getR fl_W_263 rfl dW_hardest_70 rfl rfl rfl ?_
          refine x_iload_n dW_hardest_73 rfl ?_
          refine x_ialdJ (j := j) dW_hardest_74 rfl rfl (by first | rfl | (simp only [← nI_add, ← pk_mul]; rfl)) (by omega) ?_
          refine x_imul dW_hardest_75 ?_
          -- at 76: .invokestatic 266
          have r1 : I2 10 j = cE I 7 j := by rw [hF2 10 (by decide)]; rfl
          rw [r1, hf j (by omega)]
          refine x_mmax dW_hardest_76 ml_W_266 st_max it_Math co_max rfl rfl ?_
          refine x_eqi (y := imax acc (cE I 7 j * f j)) rfl ?_
          refine x_istoren_2 dW_hardest_79 rfl rfl ?_
          refine x_iincp_3 dW_hardest_80 rfl rfl ?_
          refine x_goto (tgt := 45) dW_hardest_83 (by decide) ?_
          -- at 45: .iload_n 3
          rw [nI_1]
          refine ih (j + 1) _ (by omega) ?_
          rw [hardR, ha]
      exact loop (pN (cE I)) 0 0 (by omega) rfl
  · refine x_if_ne (tgt := 14) dW_hardest_8 (by decide) (fun h => absurd (by decide) h) (fun _ => ?_)
    have a1 : ¬ inR q 0 (cE I 29 2 - 1) := a1
    rw [hardestS, if_pos a1] at h1
    refine x_bipush (v := -5) dW_hardest_11 rfl ?_
    -- at 13: .ireturn
    refine x_ireturn dW_hardest_13 rfl rfl ?_
    exact h1 I (fun _ _ => rfl) rfl
