/-! the class's calls: chance -/
theorem chan_eq {V E : IM} {n m : Nat} (h : VEq V E n m) (P : Nat → List Int32) {p : Nat} (hp : p < n) (q : Int32) : ∀ k, k ≤ m → chanS V (hearV V P) p q k = chanS E (hearV E P) p q k := by
  intro k
  induction k with
  | zero => intro _; rw [chanS, chanS]
  | succ s ih =>
    intro hk
    rw [chanS, chanS, ih (by omega), (h.2.2 s (by omega)).1, hear_eq h P (by omega) hp]
def chanE (E : IM) (p q : Nat) : Int64 := 1000000 - chanS E (hearV E (PE E)) p (nI q) (sN E)
def chanceS (E : IM) (p q : Int32) : Int64 := if ¬ inR p 0 (E 29 1 - 1) ∨ ¬ inR q 0 (E 29 2 - 1) then -4611686018427387904 else chanE E (cl p) (cl q)
def spE_chanceOf : SpT := fun as S I L Post => ∃ (p q : Nat) (I0 : IM), as = [.ref 35, .int (nI p), .int (nI q)] ∧ S = S1 ∧ cOk I0 ∧ p < pN (cE I0) ∧ Fr kScr I0 I ∧ Hrd (cV I0) (PE (cE I0)) (pN (cE I0)) (sN (cE I0)) I ∧ Post (some (.long (chanE (cE I0) p q))) S1 I L
theorem cE_chanceOf : Con mLedger_chanceOf 2 0 0 spE_chanceOf := c_Ledger_chanceOf.imp fun as S I L Post hs => by
  obtain ⟨p, q, I0, rfl, rfl, hok, hp, hF, hh, h1⟩ := hs
  obtain ⟨b1, b2, b3⟩ := hok.say
  obtain ⟨c1, c2, c3⟩ := hok.ppl
  refine ⟨p, sN (cE I0), pN (cE I0), nI q, PE (cE I0), rfl, rfl, by rw [hF 18 (by decide)]; exact b1, b2, c2, hp, fun s hs x hx => ?_, ?_⟩
  · rw [cV_k hF]
    exact (hh s hs).1 x hx
  · rw [cV_k hF, chan_eq (cVE I0) _ hp _ _ (Nat.le_refl _)]
    exact h1
def sp_W_chance : SpT := fun as S I L Post => ∃ p q : Int32, cSp [.int p, .int q] (fun E => .long (chanceS E p q)) (fun E => E) as S I L Post
set_option maxHeartbeats 4000000 in
set_option maxRecDepth 100000 in
theorem c_W_chance : Con mW_chance 7 0 0 sp_W_chance := by
  refine con_of_X rfl fun G as S I L Post hs => ?_
  obtain ⟨p, q, rfl, rfl, hok, h1⟩ := hs
  dsimp only at h1
  refine ⟨0, Nat.le_of_ble_eq_true rfl, ?_⟩
  show X mW_chance G _ S1 I L 0 [.ref 0, .int p, .int q] [] Post
  obtain ⟨v1, v2, -⟩ := hok.vow
  obtain ⟨c1, c2, -⟩ := hok.ppl
  obtain ⟨l1, l2⟩ := hok.law
  have bad : (¬ inR p 0 (cE I 29 1 - 1) ∨ ¬ inR q 0 (cE I 29 2 - 1)) → X mW_chance G (7, 0, 0) S1 I L 22 [.ref 0, .int p, .int q] [] Post := by
    intro hc
    rw [chanceS, if_pos hc] at h1
    refine x_ldc2 dW_chance_22 cn_W_287 ?_
    -- at 25: .lreturn
    refine x_lreturn dW_chance_25 rfl ?_
    exact h1 I (fun _ _ => rfl) rfl
  refine x_aload_n dW_chance_0 rfl ?_
  refine x_getR fl_W_19 rfl dW_chance_1 rfl rfl rfl ?_
  refine x_iload_n dW_chance_4 rfl ?_
  -- at 5: .invokevirtual 143
  refine x_callV_1 c_Folk_has ok_Folk_has ml_W_143 dW_chance_5 rfl rfl rfl rfl rfl ?_
  refine ⟨_, rfl, rfl, fun a1 => ?_, fun a1 => ?_⟩
  · refine x_if_eq (tgt := 22) dW_chance_8 (by decide) (fun h => absurd h (by decide)) (fun _ => ?_)
    refine x_aload_n dW_chance_11 rfl ?_
    refine x_getR fl_W_26 rfl dW_chance_12 rfl rfl rfl ?_
    refine x_iload_n dW_chance_15 rfl ?_
    -- at 16: .invokevirtual 174
    refine x_callV_1 c_Vows_has ok_Vows_has ml_W_174 dW_chance_16 rfl rfl rfl rfl rfl ?_
    refine ⟨_, rfl, rfl, fun a2 => ?_, fun a2 => ?_⟩
    · refine x_if_ne (tgt := 26) dW_chance_19 (by decide) (fun _ => ?_) (fun h => absurd h (by decide))
      have a1 : inR p 0 (cE I 29 1 - 1) := a1
      have a2 : inR q 0 (cE I 29 2 - 1) := a2
      rw [chanceS, if_neg (fun z => z.elim (fun y => y a1) (fun y => y a2))] at h1
      rw [show cE I 29 1 = nI (pN (cE I)) from c1] at a1
      rw [show cE I 29 2 = nI (qN (cE I)) from v1] at a2
      obtain ⟨i, hi, rfl⟩ := has_nat (by omega) a1
      obtain ⟨j, hj, rfl⟩ := has_nat (by omega) a2
      rw [cl_nI (by omega), cl_nI (by omega)] at h1
      refine x_aload_n dW_chance_26 rfl ?_
      refine x_getR fl_W_56 rfl dW_chance_27 rfl rfl rfl ?_
      refine x_aload_n dW_chance_30 rfl ?_
      refine x_getR fl_W_47 rfl dW_chance_31 rfl rfl rfl ?_
      refine x_getI fl_W_127 rfl dW_chance_34 rfl rfl ?_
      -- at 37: .invokevirtual 205
      rw [l1]
      refine x_callV_1 cE_listen ok_Ledger_listen ml_W_205 dW_chance_37 rfl rfl rfl rfl rfl ?_
      refine ⟨_, rfl, rfl, hok, l2, fun I' hF _ hh _ => ?_⟩
      refine x_aload_n dW_chance_40 rfl ?_
      refine x_getR fl_W_56 rfl dW_chance_41 rfl rfl rfl ?_
      refine x_iload_n dW_chance_44 rfl ?_
      refine x_iload_n dW_chance_45 rfl ?_
      -- at 46: .invokevirtual 289
      refine x_callV_2 cE_chanceOf ok_Ledger_chanceOf ml_W_289 dW_chance_46 rfl rfl rfl rfl rfl ?_
      refine ⟨i, j, I, rfl, rfl, hok, hi, hF, hh, ?_⟩
      refine x_lreturn dW_chance_49 rfl ?_
      exact h1 I' (kstay hF) (cE_k hF)
    · refine x_if_ne (tgt := 26) dW_chance_19 (by decide) (fun h => absurd (by decide) h) (fun _ => ?_)
      exact bad (Or.inr a2)
  · refine x_if_eq (tgt := 22) dW_chance_8 (by decide) (fun _ => ?_) (fun h => absurd (by decide) h)
    exact bad (Or.inl a1)
