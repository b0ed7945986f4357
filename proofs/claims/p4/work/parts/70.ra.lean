/-! the reference's calls: who hears, owes, what is kept -/
theorem rE_59 {I : IM} {j : Nat} {x : Int32} (hj : j ∉ [2, 3, 12, 17, 23, 26, 27, 28, 29, 30, 31, 32]) : rE (up2 I 59 j x) = rE I := by
  have e : ∀ k, k ∈ [2, 3, 12, 17, 23, 26, 27, 28, 29, 30, 31, 32] → up2 I 59 j x 59 k = I 59 k := fun k hk => by
    rw [up2_s, up1_n]
    rintro rfl
    exact hj hk
  have f : ∀ k, k ≠ 59 → up2 I 59 j x k = I k := fun k hk => up2_n _ _ _ hk
  have e29 : rSc (up2 I 59 j x) = rSc I := by
    funext i
    unfold rSc
    rw [e 28 (by decide)]
    split <;> first | exact e _ (by decide) | rfl | (rw [e 29 (by decide)])
  funext a
  unfold rE
  rw [e29, e 3 (by decide), e 17 (by decide), e 23 (by decide), e 26 (by decide), e 28 (by decide), e 30 (by decide), e 31 (by decide), f 60 (by decide), f 61 (by decide), f 62 (by decide), f 63 (by decide), f 64 (by decide), f 65 (by decide), f 66 (by decide), f 67 (by decide), f 68 (by decide), f 69 (by decide), f 70 (by decide), f 71 (by decide), f 72 (by decide), f 73 (by decide), f 74 (by decide), f 75 (by decide), f 76 (by decide), f 77 (by decide), f 78 (by decide), f 79 (by decide), f 80 (by decide), f 81 (by decide), f 82 (by decide), f 83 (by decide), f 84 (by decide), f 85 (by decide), f 86 (by decide), f 87 (by decide), f 88 (by decide), f 89 (by decide), f 90 (by decide)]
theorem rV_59 {I : IM} {j : Nat} {x : Int32} : rV (up2 I 59 j x) = rV I := by
  have f : ∀ k, k ≠ 59 → up2 I 59 j x k = I k := fun k hk => up2_n _ _ _ hk
  funext a
  unfold rV
  rw [f 60 (by decide), f 61 (by decide), f 62 (by decide), f 63 (by decide), f 64 (by decide), f 65 (by decide), f 66 (by decide), f 67 (by decide), f 68 (by decide), f 69 (by decide), f 70 (by decide), f 71 (by decide), f 72 (by decide), f 73 (by decide), f 74 (by decide), f 75 (by decide), f 76 (by decide), f 77 (by decide)]
/-- the reference's state is the same -/
def rSame (I I' : IM) : Prop := (∀ k, k < 59 → I' k = I k) ∧ rE I' = rE I ∧ rOwn I'
theorem rSame.refl {I : IM} (h : rOwn I) : rSame I I := ⟨fun _ _ => rfl, rfl, h⟩
theorem rSame.fr {I I' I'' : IM} (h : rSame I I') (hF : Fr [93, 94, 95, 96, 97, 98, 99] I' I'') : rSame I I'' :=
  ⟨fun k hk => by rw [hF k (by simp; omega)]; exact h.1 k hk, by rw [rE_fr hF]; exact h.2.1, h.2.2.fr hF⟩
theorem rSame.tr {I I' I'' : IM} (h : rSame I I') (h2 : rSame I' I'') : rSame I I'' :=
  ⟨fun k hk => (h2.1 k hk).trans (h.1 k hk), h2.2.1.trans h.2.1, h2.2.2⟩
theorem rSame.inv {I I' : IM} (h : rSame I I') (h1 : Inv (rE I)) : Inv (rE I') := by rw [h.2.1]; exact h1
/-- a call that answers alone -/
theorem r_end {I : IM} {v : Option Value} {Post : PostT} (h1 : ∀ (I' : IM) (L' : LM), (∀ k, k < 59 → I' k = I k) → rOwn I' → rE I' = rE I → Post v S1 I' L') : ∀ ⦃I' : IM⦄ ⦃L' : LM⦄, rSame I I' → Post v S1 I' L' := fun I' L' h => h1 I' L' h.1 h.2.2 h.2.1
def sp_R_hears : SpT := fun as S I L Post => ∃ s p : Int32, rSp [.int s, .int p] (fun E => .int (hearsS E s p)) (fun E => E) as S I L Post
set_option maxHeartbeats 4000000 in
set_option maxRecDepth 100000 in
theorem c_R_hears : Con mR_hears 5 0 0 sp_R_hears := by
  refine con_of_X rfl fun G as S I L Post hs => ?_
  obtain ⟨s, p, rfl, rfl, ⟨hok, own⟩, h1⟩ := hs
  dsimp only at h1
  have h1 := r_end h1
  refine ⟨0, Nat.le_of_ble_eq_true rfl, ?_⟩
  show X mR_hears G _ S1 I L 0 [.ref 59, .int s, .int p] [] Post
  have bad : (¬ inR s 0 (rE I 29 3 - 1) ∨ ¬ inR p 0 (rE I 29 1 - 1)) → X mR_hears G (5, 0, 0) S1 I L 25 [.ref 59, .int s, .int p] [] Post := by
    intro hc
    rw [hearsS, if_pos hc] at h1
    refine x_bipush (v := -5) dR_hears_25 rfl ?_
    -- at 27: .ireturn
    refine x_ireturn dR_hears_27 rfl rfl ?_
    exact h1 (rSame.refl own)
  refine x_aload_n dR_hears_0 rfl ?_
  refine x_iload_n dR_hears_1 rfl ?_
  -- at 2: .invokevirtual 243
  refine x_callV_1 c_R_isSaying ok_R_isSaying ml_R_243 dR_hears_2 rfl rfl rfl rfl rfl ?_
  refine ⟨_, rfl, rfl, fun a1 => ?_, fun a1 => ?_⟩
  · refine x_if_eq (tgt := 25) dR_hears_5 (by decide) (fun h => absurd h (by decide)) (fun _ => ?_)
    refine x_aload_n dR_hears_8 rfl ?_
    refine x_iload_n dR_hears_9 rfl ?_
    -- at 10: .invokevirtual 230
    refine x_callV_1 c_R_isOne ok_R_isOne ml_R_230 dR_hears_10 rfl rfl rfl rfl rfl ?_
    refine ⟨_, rfl, rfl, fun a2 => ?_, fun a2 => ?_⟩
    · refine x_if_eq (tgt := 25) dR_hears_13 (by decide) (fun h => absurd h (by decide)) (fun _ => ?_)
      have a1 : inR s 0 (rE I 29 3 - 1) := a1
      have a2 : inR p 0 (rE I 29 1 - 1) := a2
      rw [hearsS, if_neg (fun z => z.elim (fun y => y a1) (fun y => y a2))] at h1
      rw [show rE I 29 3 = nI (sN (rE I)) from hok.c.1] at a1
      rw [show rE I 29 1 = nI (pN (rE I)) from hok.a.1] at a2
      have n1 := hok.c.2.1
      have n2 := hok.a.2.1
      obtain ⟨i, hi, rfl⟩ := has_nat (by omega) a1
      obtain ⟨j, hj, rfl⟩ := has_nat (by omega) a2
      rw [cl_nI (by omega), cl_nI (by omega)] at h1
      obtain ⟨k1, k2, k3, k4, k5, k6⟩ := rRk hok
      refine x_aload_n dR_hears_16 rfl ?_
      refine x_iload_n dR_hears_17 rfl ?_
      refine x_iload_n dR_hears_18 rfl ?_
      -- at 19: .invokevirtual 256
      refine x_callV_2 c_R_hearsOf ok_R_hearsOf ml_R_256 dR_hears_19 rfl rfl rfl rfl rfl ?_
      refine ⟨i, j, PE (rE I), rfl, rfl, by omega, by omega, k5 i hi, k4 j hj, k6, fun I' hF => ?_⟩
      refine x_goto (tgt := 27) dR_hears_22 (by decide) ?_
      -- at 27: .ireturn
      refine x_ireturn dR_hears_27 rfl rfl ?_
      rw [hear_eq (rVE I) _ hi hj]
      exact h1 ((rSame.refl own).fr (hF.wk (by decide)))
    · refine x_if_eq (tgt := 25) dR_hears_13 (by decide) (fun _ => ?_) (fun h => absurd (by decide) h)
      exact bad (Or.inr a2)
  · refine x_if_eq (tgt := 25) dR_hears_5 (by decide) (fun _ => ?_) (fun h => absurd (by decide) h)
    exact bad (Or.inl a1)
theorem rCC {I : IM} {s : Nat} (hs : s < sN (rE I)) : CC (rV I) (PE (rE I)) (pN (rE I)) s = CE (rE I) (wN (rE I)) s := CC_eq (rVE I) _ hs
def sp_R_clearE : SpT := fun as S I L Post => ∃ s : Nat, as = [.ref 59, .int (nI s)] ∧ S = S1 ∧ rOk I ∧ s < sN (rE I) ∧ ∀ (I' : IM) (L' : LM), Fr [94, 95] I I' → Post (some (.int (CE (rE I) (wN (rE I)) s))) S1 I' L'
theorem cE_R_clear : Con mR_clearTo 6 0 0 sp_R_clearE := c_R_clearTo.imp fun as S I L Post hs => by
  obtain ⟨s, rfl, rfl, ⟨hok, own⟩, hs, h1⟩ := hs
  obtain ⟨k1, k2, k3, k4, k5, k6⟩ := rRk hok
  refine ⟨s, pN (rE I), PE (rE I), _, rfl, rfl, by omega, ⟨k1, k2, by omega, k4, fun s hs => absurd hs (Nat.not_lt_zero s), k6⟩, k5 s hs, Or.inl ⟨own.1, rfl⟩, fun I' L' hF _ => ?_⟩
  rw [rCC hs]
  exact h1 I' L' hF
def sp_R_heard : SpT := fun as S I L Post => ∃ s : Int32, rSp [.int s] (fun E => .int (heardS E s)) (fun E => E) as S I L Post
set_option maxHeartbeats 4000000 in
set_option maxRecDepth 100000 in
theorem c_R_heard : Con mR_heard 7 0 0 sp_R_heard := by
  refine con_of_X rfl fun G as S I L Post hs => ?_
  obtain ⟨s, rfl, rfl, ⟨hok, own⟩, h1⟩ := hs
  dsimp only at h1
  have h1 := r_end h1
  refine ⟨0, Nat.le_of_ble_eq_true rfl, ?_⟩
  show X mR_heard G _ S1 I L 0 [.ref 59, .int s] [] Post
  refine x_aload_n dR_heard_0 rfl ?_
  refine x_iload_n dR_heard_1 rfl ?_
  -- at 2: .invokevirtual 243
  refine x_callV_1 c_R_isSaying ok_R_isSaying ml_R_243 dR_heard_2 rfl rfl rfl rfl rfl ?_
  refine ⟨_, rfl, rfl, fun a1 => ?_, fun a1 => ?_⟩
  · refine x_if_eq (tgt := 16) dR_heard_5 (by decide) (fun h => absurd h (by decide)) (fun _ => ?_)
    have a1 : inR s 0 (rE I 29 3 - 1) := a1
    rw [heardS, if_neg (not_not_intro a1)] at h1
    rw [show rE I 29 3 = nI (sN (rE I)) from hok.c.1] at a1
    have n1 := hok.c.2.1
    obtain ⟨i, hi, rfl⟩ := has_nat (by omega) a1
    rw [cl_nI (by omega)] at h1
    refine x_aload_n dR_heard_8 rfl ?_
    refine x_iload_n dR_heard_9 rfl ?_
    -- at 10: .invokevirtual 277
    refine x_callV_1 cE_R_clear ok_R_clearTo ml_R_277 dR_heard_10 rfl rfl rfl rfl rfl ?_
    refine ⟨i, rfl, rfl, ⟨hok, own⟩, hi, fun I' L' hF => ?_⟩
    refine x_goto (tgt := 18) dR_heard_13 (by decide) ?_
    -- at 18: .ireturn
    refine x_ireturn dR_heard_18 rfl rfl ?_
    exact h1 ((rSame.refl own).fr (hF.wk (by decide)))
  · have a1 : ¬ inR s 0 (rE I 29 3 - 1) := a1
    refine x_if_eq (tgt := 16) dR_heard_5 (by decide) (fun _ => ?_) (fun h => absurd (by decide) h)
    rw [heardS, if_pos a1] at h1
    refine x_bipush (v := -5) dR_heard_16 rfl ?_
    -- at 18: .ireturn
    refine x_ireturn dR_heard_18 rfl rfl ?_
    exact h1 (rSame.refl own)
def sp_R_nobody : SpT := rSp [] (fun E => .int (nobodyS E)) (fun E => E)
set_option maxHeartbeats 4000000 in
set_option maxRecDepth 100000 in
theorem c_R_nobody : Con mR_nobody 7 0 0 sp_R_nobody := by
  refine con_of_X rfl fun G as S I L Post hs => ?_
  obtain ⟨rfl, rfl, ⟨hok, own⟩, h1⟩ := hs
  dsimp only at h1
  have h1 := r_end h1
  refine ⟨2, Nat.le_of_ble_eq_true rfl, ?_⟩
  show X mR_nobody G _ S1 I L 0 [.ref 59, .null, .null] [] Post
  have n1 := hok.c.2.1
  refine x_iconst (v := 0) dR_nobody_0 rfl ?_
  refine x_istoren_1 dR_nobody_1 rfl rfl ?_
  refine x_iconst (v := 0) dR_nobody_2 rfl ?_
  refine x_istoren_2 dR_nobody_3 rfl rfl ?_
  -- at 4: .iload_n 2
  have loop : ∀ (k i : Nat) (acc : Int32) (I' : IM) (L' : LM), i + k = sN (rE I) → acc = bs i (fun s => decide (CE (rE I) (wN (rE I)) s = 0)) → rSame I I' → X mR_nobody G (7, 0, 0) S1 I' L' 4 [.ref 59, .int acc, .int (nI i)] [] Post := by
    intro k
    induction k with
    | zero =>
      intro i acc I' L' hi ha hsm
      refine x_iload_n dR_nobody_4 rfl ?_
      refine x_aload_n dR_nobody_5 rfl ?_
      refine x_getI fl_R_158 rfl dR_nobody_6 rfl rfl ?_
      -- at 9: .if_icmp .ge 27
      rw [show I' 59 17 = nI (sN (rE I)) by rw [← hsm.2.1]; exact (hsm.inv hok).c.1]
      refine x_icmp_ge (tgt := 36) dR_nobody_9 (by decide) (fun _ => ?_) (fun h => absurd (by rw [show i = sN (rE I) by omega]; exact Int32.le_refl _) h)
      refine x_iload_n dR_nobody_36 rfl ?_
      -- at 37: .ireturn
      refine x_ireturn dR_nobody_37 rfl rfl ?_
      rw [ha]
      unfold nobodyS at h1
      rw [show i = sN (rE I) by omega]
      exact h1 hsm
    | succ k ih =>
      intro i acc I' L' hi ha hsm
      refine x_iload_n dR_nobody_4 rfl ?_
      refine x_aload_n dR_nobody_5 rfl ?_
      refine x_getI fl_R_158 rfl dR_nobody_6 rfl rfl ?_
      -- at 9: .if_icmp .ge 27
      rw [show I' 59 17 = nI (sN (rE I)) by rw [← hsm.2.1]; exact (hsm.inv hok).c.1]
      refine x_icmp_ge (tgt := 36) dR_nobody_9 (by decide) (fun h => absurd h (nI_ge (by omega) (by omega))) (fun _ => ?_)
      refine x_iload_n dR_nobody_12 rfl ?_
      refine x_aload_n dR_nobody_13 rfl ?_
      refine x_iload_n dR_nobody_14 rfl ?_
      -- at 15: .invokevirtual 277
      refine x_callV_1 cE_R_clear ok_R_clearTo ml_R_277 dR_nobody_15 rfl rfl rfl rfl rfl ?_
      refine ⟨i, rfl, rfl, ⟨hsm.inv hok, hsm.2.2⟩, by rw [hsm.2.1]; omega, fun I2 L2 hF2 => ?_⟩
      rw [hsm.2.1]
      refine x_if_ne (tgt := 27) dR_nobody_18 (by decide) (fun c1 => ?_) (fun c1 => ?_)
      · refine x_iconst (v := 0) dR_nobody_27 rfl ?_
        refine x_ior dR_nobody_28 ?_
        -- at 29: .istore_n 1
        refine x_eqi (y := acc) (by simp) ?_
        refine x_istoren_1 dR_nobody_29 rfl rfl ?_
        refine x_iincp_2 dR_nobody_30 rfl rfl ?_
        refine x_goto (tgt := 4) dR_nobody_33 (by decide) ?_
        -- at 4: .iload_n 2
        rw [nI_1]
        refine ih (i + 1) _ I2 L2 (by omega) ?_ (hsm.fr (hF2.wk (by decide)))
        rw [bs, if_neg (fun z => c1 (of_decide_eq_true z)), ha]
      · refine x_iconst (v := 1) dR_nobody_21 rfl ?_
        refine x_iload_n dR_nobody_22 rfl ?_
        refine x_ishl dR_nobody_23 ?_
        refine x_goto (tgt := 28) dR_nobody_24 (by decide) ?_
        refine x_ior dR_nobody_28 ?_
        refine x_istoren_1 dR_nobody_29 rfl rfl ?_
        refine x_iincp_2 dR_nobody_30 rfl rfl ?_
        refine x_goto (tgt := 4) dR_nobody_33 (by decide) ?_
        -- at 4: .iload_n 2
        rw [nI_1]
        refine ih (i + 1) _ I2 L2 (by omega) ?_ (hsm.fr (hF2.wk (by decide)))
        rw [bs, if_pos (decide_eq_true c1), ha]
        rfl
  exact loop _ 0 0 I L (Nat.zero_add _) rfl (rSame.refl own)
/-! what is owed, at the state -/
def KpE (I' : IM) (E : IM) (w : Int32) : Prop := KpOk I' E (PE E) (RW E (wN E) w) (pN E) (qN E)
def sp_R_owesN : SpT := fun as S I L Post => ∃ (w : Int32), as = [.ref 59, .int (nI (sN (rE I)))] ∧ S = S1 ∧ Inv (rE I) ∧ I 59 55 = 0 ∧ I 59 60 = w ∧
  ∀ (I' : IM) (L' : LM), Fr [94, 95, 96, 97, 98] I I' → OwesV (rE I) (PE (rE I)) (pN (rE I)) (qN (rE I)) w (sN (rE I)) I' → KpE I' (rE I) w → Post none S1 I' L'
theorem cE_R_owesN : Con mR_owes 8 0 0 sp_R_owesN := cE_R_owes.imp fun as S I L Post hs => by
  obtain ⟨w, rfl, rfl, hok, hd, hw, h1⟩ := hs
  exact ⟨sN (rE I), pN (rE I), qN (rE I), w, PE (rE I), rE I, rfl, rfl, rRk hok, rOw hok _, hw, hd, rVE I, h1⟩
theorem TQ_eq (E : IM) : TQ (RW E (wN E) (-1)) (qN E) = TT E (wN E) := by
  funext p
  exact QV_tot E (PE E) (pN E) (qN E) (-1) (sN E) p
def sp_R_owe : SpT := fun as S I L Post => ∃ p q : Int32, rSp [.int p, .int q] (fun E => .int (oweS E p q)) (fun E => E) as S I L Post
set_option maxHeartbeats 4000000 in
set_option maxRecDepth 100000 in
theorem c_R_owe : Con mR_owe 9 0 0 sp_R_owe := by
  refine con_of_X rfl fun G as S I L Post hs => ?_
  obtain ⟨p, q, rfl, rfl, ⟨hok, own⟩, h1⟩ := hs
  dsimp only at h1
  have h1 := r_end h1
  refine ⟨0, Nat.le_of_ble_eq_true rfl, ?_⟩
  show X mR_owe G _ S1 I L 0 [.ref 59, .int p, .int q] [] Post
  have bad : (¬ inR p 0 (rE I 29 1 - 1) ∨ ¬ inR q 0 (rE I 29 2 - 1)) → X mR_owe G (9, 0, 0) S1 I L 16 [.ref 59, .int p, .int q] [] Post := by
    intro hc
    rw [oweS, if_pos hc] at h1
    refine x_bipush (v := -5) dR_owe_16 rfl ?_
    -- at 18: .ireturn
    refine x_ireturn dR_owe_18 rfl rfl ?_
    exact h1 (rSame.refl own)
  refine x_aload_n dR_owe_0 rfl ?_
  refine x_iload_n dR_owe_1 rfl ?_
  -- at 2: .invokevirtual 230
  refine x_callV_1 c_R_isOne ok_R_isOne ml_R_230 dR_owe_2 rfl rfl rfl rfl rfl ?_
  refine ⟨_, rfl, rfl, fun a1 => ?_, fun a1 => ?_⟩
  · refine x_if_eq (tgt := 16) dR_owe_5 (by decide) (fun h => absurd h (by decide)) (fun _ => ?_)
    refine x_aload_n dR_owe_8 rfl ?_
    refine x_iload_n dR_owe_9 rfl ?_
    -- at 10: .invokevirtual 236
    refine x_callV_1 c_R_isPromise ok_R_isPromise ml_R_236 dR_owe_10 rfl rfl rfl rfl rfl ?_
    refine ⟨_, rfl, rfl, fun a2 => ?_, fun a2 => ?_⟩
    · refine x_if_ne (tgt := 19) dR_owe_13 (by decide) (fun _ => ?_) (fun h => absurd h (by decide))
      have a1 : inR p 0 (rE I 29 1 - 1) := a1
      have a2 : inR q 0 (rE I 29 2 - 1) := a2
      rw [oweS, if_neg (fun z => z.elim (fun y => y a1) (fun y => y a2))] at h1
      rw [show rE I 29 1 = nI (pN (rE I)) from hok.a.1] at a1
      rw [show rE I 29 2 = nI (qN (rE I)) from hok.b.1] at a2
      have n1 := hok.a.2.1
      have n2 := hok.b.2.1
      obtain ⟨i, hi, rfl⟩ := has_nat (by omega) a1
      obtain ⟨j, hj, rfl⟩ := has_nat (by omega) a2
      rw [cl_nI (by omega), cl_nI (by omega)] at h1
      refine x_aload_n dR_owe_19 rfl ?_
      refine x_aload_n dR_owe_20 rfl ?_
      refine x_getI fl_R_158 rfl dR_owe_21 rfl rfl ?_
      -- at 24: .invokevirtual 295
      rw [show I 59 17 = nI (sN (rE I)) from hok.c.1]
      refine x_callV_1 cE_R_owesN ok_R_owes ml_R_295 dR_owe_24 rfl rfl rfl rfl rfl ?_
      refine ⟨_, rfl, rfl, hok, own.1, own.2.1, fun I' L' hF ho _ => ?_⟩
      refine x_aload_n dR_owe_27 rfl ?_
      refine x_getR fl_R_122 rfl dR_owe_28 rfl rfl rfl ?_
      refine x_bipush (v := 8) dR_owe_31 rfl ?_
      refine x_iload_n dR_owe_33 rfl ?_
      refine x_imul dR_owe_34 ?_
      refine x_iload_n dR_owe_35 rfl ?_
      refine x_iadd dR_owe_36 ?_
      refine x_ialdJ dR_owe_37 rfl rfl (r8 i j) (by omega) ?_
      -- at 38: .ireturn
      refine x_ireturn dR_owe_38 rfl rfl ?_
      rw [ho.1 i hi j (by omega)]
      exact h1 ((rSame.refl own).fr (hF.wk (by decide)))
    · refine x_if_ne (tgt := 19) dR_owe_13 (by decide) (fun h => absurd (by decide) h) (fun _ => ?_)
      exact bad (Or.inr a2)
  · refine x_if_eq (tgt := 16) dR_owe_5 (by decide) (fun _ => ?_) (fun h => absurd (by decide) h)
    exact bad (Or.inl a1)
def sp_R_load : SpT := fun as S I L Post => ∃ p w : Int32, rSp [.int p, .int w] (fun E => .int (loadS E p w)) (fun E => E) as S I L Post
set_option maxHeartbeats 4000000 in
set_option maxRecDepth 100000 in
theorem c_R_load : Con mR_load 9 0 0 sp_R_load := by
  refine con_of_X rfl fun G as S I L Post hs => ?_
  obtain ⟨p, w, rfl, rfl, ⟨hok, own⟩, h1⟩ := hs
  dsimp only at h1
  have h1 := r_end h1
  refine ⟨0, Nat.le_of_ble_eq_true rfl, ?_⟩
  show X mR_load G _ S1 I L 0 [.ref 59, .int p, .int w] [] Post
  have n1 := hok.a.2.1
  have n2 := hok.b.2.1
  refine x_aload_n dR_load_0 rfl ?_
  refine x_iload_n dR_load_1 rfl ?_
  -- at 2: .invokevirtual 230
  refine x_callV_1 c_R_isOne ok_R_isOne ml_R_230 dR_load_2 rfl rfl rfl rfl rfl ?_
  refine ⟨_, rfl, rfl, fun a1 => ?_, fun a1 => ?_⟩
  · have a1 : inR p 0 (rE I 29 1 - 1) := a1
    refine x_if_ne (tgt := 11) dR_load_5 (by decide) (fun _ => ?_) (fun h => absurd h (by decide))
    rw [loadS, if_neg (not_not_intro a1)] at h1
    rw [show rE I 29 1 = nI (pN (rE I)) from hok.a.1] at a1
    obtain ⟨i, hi, rfl⟩ := has_nat (by omega) a1
    rw [cl_nI (by omega)] at h1
    refine x_aload_n dR_load_11 rfl ?_
    refine x_aload_n dR_load_12 rfl ?_
    refine x_getI fl_R_158 rfl dR_load_13 rfl rfl ?_
    -- at 16: .invokevirtual 295
    rw [show I 59 17 = nI (sN (rE I)) from hok.c.1]
    refine x_callV_1 cE_R_owesN ok_R_owes ml_R_295 dR_load_16 rfl rfl rfl rfl rfl ?_
    refine ⟨_, rfl, rfl, hok, own.1, own.2.1, fun I' L' hF ho hk => ?_⟩
    have sm := (rSame.refl own).fr (hF.wk (by decide))
    have hq : I' 59 12 = nI (qN (rE I)) := hk.2.2.2.1
    refine x_iload_n dR_load_19 rfl ?_
    -- at 20: .tableswitch 75 0 4 #[36, 42, 49, 56, 62]
    by_cases a2 : inR w 0 4
    · rw [if_neg (not_not_intro a2)] at h1
      obtain ⟨j, hj, rfl⟩ := inR_of (n := 4) (by decide) a2
      rcases (show j = 0 ∨ j = 1 ∨ j = 2 ∨ j = 3 ∨ j = 4 by omega) with rfl | rfl | rfl | rfl | rfl
      · rw [if_pos (show nI 0 = (0 : Int32) from rfl)] at h1
        refine x_tableIn (tgt := 56) dR_load_20 (by decide) (by decide) rfl (by decide) ?_
        refine x_aload_n dR_load_56 rfl ?_
        refine x_iload_n dR_load_57 rfl ?_
        -- at 58: .invokevirtual 298
        refine x_callV_1 c_R_owedBy ok_R_owedBy ml_R_298 dR_load_58 rfl rfl rfl rfl rfl ?_
        refine ⟨i, _, _, _, rfl, rfl, hi, n1, hq, n2, ho.1, ?_⟩
        refine x_ireturn dR_load_61 rfl rfl ?_
        rw [← TQ_eq] at h1
        exact h1 sm
      · rw [if_neg (show ¬ nI 1 = (0 : Int32) by decide), if_pos (show nI 1 = (1 : Int32) from rfl)] at h1
        refine x_tableIn (tgt := 62) dR_load_20 (by decide) (by decide) rfl (by decide) ?_
        refine x_aload_n dR_load_62 rfl ?_
        refine x_getR fl_R_125 rfl dR_load_63 rfl rfl rfl ?_
        refine x_iload_n dR_load_66 rfl ?_
        refine x_ialdJ (j := i) dR_load_67 rfl rfl (by first | rfl | (simp only [← nI_add, ← pk_mul]; rfl)) (by omega) ?_
        -- at 68: .ireturn
        refine x_ireturn dR_load_68 rfl rfl ?_
        rw [(ho.2 i hi).1]
        exact h1 sm
      · rw [if_neg (show ¬ nI 2 = (0 : Int32) by decide), if_neg (show ¬ nI 2 = (1 : Int32) by decide), if_pos (show nI 2 = (2 : Int32) from rfl)] at h1
        refine x_tableIn (tgt := 69) dR_load_20 (by decide) (by decide) rfl (by decide) ?_
        refine x_aload_n dR_load_69 rfl ?_
        refine x_getR fl_R_128 rfl dR_load_70 rfl rfl rfl ?_
        refine x_iload_n dR_load_73 rfl ?_
        refine x_ialdJ (j := i) dR_load_74 rfl rfl (by first | rfl | (simp only [← nI_add, ← pk_mul]; rfl)) (by omega) ?_
        -- at 75: .ireturn
        refine x_ireturn dR_load_75 rfl rfl ?_
        rw [(ho.2 i hi).2]
        exact h1 sm
      · rw [if_neg (show ¬ nI 3 = (0 : Int32) by decide), if_neg (show ¬ nI 3 = (1 : Int32) by decide), if_neg (show ¬ nI 3 = (2 : Int32) by decide), if_pos (show nI 3 = (3 : Int32) from rfl)] at h1
        refine x_tableIn (tgt := 76) dR_load_20 (by decide) (by decide) rfl (by decide) ?_
        refine x_aload_n dR_load_76 rfl ?_
        refine x_iload_n dR_load_77 rfl ?_
        -- at 78: .invokevirtual 301
        refine x_callV_1 c_R_painOf ok_R_painOf ml_R_301 dR_load_78 rfl rfl rfl rfl rfl ?_
        refine ⟨i, _, _, _, _, _, rfl, rfl, hi, hk, fun I2 hF2 => ?_⟩
        refine x_ireturn dR_load_81 rfl rfl ?_
        rw [TQ_eq]
        exact h1 (sm.fr (hF2.wk (by decide)))
      · rw [if_neg (show ¬ nI 4 = (0 : Int32) by decide), if_neg (show ¬ nI 4 = (1 : Int32) by decide), if_neg (show ¬ nI 4 = (2 : Int32) by decide), if_neg (show ¬ nI 4 = (3 : Int32) by decide)] at h1
        refine x_tableIn (tgt := 82) dR_load_20 (by decide) (by decide) rfl (by decide) ?_
        refine x_aload_n dR_load_82 rfl ?_
        refine x_getR fl_R_38 rfl dR_load_83 rfl rfl rfl ?_
        refine x_iload_n dR_load_86 rfl ?_
        refine x_ialdJ (j := i) dR_load_87 rfl rfl (by first | rfl | (simp only [← nI_add, ← pk_mul]; rfl)) (by omega) ?_
        refine x_aload_n dR_load_88 rfl ?_
        refine x_iload_n dR_load_89 rfl ?_
        -- at 90: .invokevirtual 298
        refine x_callV_1 c_R_owedBy ok_R_owedBy ml_R_298 dR_load_90 rfl rfl rfl rfl rfl ?_
        refine ⟨i, _, _, _, rfl, rfl, hi, n1, hq, n2, ho.1, ?_⟩
        refine x_isub dR_load_93 ?_
        -- at 94: .ireturn
        refine x_ireturn dR_load_94 rfl rfl ?_
        rw [← TQ_eq] at h1
        rw [hF 68 (by decide)]
        exact h1 sm
    · rw [if_pos a2] at h1
      have ho := toInt_out (w := w) (n := 4) (by omega) (fun k hk => by
        rintro rfl
        exact a2 ⟨(nI_leI (a := 0) (by omega) (by omega)).mpr (by omega), (nI_leI (b := 4) (by omega) (by omega)).mpr (by omega)⟩)
      refine x_tableOut (tgt := 95) dR_load_20 ho (by decide) ?_
      refine x_bipush (v := -7) dR_load_95 rfl ?_
      -- at 97: .ireturn
      refine x_ireturn dR_load_97 rfl rfl ?_
      exact h1 sm
  · have a1 : ¬ inR p 0 (rE I 29 1 - 1) := a1
    refine x_if_ne (tgt := 11) dR_load_5 (by decide) (fun h => absurd (by decide) h) (fun _ => ?_)
    rw [loadS, if_pos a1] at h1
    refine x_bipush (v := -5) dR_load_8 rfl ?_
    -- at 10: .ireturn
    refine x_ireturn dR_load_10 rfl rfl ?_
    exact h1 (rSame.refl own)
def sp_R_done : SpT := fun as S I L Post => ∃ q : Int32, rSp [.int q] (fun E => .int (doneS E q)) (fun E => E) as S I L Post
set_option maxHeartbeats 4000000 in
set_option maxRecDepth 100000 in
theorem c_R_done : Con mR_done 9 0 0 sp_R_done := by
  refine con_of_X rfl fun G as S I L Post hs => ?_
  obtain ⟨q, rfl, rfl, ⟨hok, own⟩, h1⟩ := hs
  dsimp only at h1
  have h1 := r_end h1
  refine ⟨0, Nat.le_of_ble_eq_true rfl, ?_⟩
  show X mR_done G _ S1 I L 0 [.ref 59, .int q] [] Post
  have n2 := hok.b.2.1
  refine x_aload_n dR_done_0 rfl ?_
  refine x_iload_n dR_done_1 rfl ?_
  -- at 2: .invokevirtual 236
  refine x_callV_1 c_R_isPromise ok_R_isPromise ml_R_236 dR_done_2 rfl rfl rfl rfl rfl ?_
  refine ⟨_, rfl, rfl, fun a1 => ?_, fun a1 => ?_⟩
  · have a1 : inR q 0 (rE I 29 2 - 1) := a1
    refine x_if_ne (tgt := 11) dR_done_5 (by decide) (fun _ => ?_) (fun h => absurd h (by decide))
    rw [doneS, if_neg (not_not_intro a1)] at h1
    rw [show rE I 29 2 = nI (qN (rE I)) from hok.b.1] at a1
    obtain ⟨i, hi, rfl⟩ := has_nat (by omega) a1
    rw [cl_nI (by omega)] at h1
    refine x_aload_n dR_done_11 rfl ?_
    refine x_aload_n dR_done_12 rfl ?_
    refine x_getI fl_R_158 rfl dR_done_13 rfl rfl ?_
    -- at 16: .invokevirtual 295
    rw [show I 59 17 = nI (sN (rE I)) from hok.c.1]
    refine x_callV_1 cE_R_owesN ok_R_owes ml_R_295 dR_done_16 rfl rfl rfl rfl rfl ?_
    refine ⟨_, rfl, rfl, hok, own.1, own.2.1, fun I' L' hF ho hk => ?_⟩
    refine x_aload_n dR_done_19 rfl ?_
    refine x_iload_n dR_done_20 rfl ?_
    -- at 21: .invokevirtual 304
    refine x_callV_1 c_R_doneOf ok_R_doneOf ml_R_304 dR_done_21 rfl rfl rfl rfl rfl ?_
    refine ⟨i, _, _, _, _, _, rfl, rfl, by omega, hk, ?_⟩
    refine x_ireturn dR_done_24 rfl rfl ?_
    exact h1 ((rSame.refl own).fr (hF.wk (by decide)))
  · have a1 : ¬ inR q 0 (rE I 29 2 - 1) := a1
    refine x_if_ne (tgt := 11) dR_done_5 (by decide) (fun h => absurd (by decide) h) (fun _ => ?_)
    rw [doneS, if_pos a1] at h1
    refine x_bipush (v := -5) dR_done_8 rfl ?_
    -- at 10: .ireturn
    refine x_ireturn dR_done_10 rfl rfl ?_
    exact h1 (rSame.refl own)
def sp_R_sum : SpT := fun as S I L Post => ∃ w : Int32, rSp [.int w] (fun E => .int (sumS E w)) (fun E => E) as S I L Post
set_option maxHeartbeats 4000000 in
set_option maxRecDepth 100000 in
theorem c_R_sum : Con mR_sum 9 0 0 sp_R_sum := by
  refine con_of_X rfl fun G as S I L Post hs => ?_
  obtain ⟨w, rfl, rfl, ⟨hok, own⟩, h1⟩ := hs
  dsimp only at h1
  have h1 := r_end h1
  refine ⟨2, Nat.le_of_ble_eq_true rfl, ?_⟩
  show X mR_sum G _ S1 I L 0 [.ref 59, .int w, .null, .null] [] Post
  have n1 := hok.a.2.1
  have n2 := hok.b.2.1
  refine x_iload_n dR_sum_0 rfl ?_
  refine x_iconst (v := 0) dR_sum_1 rfl ?_
  refine x_iconst (v := 3) dR_sum_2 rfl ?_
  -- at 3: .invokestatic 151
  refine x_callS_3 c_R_in ok_R_in ml_R_151 dR_sum_3 rfl rfl ?_
  refine ⟨_, _, _, rfl, fun a1 => ?_, fun a1 => ?_⟩
  · have a1 : inR w 0 3 := a1
    refine x_if_ne (tgt := 12) dR_sum_6 (by decide) (fun _ => ?_) (fun h => absurd h (by decide))
    rw [sumS, if_neg (not_not_intro a1)] at h1
    refine x_aload_n dR_sum_12 rfl ?_
    refine x_aload_n dR_sum_13 rfl ?_
    refine x_getI fl_R_158 rfl dR_sum_14 rfl rfl ?_
    -- at 17: .invokevirtual 295
    rw [show I 59 17 = nI (sN (rE I)) from hok.c.1]
    refine x_callV_1 cE_R_owesN ok_R_owes ml_R_295 dR_sum_17 rfl rfl rfl rfl rfl ?_
    refine ⟨_, rfl, rfl, hok, own.1, own.2.1, fun I' L' hF ho hk => ?_⟩
    have sm := (rSame.refl own).fr (hF.wk (by decide))
    have hq : I' 59 12 = nI (qN (rE I)) := hk.2.2.2.1
    have hp : I' 59 3 = nI (pN (rE I)) := hk.2.1
    refine x_iconst (v := 0) dR_sum_20 rfl ?_
    refine x_istoren_2 dR_sum_21 rfl rfl ?_
    refine x_iconst (v := 0) dR_sum_22 rfl ?_
    refine x_istoren_3 dR_sum_23 rfl rfl ?_
    -- at 24: .iload_n 3
    have loop : ∀ (k i : Nat) (acc : Int32), i + k = pN (rE I) → acc = fullV (rE I) (TT (rE I) (wN (rE I))) i → X mR_sum G (9, 0, 0) S1 I' L' 24 [.ref 59, .int w, .int acc, .int (nI i)] [] Post := by
      intro k
      induction k with
      | zero =>
        intro i acc hi ha
        refine x_iload_n dR_sum_24 rfl ?_
        refine x_aload_n dR_sum_25 rfl ?_
        refine x_getI fl_R_148 rfl dR_sum_26 rfl rfl ?_
        -- at 29: .if_icmp .ge 33
        rw [hp]
        refine x_icmp_ge (tgt := 62) dR_sum_29 (by decide) (fun _ => ?_) (fun h => absurd (by rw [show i = pN (rE I) by omega]; exact Int32.le_refl _) h)
        refine x_iload_n dR_sum_62 rfl ?_
        -- at 63: .ifCond .ne 10
        refine x_if_ne (tgt := 73) dR_sum_63 (by decide) (fun w0 => ?_) (fun w0 => ?_)
        · refine x_iload_n dR_sum_73 rfl ?_
          refine x_iconst (v := 1) dR_sum_74 rfl ?_
          -- at 75: .if_icmp .ne 10
          refine x_icmp_ne (tgt := 85) dR_sum_75 (by decide) (fun w1 => ?_) (fun w1 => ?_)
          · refine x_iload_n dR_sum_85 rfl ?_
            refine x_iconst (v := 2) dR_sum_86 rfl ?_
            -- at 87: .if_icmp .ne 10
            refine x_icmp_ne (tgt := 97) dR_sum_87 (by decide) (fun w2 => ?_) (fun w2 => ?_)
            · refine x_iload_n dR_sum_97 rfl ?_
              -- at 98: .ireturn
              refine x_ireturn dR_sum_98 rfl rfl ?_
              have w3 : w = 3 := by
                obtain ⟨j, hj, rfl⟩ := inR_of (n := 3) (by decide) a1
                rcases (show j = 0 ∨ j = 1 ∨ j = 2 ∨ j = 3 by omega) with rfl | rfl | rfl | rfl
                · exact absurd rfl w0
                · exact absurd rfl w1
                · exact absurd rfl w2
                · rfl
              rw [if_pos w3] at h1
              rw [ha, show i = pN (rE I) by omega]
              exact h1 sm
            · subst w2
              rw [if_neg (show ¬ (2 : Int32) = 3 by decide), outE, outV, if_neg (show ¬ (2 : Int32) = 0 by decide), if_neg (show ¬ (2 : Int32) = 1 by decide), ← TQ_eq] at h1
              refine x_aload_n dR_sum_90 rfl ?_
              -- at 91: .invokevirtual 316
              refine x_callV_0 c_R_painNow ok_R_painNow ml_R_316 dR_sum_91 rfl rfl rfl rfl rfl ?_
              refine ⟨_, _, _, _, _, rfl, rfl, hk, fun I2 hF2 => ?_⟩
              refine x_goto (tgt := 98) dR_sum_94 (by decide) ?_
              -- at 98: .ireturn
              refine x_ireturn dR_sum_98 rfl rfl ?_
              exact h1 (sm.fr (hF2.wk (by decide)))
          · subst w1
            rw [if_neg (show ¬ (1 : Int32) = 3 by decide), outE, outV, if_neg (show ¬ (1 : Int32) = 0 by decide), if_pos rfl] at h1
            refine x_aload_n dR_sum_78 rfl ?_
            -- at 79: .invokevirtual 313
            refine x_callV_0 c_R_worthNow ok_R_worthNow ml_R_313 dR_sum_79 rfl rfl rfl rfl rfl ?_
            refine ⟨_, _, _, _, _, rfl, rfl, hk, ?_⟩
            refine x_goto (tgt := 98) dR_sum_82 (by decide) ?_
            -- at 98: .ireturn
            refine x_ireturn dR_sum_98 rfl rfl ?_
            exact h1 sm
        · subst w0
          rw [if_neg (show ¬ (0 : Int32) = 3 by decide), outE, outV, if_pos rfl] at h1
          refine x_aload_n dR_sum_66 rfl ?_
          -- at 67: .invokevirtual 310
          refine x_callV_0 c_R_keptNow ok_R_keptNow ml_R_310 dR_sum_67 rfl rfl rfl rfl rfl ?_
          refine ⟨_, _, _, _, _, rfl, rfl, hk, ?_⟩
          refine x_goto (tgt := 98) dR_sum_70 (by decide) ?_
          -- at 98: .ireturn
          refine x_ireturn dR_sum_98 rfl rfl ?_
          exact h1 sm
      | succ k ih =>
        intro i acc hi ha
        refine x_iload_n dR_sum_24 rfl ?_
        refine x_aload_n dR_sum_25 rfl ?_
        refine x_getI fl_R_148 rfl dR_sum_26 rfl rfl ?_
        -- at 29: .if_icmp .ge 33
        rw [hp]
        refine x_icmp_ge (tgt := 62) dR_sum_29 (by decide) (fun h => absurd h (nI_ge (by omega) (by omega))) (fun _ => ?_)
        refine x_iload_n dR_sum_32 rfl ?_
        refine x_aload_n dR_sum_33 rfl ?_
        refine x_iload_n dR_sum_34 rfl ?_
        -- at 35: .invokevirtual 298
        refine x_callV_1 c_R_owedBy ok_R_owedBy ml_R_298 dR_sum_35 rfl rfl rfl rfl rfl ?_
        refine ⟨i, _, _, _, rfl, rfl, (by omega : i < pN (rE I)), n1, hq, n2, ho.1, ?_⟩
        refine x_eqi (y := TT (rE I) (wN (rE I)) i) (congrFun (TQ_eq (rE I)) i) ?_
        refine x_aload_n dR_sum_38 rfl ?_
        refine x_getR fl_R_38 rfl dR_sum_39 rfl rfl rfl ?_
        refine x_iload_n dR_sum_42 rfl ?_
        refine x_ialdJ (j := i) dR_sum_43 rfl rfl (by first | rfl | (simp only [← nI_add, ← pk_mul]; rfl)) (by omega) ?_
        -- at 44: .if_icmp .ne 9
        rw [show I' 68 = rE I 8 from hF 68 (by decide)]
        refine x_icmp_ne (tgt := 53) dR_sum_44 (by decide) (fun c1 => ?_) (fun c1 => ?_)
        · refine x_iconst (v := 0) dR_sum_53 rfl ?_
          refine x_ior dR_sum_54 ?_
          -- at 55: .istore_n 2
          refine x_eqi (y := acc) (by simp) ?_
          refine x_istoren_2 dR_sum_55 rfl rfl ?_
          refine x_iincp_3 dR_sum_56 rfl rfl ?_
          refine x_goto (tgt := 24) dR_sum_59 (by decide) ?_
          -- at 24: .iload_n 3
          rw [nI_1]
          refine ih (i + 1) _ (by omega) ?_
          unfold fullV at ha ⊢
          rw [bs, if_neg (fun z => c1 (of_decide_eq_true z)), ha]
        · refine x_iconst (v := 1) dR_sum_47 rfl ?_
          refine x_iload_n dR_sum_48 rfl ?_
          refine x_ishl dR_sum_49 ?_
          refine x_goto (tgt := 54) dR_sum_50 (by decide) ?_
          refine x_ior dR_sum_54 ?_
          refine x_istoren_2 dR_sum_55 rfl rfl ?_
          refine x_iincp_3 dR_sum_56 rfl rfl ?_
          refine x_goto (tgt := 24) dR_sum_59 (by decide) ?_
          -- at 24: .iload_n 3
          rw [nI_1]
          refine ih (i + 1) _ (by omega) ?_
          unfold fullV at ha ⊢
          rw [bs, if_pos (decide_eq_true c1), ha]
          rfl
    exact loop _ 0 0 (Nat.zero_add _) rfl
  · have a1 : ¬ inR w 0 3 := a1
    refine x_if_ne (tgt := 12) dR_sum_6 (by decide) (fun h => absurd (by decide) h) (fun _ => ?_)
    rw [sumS, if_pos a1] at h1
    refine x_bipush (v := -2) dR_sum_9 rfl ?_
    -- at 11: .ireturn
    refine x_ireturn dR_sum_11 rfl rfl ?_
    exact h1 (rSame.refl own)
