/-! the class's calls: leastOf, mostOf, flee, send -/
theorem VEq.mv {V E : IM} {n m : Nat} (h : VEq V E n m) (p : Nat) (u : Int32) : VEq (mvV V p u) (mvV E p u) n m := by
  obtain ⟨h1, h2, h3⟩ := h
  unfold mvV
  refine ⟨fun a ha h9 => ?_, fun x hx => ?_, fun s hs => ?_⟩
  · rw [up2_n _ _ _ h9, up2_n _ _ _ h9]
    exact h1 a ha h9
  · rw [up2_s, up2_s]
    unfold up1
    by_cases e : x = p
    · simp [e]
    · simp [e, h2 x hx]
  · simp only [up2_n, up2_s, ne_eq, Nat.reduceEqDiff, not_false_eq_true]
    exact h3 s hs
theorem tot1_eq {V E : IM} {n m : Nat} (h : VEq V E n m) {D D' : Nat → Int32} {nq : Nat} {w : Int32} {p : Nat} (hD : ∀ s, s < m → D s = D' s) : tot1 V D nq w m p = tot1 E D' nq w m p := by
  unfold tot1 fin1
  rw [maxR_eq h (D' := D') m (Nat.le_refl _) hD, strR_eq h, h.1 8 (by omega) (by omega)]
theorem totU_eq {V E : IM} {n m : Nat} (h : VEq V E n m) (P : Nat → List Int32) (nq p : Nat) (u : Int32) : totU V P n nq m p u = totU E P n nq m p u :=
  tot1_eq (h.mv p u) (fun s hs => by unfold DD; rw [share_eq (h.mv p u) _ hs, CC_eq (h.mv p u) _ hs])
def totE (E : IM) (p u : Nat) : Int32 := totU E (PE E) (pN E) (qN E) (sN E) p (nI u)
def spE_tryPlaces : SpT := fun as S I L Post => ∃ (p : Nat) (I0 : IM), as = [.ref 35, .int (nI p)] ∧ S = S1 ∧ cOk I0 ∧ p < pN (cE I0) ∧ Fr kScr I0 I ∧ I 35 5 = nI (wN (cE I0)) ∧ Hrd (cV I0) (PE (cE I0)) (pN (cE I0)) (sN (cE I0)) I ∧
  ∀ I' : IM, Fr (44 :: kScr) I0 I' → (∀ u, u < 6 → I' 44 u = totE (cE I0) p u) → Post none S1 I' L
theorem cE_tryPlaces : Con mLedger_tryPlaces 6 0 0 spE_tryPlaces := c_Ledger_tryPlaces.imp fun as S I L Post hs => by
  obtain ⟨p, I0, rfl, rfl, hok, hp, hF, hl, hh, h1⟩ := hs
  obtain ⟨b1, b2, b3⟩ := hok.say
  obtain ⟨c1, c2, c3⟩ := hok.ppl
  obtain ⟨-, l2⟩ := hok.law
  refine ⟨p, wN (cE I0), sN (cE I0), pN (cE I0), qN (cE I0), PE (cE I0), rfl, rfl, by rw [hF 18 (by decide)]; exact b1, b2, hp, fun s hs => ?_, ⟨by rw [hF 4 (by decide)]; exact c1, c2, fun x hx => ?_⟩, hl, (hok.txt l2).fr (hF _ (by decide)) (hF _ (by decide)), (hok.vow).fr (hF _ (by decide)) (hF _ (by decide)), ?_, fun I' hF2 ht => ?_⟩
  · rw [cV_k hF]
    exact b3 s hs
  · rw [cV_k hF]
    exact c3 x hx
  · rw [cV_k hF]
    exact hh
  · refine h1 I' ((hF.wk (by decide)).tr (hF2.wk (by decide))) fun u hu => ?_
    rw [ht u hu, cV_k hF]
    exact totU_eq (cVE I0) _ _ _ _
def leR (f : Nat → Int32) (k : Nat) : Nat := match k with
  | 0 => 0
  | j + 1 => if f (j + 1) < f (leR f j) then j + 1 else leR f j
def moR (f : Nat → Int32) (k : Nat) : Nat := match k with
  | 0 => 0
  | j + 1 => if f (moR f j) < f (j + 1) then j + 1 else moR f j
theorem leR_le (f : Nat → Int32) : ∀ k, leR f k ≤ k := by
  intro k
  induction k with
  | zero => exact Nat.le_refl _
  | succ j ih =>
    rw [leR]
    split <;> omega
theorem moR_le (f : Nat → Int32) : ∀ k, moR f k ≤ k := by
  intro k
  induction k with
  | zero => exact Nat.le_refl _
  | succ j ih =>
    rw [moR]
    split <;> omega
theorem leR_congr {f g : Nat → Int32} : ∀ k, (∀ u, u ≤ k → f u = g u) → leR f k = leR g k := by
  intro k
  induction k with
  | zero => intro _; rfl
  | succ j ih =>
    intro h
    rw [leR, leR, ih (fun u hu => h u (by omega)), h (j + 1) (Nat.le_refl _), h (leR g j) (Nat.le_succ_of_le (leR_le g j))]
theorem moR_congr {f g : Nat → Int32} : ∀ k, (∀ u, u ≤ k → f u = g u) → moR f k = moR g k := by
  intro k
  induction k with
  | zero => intro _; rfl
  | succ j ih =>
    intro h
    rw [moR, moR, ih (fun u hu => h u (by omega)), h (j + 1) (Nat.le_refl _), h (moR g j) (Nat.le_succ_of_le (moR_le g j))]
def sp_W_leastOf : SpT := fun as S I L Post => as = [.ref 44] ∧ S = S1 ∧ Post (some (.int (nI (leR (I 44) 5)))) S1 I L
set_option maxHeartbeats 4000000 in
set_option maxRecDepth 100000 in
theorem c_W_leastOf : Con mW_leastOf 2 0 0 sp_W_leastOf := by
  refine con_of_X rfl fun G as S I L Post hs => ?_
  obtain ⟨rfl, rfl, h1⟩ := hs
  refine ⟨2, Nat.le_of_ble_eq_true rfl, ?_⟩
  show X mW_leastOf G _ S1 I L 0 [.ref 44, .null, .null] [] Post
  refine x_iconst (v := 0) dW_leastOf_0 rfl ?_
  refine x_istoren_1 dW_leastOf_1 rfl rfl ?_
  refine x_iconst (v := 1) dW_leastOf_2 rfl ?_
  refine x_istoren_2 dW_leastOf_3 rfl rfl ?_
  -- at 4: .iload_n 2
  have loop : ∀ (k i : Nat), i + k = 5 → X mW_leastOf G (2, 0, 0) S1 I L 4 [.ref 44, .int (nI (leR (I 44) i)), .int (nI (i + 1))] [] Post := by
    intro k
    induction k with
    | zero =>
      intro i hi
      obtain rfl : i = 5 := by omega
      refine x_iload_n dW_leastOf_4 rfl ?_
      refine x_aload_n dW_leastOf_5 rfl ?_
      refine x_alen dW_leastOf_6 rfl rfl rfl ?_
      -- at 7: .if_icmp .ge 20
      refine x_icmp_ge (tgt := 27) dW_leastOf_7 (by decide) (fun _ => ?_) (fun h => absurd (show (6 : Int32) ≤ nI 6 from Int32.le_refl _) h)
      refine x_iload_n dW_leastOf_27 rfl ?_
      -- at 28: .ireturn
      refine x_ireturn dW_leastOf_28 rfl rfl ?_
      exact h1
    | succ k ih =>
      intro i hi
      have hle := leR_le (I 44) i
      refine x_iload_n dW_leastOf_4 rfl ?_
      refine x_aload_n dW_leastOf_5 rfl ?_
      refine x_alen dW_leastOf_6 rfl rfl rfl ?_
      -- at 7: .if_icmp .ge 20
      refine x_icmp_ge (tgt := 27) dW_leastOf_7 (by decide) (fun h => absurd h (nI_ge (b := 6) (by omega) (by omega))) (fun _ => ?_)
      refine x_aload_n dW_leastOf_10 rfl ?_
      refine x_iload_n dW_leastOf_11 rfl ?_
      refine x_ialdJ (j := i + 1) dW_leastOf_12 rfl rfl (by first | rfl | (simp only [← nI_add, ← pk_mul]; rfl)) (by omega) ?_
      refine x_aload_n dW_leastOf_13 rfl ?_
      refine x_iload_n dW_leastOf_14 rfl ?_
      refine x_ialdJ (j := leR (I 44) i) dW_leastOf_15 rfl rfl (by first | rfl | (simp only [← nI_add, ← pk_mul]; rfl)) (by omega) ?_
      -- at 16: .if_icmp .ge 5
      refine x_icmp_ge (tgt := 21) dW_leastOf_16 (by decide) (fun c1 => ?_) (fun c1 => ?_)
      · refine x_iincp_2 dW_leastOf_21 rfl rfl ?_
        refine x_goto (tgt := 4) dW_leastOf_24 (by decide) ?_
        -- at 4: .iload_n 2
        rw [nI_1]
        have h3 := ih (i + 1) (by omega)
        rw [leR, if_neg (Int32.not_lt.mpr c1)] at h3
        exact h3
      · refine x_iload_n dW_leastOf_19 rfl ?_
        refine x_istoren_1 dW_leastOf_20 rfl rfl ?_
        refine x_iincp_2 dW_leastOf_21 rfl rfl ?_
        refine x_goto (tgt := 4) dW_leastOf_24 (by decide) ?_
        -- at 4: .iload_n 2
        rw [nI_1]
        have h3 := ih (i + 1) (by omega)
        rw [leR, if_pos (Int32.not_le.mp c1)] at h3
        exact h3
  exact loop 5 0 (by omega)
def sp_W_mostOf : SpT := fun as S I L Post => as = [.ref 44] ∧ S = S1 ∧ Post (some (.int (nI (moR (I 44) 5)))) S1 I L
set_option maxHeartbeats 4000000 in
set_option maxRecDepth 100000 in
theorem c_W_mostOf : Con mW_mostOf 2 0 0 sp_W_mostOf := by
  refine con_of_X rfl fun G as S I L Post hs => ?_
  obtain ⟨rfl, rfl, h1⟩ := hs
  refine ⟨2, Nat.le_of_ble_eq_true rfl, ?_⟩
  show X mW_mostOf G _ S1 I L 0 [.ref 44, .null, .null] [] Post
  refine x_iconst (v := 0) dW_mostOf_0 rfl ?_
  refine x_istoren_1 dW_mostOf_1 rfl rfl ?_
  refine x_iconst (v := 1) dW_mostOf_2 rfl ?_
  refine x_istoren_2 dW_mostOf_3 rfl rfl ?_
  -- at 4: .iload_n 2
  have loop : ∀ (k i : Nat), i + k = 5 → X mW_mostOf G (2, 0, 0) S1 I L 4 [.ref 44, .int (nI (moR (I 44) i)), .int (nI (i + 1))] [] Post := by
    intro k
    induction k with
    | zero =>
      intro i hi
      obtain rfl : i = 5 := by omega
      refine x_iload_n dW_mostOf_4 rfl ?_
      refine x_aload_n dW_mostOf_5 rfl ?_
      refine x_alen dW_mostOf_6 rfl rfl rfl ?_
      -- at 7: .if_icmp .ge 20
      refine x_icmp_ge (tgt := 27) dW_mostOf_7 (by decide) (fun _ => ?_) (fun h => absurd (show (6 : Int32) ≤ nI 6 from Int32.le_refl _) h)
      refine x_iload_n dW_mostOf_27 rfl ?_
      -- at 28: .ireturn
      refine x_ireturn dW_mostOf_28 rfl rfl ?_
      exact h1
    | succ k ih =>
      intro i hi
      have hle := moR_le (I 44) i
      refine x_iload_n dW_mostOf_4 rfl ?_
      refine x_aload_n dW_mostOf_5 rfl ?_
      refine x_alen dW_mostOf_6 rfl rfl rfl ?_
      -- at 7: .if_icmp .ge 20
      refine x_icmp_ge (tgt := 27) dW_mostOf_7 (by decide) (fun h => absurd h (nI_ge (b := 6) (by omega) (by omega))) (fun _ => ?_)
      refine x_aload_n dW_mostOf_10 rfl ?_
      refine x_iload_n dW_mostOf_11 rfl ?_
      refine x_ialdJ (j := i + 1) dW_mostOf_12 rfl rfl (by first | rfl | (simp only [← nI_add, ← pk_mul]; rfl)) (by omega) ?_
      refine x_aload_n dW_mostOf_13 rfl ?_
      refine x_iload_n dW_mostOf_14 rfl ?_
      refine x_ialdJ (j := moR (I 44) i) dW_mostOf_15 rfl rfl (by first | rfl | (simp only [← nI_add, ← pk_mul]; rfl)) (by omega) ?_
      -- at 16: .if_icmp .le 5
      refine x_icmp_le (tgt := 21) dW_mostOf_16 (by decide) (fun c1 => ?_) (fun c1 => ?_)
      · refine x_iincp_2 dW_mostOf_21 rfl rfl ?_
        refine x_goto (tgt := 4) dW_mostOf_24 (by decide) ?_
        -- at 4: .iload_n 2
        rw [nI_1]
        have h3 := ih (i + 1) (by omega)
        rw [moR, if_neg (Int32.not_lt.mpr c1)] at h3
        exact h3
      · refine x_iload_n dW_mostOf_19 rfl ?_
        refine x_istoren_1 dW_mostOf_20 rfl rfl ?_
        refine x_iincp_2 dW_mostOf_21 rfl rfl ?_
        refine x_goto (tgt := 4) dW_mostOf_24 (by decide) ?_
        -- at 4: .iload_n 2
        rw [nI_1]
        have h3 := ih (i + 1) (by omega)
        rw [moR, if_pos (Int32.not_le.mp c1)] at h3
        exact h3
  exact loop 5 0 (by omega)
theorem cE_b {I I' : IM} (hF : Fr (44 :: kScr) I I') : cE I' = cE I := cE_fr (hF.wk (by decide))
theorem bstay {I I' : IM} (hF : Fr (44 :: kScr) I I') : ∀ k, 59 ≤ k → I' k = I k := fun k hk => hF k (by simp; omega)
