/-! the class's calls: leastOf, mostOf, flee, send -/
theorem VEq.mv {V E : IM} {n m : Nat} (h : VEq V E n m) (p : Nat) (u : Int32) : VEq (mvV V p u) (mvV E p u) n m := by
  obtain ⟨h1, h2, h3⟩ := h
  unfold mvV
  refine ⟨fun a ha h9 => ?_, fun x hx => ?_, fun s hs => ?_⟩
  · rw [up2_n _ _ _ h9, up2_n _ _ _ h9]
    exact h1 a ha h9
  · rw [up2_s, up2_s]
    unfold up1
    by_cases e : x = p
    · simp [e]
    · simp [e, h2 x hx]
  · simp only [up2_n, up2_s, ne_eq, Nat.reduceEqDiff, not_false_eq_true]
    exact h3 s hs
theorem tot1_eq {V E : IM} {n m : Nat} (h : VEq V E n m) {D D' : Nat → Int32} {nq : Nat} {w : Int32} {p : Nat} (hD : ∀ s, s < m → D s = D' s) : tot1 V D nq w m p = tot1 E D' nq w m p := by
  unfold tot1 fin1
  rw [maxR_eq h (D' := D') m (Nat.le_refl _) hD, strR_eq h, h.1 8 (by omega) (by omega)]
theorem totU_eq {V E : IM} {n m : Nat} (h : VEq V E n m) (P : Nat → List Int32) (nq p : Nat) (u : Int32) : totU V P n nq m p u = totU E P n nq m p u :=
  tot1_eq (h.mv p u) (fun s hs => by unfold DD; rw [share_eq (h.mv p u) _ hs, CC_eq (h.mv p u) _ hs])
def totE (E : IM) (p u : Nat) : Int32 := totU E (PE E) (pN E) (qN E) (sN E) p (nI u)
def spE_tryPlaces : SpT := fun as S I L Post => ∃ (p : Nat) (I0 : IM), as = [.ref 35, .int (nI p)] ∧ S = S1 ∧ cOk I0 ∧ p < pN (cE I0) ∧ Fr kScr I0 I ∧ I 35 5 = nI (wN (cE I0)) ∧ Hrd (cV I0) (PE (cE I0)) (pN (cE I0)) (sN (cE I0)) I ∧
  ∀ I' : IM, Fr (44 :: kScr) I0 I' → (∀ u, u < 6 → I' 44 u = totE (cE I0) p u) → Post none S1 I' L
theorem cE_tryPlaces : Con mLedger_tryPlaces 6 0 0 spE_tryPlaces := c_Ledger_tryPlaces.imp fun as S I L Post hs => by
  obtain ⟨p, I0, rfl, rfl, hok, hp, hF, hl, hh, h1⟩ := hs
  obtain ⟨b1, b2, b3⟩ := hok.say
  obtain ⟨c1, c2, c3⟩ := hok.ppl
  obtain ⟨-, l2⟩ := hok.law
  refine ⟨p, wN (cE I0), sN (cE I0), pN (cE I0), qN (cE I0), PE (cE I0), rfl, rfl, by rw [hF 18 (by decide)]; exact b1, b2, hp, fun s hs => ?_, ⟨by rw [hF 4 (by decide)]; exact c1, c2, fun x hx => ?_⟩, hl, (hok.txt l2).fr (hF _ (by decide)) (hF _ (by decide)), (hok.vow).fr (hF _ (by decide)) (hF _ (by decide)), ?_, fun I' hF2 ht => ?_⟩
  · rw [cV_k hF]
    exact b3 s hs
  · rw [cV_k hF]
    exact c3 x hx
  · rw [cV_k hF]
    exact hh
  · refine h1 I' ((hF.wk (by decide)).tr (hF2.wk (by decide))) fun u hu => ?_
    rw [ht u hu, cV_k hF]
    exact totU_eq (cVE I0) _ _ _ _
def leR (f : Nat → Int32) (k : Nat) : Nat := match k with
  | 0 => 0
  | j + 1 => if f (j + 1) < f (leR f j) then j + 1 else leR f j
def moR (f : Nat → Int32) (k : Nat) : Nat := match k with
  | 0 => 0
  | j + 1 => if f (moR f j) < f (j + 1) then j + 1 else moR f j
theorem leR_le (f : Nat → Int32) : ∀ k, leR f k ≤ k := by
  intro k
  induction k with
  | zero => exact Nat.le_refl _
  | succ j ih =>
    rw [leR]
    split <;> omega
theorem moR_le (f : Nat → Int32) : ∀ k, moR f k ≤ k := by
  intro k
  induction k with
  | zero => exact Nat.le_refl _
  | succ j ih =>
    rw [moR]
    split <;> omega
theorem leR_congr {f g : Nat → Int32} : ∀ k, (∀ u, u ≤ k → f u = g u) → leR f k = leR g k := by
  intro k
  induction k with
  | zero => intro _; rfl
  | succ j ih =>
    intro h
    rw [leR, leR, ih (fun u hu => h u (by omega)), h (j + 1) (Nat.le_refl _), h (leR g j) (Nat.le_succ_of_le (leR_le g j))]
theorem moR_congr {f g : Nat → Int32} : ∀ k, (∀ u, u ≤ k → f u = g u) → moR f k = moR g k := by
  intro k
  induction k with
  | zero => intro _; rfl
  | succ j ih =>
    intro h
    rw [moR, moR, ih (fun u hu => h u (by omega)), h (j + 1) (Nat.le_refl _), h (moR g j) (Nat.le_succ_of_le (moR_le g j))]
def sp_W_leastOf : SpT := fun as S I L Post => as = [.ref 44] ∧ S = S1 ∧ Post (some (.int (nI (leR (I 44) 5)))) S1 I L
set_option maxHeartbeats 4000000 in
set_option maxRecDepth 100000 in
theorem c_W_leastOf : Con mW_leastOf 2 0 0 sp_W_leastOf := by
  refine con_of_X rfl fun G as S I L Post hs => ?_
  obtain ⟨rfl, rfl, h1⟩ := hs
  refine ⟨2, Nat.le_of_ble_eq_true rfl, ?_⟩
  show X mW_leastOf G _ S1 I L 0 [.ref 44, .null, .null] [] Post
  refine x_iconst (v := 0) dW_leastOf_0 rfl ?_
  refine x_istoren_1 dW_leastOf_1 rfl rfl ?_
  refine x_iconst (v := 1) dW_leastOf_2 rfl ?_
  refine x_istoren_2 dW_leastOf_3 rfl rfl ?_
  -- at 4: .iload_n 2
  have loop : ∀ (k i : Nat), i + k = 5 → X mW_leastOf G (2, 0, 0) S1 I L 4 [.ref 44, .int (nI (leR (I 44) i)), .int (nI (i + 1))] [] Post := by
    intro k
    induction k with
    | zero =>
      intro i hi
      obtain rfl : i = 5 := by omega
      refine x_iload_n dW_leastOf_4 rfl ?_
      refine x_aload_n dW_leastOf_5 rfl ?_
      refine x_alen dW_leastOf_6 rfl rfl rfl ?_
      -- at 7: .if_icmp .ge 20
      refine x_icmp_ge (tgt := 27) dW_leastOf_7 (by decide) (fun _ => ?_) (fun h => absurd (show (6 : Int32) ≤ nI 6 from Int32.le_refl _) h)
      refine x_iload_n dW_leastOf_27 rfl ?_
      -- at 28: .ireturn
      refine x_ireturn dW_leastOf_28 rfl rfl ?_
      exact h1
    | succ k ih =>
      intro i hi
      have hle := leR_le (I 44) i
      refine x_iload_n dW_leastOf_4 rfl ?_
      refine x_aload_n dW_leastOf_5 rfl ?_
      refine x_alen dW_leastOf_6 rfl rfl rfl ?_
      -- at 7: .if_icmp .ge 20
      refine x_icmp_ge (tgt := 27) dW_leastOf_7 (by decide) (fun h => absurd h (nI_ge (b := 6) (by omega) (by omega))) (fun _ => ?_)
      refine x_aload_n dW_leastOf_10 rfl ?_
      refine x_iload_n dW_leastOf_11 rfl ?_
      refine x_ialdJ (j := i + 1) dW_leastOf_12 rfl rfl (by first | rfl | (simp only [← nI_add, ← pk_mul]; rfl)) (by omega) ?_
      refine x_aload_n dW_leastOf_13 rfl ?_
      refine x_iload_n dW_leastOf_14 rfl ?_
      refine x_ialdJ (j := leR (I 44) i) dW_leastOf_15 rfl rfl (by first | rfl | (simp only [← nI_add, ← pk_mul]; rfl)) (by omega) ?_
      -- at 16: .if_icmp .ge 5
      refine x_icmp_ge (tgt := 21) dW_leastOf_16 (by decide) (fun c1 => ?_) (fun c1 => ?_)
      · refine x_iincp_2 dW_leastOf_21 rfl rfl ?_
        refine x_goto (tgt := 4) dW_leastOf_24 (by decide) ?_
        -- at 4: .iload_n 2
        rw [nI_1]
        have h3 := ih (i + 1) (by omega)
        rw [leR, if_neg (Int32.not_lt.mpr c1)] at h3
        exact h3
      · refine x_iload_n dW_leastOf_19 rfl ?_
        refine x_istoren_1 dW_leastOf_20 rfl rfl ?_
        refine x_iincp_2 dW_leastOf_21 rfl rfl ?_
        refine x_goto (tgt := 4) dW_leastOf_24 (by decide) ?_
        -- at 4: .iload_n 2
        rw [nI_1]
        have h3 := ih (i + 1) (by omega)
        rw [leR, if_pos (Int32.not_le.mp c1)] at h3
        exact h3
  exact loop 5 0 (by omega)
def sp_W_mostOf : SpT := fun as S I L Post => as = [.ref 44] ∧ S = S1 ∧ Post (some (.int (nI (moR (I 44) 5)))) S1 I L
set_option maxHeartbeats 4000000 in
set_option maxRecDepth 100000 in
theorem c_W_mostOf : Con mW_mostOf 2 0 0 sp_W_mostOf := by
  refine con_of_X rfl fun G as S I L Post hs => ?_
  obtain ⟨rfl, rfl, h1⟩ := hs
  refine ⟨2, Nat.le_of_ble_eq_true rfl, ?_⟩
  show X mW_mostOf G _ S1 I L 0 [.ref 44, .null, .null] [] Post
  refine x_iconst (v := 0) dW_mostOf_0 rfl ?_
  refine x_istoren_1 dW_mostOf_1 rfl rfl ?_
  refine x_iconst (v := 1) dW_mostOf_2 rfl ?_
  refine x_istoren_2 dW_mostOf_3 rfl rfl ?_
  -- at 4: .iload_n 2
  have loop : ∀ (k i : Nat), i + k = 5 → X mW_mostOf G (2, 0, 0) S1 I L 4 [.ref 44, .int (nI (moR (I 44) i)), .int (nI (i + 1))] [] Post := by
    intro k
    induction k with
    | zero =>
      intro i hi
      obtain rfl : i = 5 := by omega
      refine x_iload_n dW_mostOf_4 rfl ?_
      refine x_aload_n dW_mostOf_5 rfl ?_
      refine x_alen dW_mostOf_6 rfl rfl rfl ?_
      -- at 7: .if_icmp .ge 20
      refine x_icmp_ge (tgt := 27) dW_mostOf_7 (by decide) (fun _ => ?_) (fun h => absurd (show (6 : Int32) ≤ nI 6 from Int32.le_refl _) h)
      refine x_iload_n dW_mostOf_27 rfl ?_
      -- at 28: .ireturn
      refine x_ireturn dW_mostOf_28 rfl rfl ?_
      exact h1
    | succ k ih =>
      intro i hi
      have hle := moR_le (I 44) i
      refine x_iload_n dW_mostOf_4 rfl ?_
      refine x_aload_n dW_mostOf_5 rfl ?_
      refine x_alen dW_mostOf_6 rfl rfl rfl ?_
      -- at 7: .if_icmp .ge 20
      refine x_icmp_ge (tgt := 27) dW_mostOf_7 (by decide) (fun h => absurd h (nI_ge (b := 6) (by omega) (by omega))) (fun _ => ?_)
      refine x_aload_n dW_mostOf_10 rfl ?_
      refine x_iload_n dW_mostOf_11 rfl ?_
      refine x_ialdJ (j := i + 1) dW_mostOf_12 rfl rfl (by first | rfl | (simp only [← nI_add, ← pk_mul]; rfl)) (by omega) ?_
      refine x_aload_n dW_mostOf_13 rfl ?_
      refine x_iload_n dW_mostOf_14 rfl ?_
      refine x_ialdJ (j := moR (I 44) i) dW_mostOf_15 rfl rfl (by first | rfl | (simp only [← nI_add, ← pk_mul]; rfl)) (by omega) ?_
      -- at 16: .if_icmp .le 5
      refine x_icmp_le (tgt := 21) dW_mostOf_16 (by decide) (fun c1 => ?_) (fun c1 => ?_)
      · refine x_iincp_2 dW_mostOf_21 rfl rfl ?_
        refine x_goto (tgt := 4) dW_mostOf_24 (by decide) ?_
        -- at 4: .iload_n 2
        rw [nI_1]
        have h3 := ih (i + 1) (by omega)
        rw [moR, if_neg (Int32.not_lt.mpr c1)] at h3
        exact h3
      · refine x_iload_n dW_mostOf_19 rfl ?_
        refine x_istoren_1 dW_mostOf_20 rfl rfl ?_
        refine x_iincp_2 dW_mostOf_21 rfl rfl ?_
        refine x_goto (tgt := 4) dW_mostOf_24 (by decide) ?_
        -- at 4: .iload_n 2
        rw [nI_1]
        have h3 := ih (i + 1) (by omega)
        rw [moR, if_pos (Int32.not_le.mp c1)] at h3
        exact h3
  exact loop 5 0 (by omega)
theorem cE_b {I I' : IM} (hF : Fr (44 :: kScr) I I') : cE I' = cE I := cE_fr (hF.wk (by decide))
theorem bstay {I I' : IM} (hF : Fr (44 :: kScr) I I') : ∀ k, 59 ≤ k → I' k = I k := fun k hk => hF k (by simp; omega)
def fleeS (E : IM) (p w : Int32) : Int32 := if ¬ inR p 0 (E 29 1 - 1) then -5 else if ¬ inR w 0 1 then -7 else if w = 0 then nI (leR (totE E (cl p)) 5) else totE E (cl p) (leR (totE E (cl p)) 5)
def sp_W_flee : SpT := fun as S I L Post => ∃ p w : Int32, cSp [.int p, .int w] (fun E => .int (fleeS E p w)) (fun E => E) as S I L Post
set_option maxHeartbeats 4000000 in
set_option maxRecDepth 100000 in
theorem c_W_flee : Con mW_flee 7 0 0 sp_W_flee := by
  refine con_of_X rfl fun G as S I L Post hs => ?_
  obtain ⟨p, w, rfl, rfl, hok, h1⟩ := hs
  dsimp only at h1
  refine ⟨1, Nat.le_of_ble_eq_true rfl, ?_⟩
  show X mW_flee G _ S1 I L 0 [.ref 0, .int p, .int w, .null] [] Post
  obtain ⟨c1, c2, -⟩ := hok.ppl
  obtain ⟨l1, l2⟩ := hok.law
  refine x_aload_n dW_flee_0 rfl ?_
  refine x_getR fl_W_19 rfl dW_flee_1 rfl rfl rfl ?_
  refine x_iload_n dW_flee_4 rfl ?_
  -- at 5: .invokevirtual 143
  refine x_callV_1 c_Folk_has ok_Folk_has ml_W_143 dW_flee_5 rfl rfl rfl rfl rfl ?_
  refine ⟨_, rfl, rfl, fun a1 => ?_, fun a1 => ?_⟩
  · have a1 : inR p 0 (cE I 29 1 - 1) := a1
    refine x_if_ne (tgt := 14) dW_flee_8 (by decide) (fun _ => ?_) (fun h => absurd h (by decide))
    rw [fleeS, if_neg (not_not_intro a1)] at h1
    rw [show cE I 29 1 = nI (pN (cE I)) from c1] at a1
    obtain ⟨i, hi, rfl⟩ := has_nat (by omega) a1
    rw [cl_nI (by omega)] at h1
    refine x_iload_n dW_flee_14 rfl ?_
    refine x_iconst (v := 0) dW_flee_15 rfl ?_
    refine x_iconst (v := 1) dW_flee_16 rfl ?_
    -- at 17: .invokestatic 101
    refine x_callS_3 c_W_within ok_W_within ml_W_101 dW_flee_17 rfl rfl ?_
    refine ⟨_, _, _, rfl, fun a2 => ?_, fun a2 => ?_⟩
    · have a2 : inR w 0 1 := a2
      refine x_if_ne (tgt := 26) dW_flee_20 (by decide) (fun _ => ?_) (fun h => absurd h (by decide))
      rw [if_neg (not_not_intro a2)] at h1
      refine x_aload_n dW_flee_26 rfl ?_
      refine x_getR fl_W_56 rfl dW_flee_27 rfl rfl rfl ?_
      refine x_aload_n dW_flee_30 rfl ?_
      refine x_getR fl_W_47 rfl dW_flee_31 rfl rfl rfl ?_
      refine x_getI fl_W_127 rfl dW_flee_34 rfl rfl ?_
      -- at 37: .invokevirtual 205
      rw [l1]
      refine x_callV_1 cE_listen ok_Ledger_listen ml_W_205 dW_flee_37 rfl rfl rfl rfl rfl ?_
      refine ⟨_, rfl, rfl, hok, l2, fun I1 hF1 hl hh _ => ?_⟩
      refine x_aload_n dW_flee_40 rfl ?_
      refine x_getR fl_W_56 rfl dW_flee_41 rfl rfl rfl ?_
      refine x_iload_n dW_flee_44 rfl ?_
      -- at 45: .invokevirtual 271
      refine x_callV_1 cE_tryPlaces ok_Ledger_tryPlaces ml_W_271 dW_flee_45 rfl rfl rfl rfl rfl ?_
      refine ⟨i, I, rfl, rfl, hok, hi, hF1, hl, hh, fun I2 hF2 ht => ?_⟩
      have hle := leR_le (totE (cE I) i) 5
      refine x_aload_n dW_flee_48 rfl ?_
      refine x_getR fl_W_56 rfl dW_flee_49 rfl rfl rfl ?_
      refine x_getR fl_W_274 rfl dW_flee_52 rfl rfl rfl ?_
      -- at 55: .invokestatic 277
      refine x_callS_1 c_W_leastOf ok_W_leastOf ml_W_277 dW_flee_55 rfl rfl ?_
      refine ⟨rfl, rfl, ?_⟩
      rw [leR_congr (g := totE (cE I) i) 5 (fun u hu => ht u (by omega))]
      refine x_istoren_3 dW_flee_58 rfl rfl ?_
      refine x_iload_n dW_flee_59 rfl ?_
      -- at 60: .ifCond .ne 7
      refine x_if_ne (tgt := 67) dW_flee_60 (by decide) (fun d1 => ?_) (fun d1 => ?_)
      · rw [if_neg d1] at h1
        refine x_aload_n dW_flee_67 rfl ?_
        refine x_getR fl_W_56 rfl dW_flee_68 rfl rfl rfl ?_
        refine x_getR fl_W_274 rfl dW_flee_71 rfl rfl rfl ?_
        refine x_iload_n dW_flee_74 rfl ?_
        refine x_ialdJ (j := leR (totE (cE I) i) 5) dW_flee_75 rfl rfl (by first | rfl | (simp only [← nI_add, ← pk_mul]; rfl)) (by omega) ?_
        -- at 76: .ireturn
        rw [ht _ (by omega)]
        refine x_ireturn dW_flee_76 rfl rfl ?_
        exact h1 I2 (bstay hF2) (cE_b hF2)
      · rw [if_pos d1] at h1
        refine x_iload_n dW_flee_63 rfl ?_
        refine x_goto (tgt := 76) dW_flee_64 (by decide) ?_
        -- at 76: .ireturn
        refine x_ireturn dW_flee_76 rfl rfl ?_
        exact h1 I2 (bstay hF2) (cE_b hF2)
    · have a2 : ¬ inR w 0 1 := a2
      refine x_if_ne (tgt := 26) dW_flee_20 (by decide) (fun h => absurd (by decide) h) (fun _ => ?_)
      rw [if_pos a2] at h1
      refine x_bipush (v := -7) dW_flee_23 rfl ?_
      -- at 25: .ireturn
      refine x_ireturn dW_flee_25 rfl rfl ?_
      exact h1 I (fun _ _ => rfl) rfl
  · have a1 : ¬ inR p 0 (cE I 29 1 - 1) := a1
    refine x_if_ne (tgt := 14) dW_flee_8 (by decide) (fun h => absurd (by decide) h) (fun _ => ?_)
    rw [fleeS, if_pos a1] at h1
    refine x_bipush (v := -5) dW_flee_11 rfl ?_
    -- at 13: .ireturn
    refine x_ireturn dW_flee_13 rfl rfl ?_
    exact h1 I (fun _ _ => rfl) rfl
def sendS (E : IM) (p w : Int32) : Int32 := if ¬ inR p 0 (E 29 1 - 1) then -5 else if ¬ inR w 0 1 then -7 else if w = 0 then nI (moR (totE E (cl p)) 5) else totE E (cl p) (moR (totE E (cl p)) 5)
def sp_W_send : SpT := fun as S I L Post => ∃ p w : Int32, cSp [.int p, .int w] (fun E => .int (sendS E p w)) (fun E => E) as S I L Post
set_option maxHeartbeats 4000000 in
set_option maxRecDepth 100000 in
theorem c_W_send : Con mW_send 7 0 0 sp_W_send := by
  refine con_of_X rfl fun G as S I L Post hs => ?_
  obtain ⟨p, w, rfl, rfl, hok, h1⟩ := hs
  dsimp only at h1
  refine ⟨1, Nat.le_of_ble_eq_true rfl, ?_⟩
  show X mW_send G _ S1 I L 0 [.ref 0, .int p, .int w, .null] [] Post
  obtain ⟨c1, c2, -⟩ := hok.ppl
  obtain ⟨l1, l2⟩ := hok.law
  refine x_aload_n dW_send_0 rfl ?_
  refine x_getR fl_W_19 rfl dW_send_1 rfl rfl rfl ?_
  refine x_iload_n dW_send_4 rfl ?_
  -- at 5: .invokevirtual 143
  refine x_callV_1 c_Folk_has ok_Folk_has ml_W_143 dW_send_5 rfl rfl rfl rfl rfl ?_
  refine ⟨_, rfl, rfl, fun a1 => ?_, fun a1 => ?_⟩
  · have a1 : inR p 0 (cE I 29 1 - 1) := a1
    refine x_if_ne (tgt := 14) dW_send_8 (by decide) (fun _ => ?_) (fun h => absurd h (by decide))
    rw [sendS, if_neg (not_not_intro a1)] at h1
    rw [show cE I 29 1 = nI (pN (cE I)) from c1] at a1
    obtain ⟨i, hi, rfl⟩ := has_nat (by omega) a1
    rw [cl_nI (by omega)] at h1
    refine x_iload_n dW_send_14 rfl ?_
    refine x_iconst (v := 0) dW_send_15 rfl ?_
    refine x_iconst (v := 1) dW_send_16 rfl ?_
    -- at 17: .invokestatic 101
    refine x_callS_3 c_W_within ok_W_within ml_W_101 dW_send_17 rfl rfl ?_
    refine ⟨_, _, _, rfl, fun a2 => ?_, fun a2 => ?_⟩
    · have a2 : inR w 0 1 := a2
      refine x_if_ne (tgt := 26) dW_send_20 (by decide) (fun _ => ?_) (fun h => absurd h (by decide))
      rw [if_neg (not_not_intro a2)] at h1
      refine x_aload_n dW_send_26 rfl ?_
      refine x_getR fl_W_56 rfl dW_send_27 rfl rfl rfl ?_
      refine x_aload_n dW_send_30 rfl ?_
      refine x_getR fl_W_47 rfl dW_send_31 rfl rfl rfl ?_
      refine x_getI fl_W_127 rfl dW_send_34 rfl rfl ?_
      -- at 37: .invokevirtual 205
      rw [l1]
      refine x_callV_1 cE_listen ok_Ledger_listen ml_W_205 dW_send_37 rfl rfl rfl rfl rfl ?_
      refine ⟨_, rfl, rfl, hok, l2, fun I1 hF1 hl hh _ => ?_⟩
      refine x_aload_n dW_send_40 rfl ?_
      refine x_getR fl_W_56 rfl dW_send_41 rfl rfl rfl ?_
      refine x_iload_n dW_send_44 rfl ?_
      -- at 45: .invokevirtual 271
      refine x_callV_1 cE_tryPlaces ok_Ledger_tryPlaces ml_W_271 dW_send_45 rfl rfl rfl rfl rfl ?_
      refine ⟨i, I, rfl, rfl, hok, hi, hF1, hl, hh, fun I2 hF2 ht => ?_⟩
      have hle := moR_le (totE (cE I) i) 5
      refine x_aload_n dW_send_48 rfl ?_
      refine x_getR fl_W_56 rfl dW_send_49 rfl rfl rfl ?_
      refine x_getR fl_W_274 rfl dW_send_52 rfl rfl rfl ?_
      -- at 55: .invokestatic 281
      refine x_callS_1 c_W_mostOf ok_W_mostOf ml_W_281 dW_send_55 rfl rfl ?_
      refine ⟨rfl, rfl, ?_⟩
      rw [moR_congr (g := totE (cE I) i) 5 (fun u hu => ht u (by omega))]
      refine x_istoren_3 dW_send_58 rfl rfl ?_
      refine x_iload_n dW_send_59 rfl ?_
      -- at 60: .ifCond .ne 7
      refine x_if_ne (tgt := 67) dW_send_60 (by decide) (fun d1 => ?_) (fun d1 => ?_)
      · rw [if_neg d1] at h1
        refine x_aload_n dW_send_67 rfl ?_
        refine x_getR fl_W_56 rfl dW_send_68 rfl rfl rfl ?_
        refine x_getR fl_W_274 rfl dW_send_71 rfl rfl rfl ?_
        refine x_iload_n dW_send_74 rfl ?_
        refine x_ialdJ (j := moR (totE (cE I) i) 5) dW_send_75 rfl rfl (by first | rfl | (simp only [← nI_add, ← pk_mul]; rfl)) (by omega) ?_
        -- at 76: .ireturn
        rw [ht _ (by omega)]
        refine x_ireturn dW_send_76 rfl rfl ?_
        exact h1 I2 (bstay hF2) (cE_b hF2)
      · rw [if_pos d1] at h1
        refine x_iload_n dW_send_63 rfl ?_
        refine x_goto (tgt := 76) dW_send_64 (by decide) ?_
        -- at 76: .ireturn
        refine x_ireturn dW_send_76 rfl rfl ?_
        exact h1 I2 (bstay hF2) (cE_b hF2)
    · have a2 : ¬ inR w 0 1 := a2
      refine x_if_ne (tgt := 26) dW_send_20 (by decide) (fun h => absurd (by decide) h) (fun _ => ?_)
      rw [if_pos a2] at h1
      refine x_bipush (v := -7) dW_send_23 rfl ?_
      -- at 25: .ireturn
      refine x_ireturn dW_send_25 rfl rfl ?_
      exact h1 I (fun _ _ => rfl) rfl
  · have a1 : ¬ inR p 0 (cE I 29 1 - 1) := a1
    refine x_if_ne (tgt := 14) dW_send_8 (by decide) (fun h => absurd (by decide) h) (fun _ => ?_)
    rw [sendS, if_pos a1] at h1
    refine x_bipush (v := -5) dW_send_11 rfl ?_
    -- at 13: .ireturn
    refine x_ireturn dW_send_13 rfl rfl ?_
    exact h1 I (fun _ _ => rfl) rfl
