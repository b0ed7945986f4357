/-! the class's calls: who hears, owes, what is kept -/
theorem Con.imp {M : MI} {d mc ms : Nat} {Sp Sp' : SpT} (c : Con M d mc ms Sp) (h : ∀ as S I L Post, Sp' as S I L Post → Sp as S I L Post) : Con M d mc ms Sp' := fun G l as S I L Post hs => c G l as S I L Post (h as S I L Post hs)
abbrev kScr : List Nat := [33, 34, 35, 36, 37, 38, 39, 40, 41, 42]
def CE (E : IM) (t : Nat) : Nat → Int32 := CC E (prog E t) (pN E)
def OwesT (E : IM) (t : Nat) (I' : IM) : Prop := OwesN E (DD E (prog E t) (CE E t)) (pN E) (qN E) (-1) (sN E) I'
def HrdT (E : IM) (t : Nat) (I' : IM) : Prop := ∀ s, s < sN E → (∀ p, p < pN E → I' 36 (s * 8 + p) = hearV E (prog E t) s p) ∧ I' 37 s = CE E t s
theorem Hrd.toE {I I' : IM} {t : Nat} (h : Hrd (cV I) (prog (cE I) t) (pN (cE I)) (sN (cE I)) I') : HrdT (cE I) t I' := fun s hs => by
  obtain ⟨a, b⟩ := h s hs
  refine ⟨fun p hp => by rw [a p hp, hear_eq (cVE I) _ hs hp], ?_⟩
  rw [b]
  exact CC_eq (cVE I) _ hs
theorem OwesN.toE {I I' : IM} {t : Nat} (h : OwesN (cV I) (DD (cV I) (prog (cE I) t) (CC (cV I) (prog (cE I) t) (pN (cE I)))) (pN (cE I)) (qN (cE I)) (-1) (sN (cE I)) I') : OwesT (cE I) t I' :=
  owes_eq (cVE I) (Nat.le_refl _) (fun p hp s hs => by unfold DD; rw [share_eq (cVE I) _ hs, CC_eq (cVE I) _ hs]; rfl) h
def spE_listen : SpT := fun as S I L Post => ∃ t : Nat, as = [.ref 35, .int (nI t)] ∧ S = S1 ∧ cOk I ∧ t < tN (cE I) ∧ ∀ I' : IM, Fr kScr I I' → I' 35 5 = nI t → Hrd (cV I) (prog (cE I) t) (pN (cE I)) (sN (cE I)) I' → HrdT (cE I) t I' → Post none S1 I' L
theorem cE_listen : Con mLedger_listen 6 0 0 spE_listen := c_Ledger_listen.imp fun as S I L Post hs => by
  obtain ⟨t, rfl, rfl, hok, ht, h1⟩ := hs
  obtain ⟨b1, b2, b3⟩ := hok.say
  exact ⟨t, sN (cE I), pN (cE I), prog (cE I) t, rfl, rfl, b1, b2, b3, hok.ppl, hok.txt ht, fun I' hF hl hh => h1 I' (hF.wk (by decide)) hl hh hh.toE⟩
def spE_reckon : SpT := fun as S I L Post => ∃ t : Nat, as = [.ref 35, .int (nI t)] ∧ S = S1 ∧ cOk I ∧ t < tN (cE I) ∧ ∀ I' : IM, Fr kScr I I' → I' 35 5 = nI t → RK (cV I) (prog (cE I) t) (pN (cE I)) (sN (cE I)) I' → OwesT (cE I) t I' → Post none S1 I' L
theorem cE_reckon : Con mLedger_reckon 7 0 0 spE_reckon := c_Ledger_reckon.imp fun as S I L Post hs => by
  obtain ⟨t, rfl, rfl, hok, ht, h1⟩ := hs
  obtain ⟨b1, b2, b3⟩ := hok.say
  exact ⟨t, sN (cE I), pN (cE I), qN (cE I), prog (cE I) t, rfl, rfl, b1, b2, b3, hok.ppl, hok.txt ht, hok.vow, fun I' hF hl hh ho => h1 I' hF hl hh ho.toE⟩
/-- what is owed, by the law t, of all SAYINGS -/
def RT (E : IM) (t : Nat) : Nat → Nat → Int32 := RE E (prog E t) (CE E t) (-1) (sN E)
def TT (E : IM) (t : Nat) : Nat → Int32 := TE E (prog E t) (CE E t) (-1) (sN E)
theorem OwesT.row {E I' : IM} {t p q : Nat} (h : OwesT E t I') (hp : p < pN E) (hq : q < 8) : I' 39 (p * 8 + q) = RT E t p q := (h p hp).1 q hq
theorem OwesT.tot {E I' : IM} {t p : Nat} (h : OwesT E t I') (hp : p < pN E) : I' 40 p = TT E t p := (h p hp).2.2.2
theorem OwesT.rows {I I' : IM} {t : Nat} (h : OwesT (cE I) t I') (hok : cOk I) (hF : Fr kScr I I') : Rows I' (pN (cE I)) (RT (cE I) t) := ⟨by rw [hF 4 (by decide)]; exact hok.1.1, hok.1.2.1, fun p hp => (h p hp).1⟩
theorem cOk.law {I : IM} (h : cOk I) : I 30 3 = nI (wN (cE I)) ∧ wN (cE I) < tN (cE I) := h.2.2.2.2.1
theorem cE_k {I I' : IM} (hF : Fr kScr I I') : cE I' = cE I := cE_fr (hF.wk (by decide))
theorem kstay {I I' : IM} (hF : Fr kScr I I') : ∀ k, 59 ≤ k → I' k = I k := fun k hk => hF k (by simp; omega)
def hearsS (E : IM) (s p : Int32) : Int32 := if ¬ inR s 0 (E 29 3 - 1) ∨ ¬ inR p 0 (E 29 1 - 1) then -5 else hearV E (PE E) (cl s) (cl p)
def sp_W_hears : SpT := fun as S I L Post => ∃ s p : Int32, cSp [.int s, .int p] (fun E => .int (hearsS E s p)) (fun E => E) as S I L Post
set_option maxHeartbeats 4000000 in
set_option maxRecDepth 100000 in
theorem c_W_hears : Con mW_hears 7 0 0 sp_W_hears := by
  refine con_of_X rfl fun G as S I L Post hs => ?_
  obtain ⟨s, p, rfl, rfl, hok, h1⟩ := hs
  dsimp only at h1
  refine ⟨0, Nat.le_of_ble_eq_true rfl, ?_⟩
  show X mW_hears G _ S1 I L 0 [.ref 0, .int s, .int p] [] Post
  obtain ⟨b1, b2, -⟩ := hok.say
  obtain ⟨c1, c2, -⟩ := hok.ppl
  obtain ⟨l1, l2⟩ := hok.law
  have bad : (¬ inR s 0 (cE I 29 3 - 1) ∨ ¬ inR p 0 (cE I 29 1 - 1)) → X mW_hears G (7, 0, 0) S1 I L 22 [.ref 0, .int s, .int p] [] Post := by
    intro hc
    rw [hearsS, if_pos hc] at h1
    refine x_bipush (v := -5) dW_hears_22 rfl ?_
    -- at 24: .ireturn
    refine x_ireturn dW_hears_24 rfl rfl ?_
    exact h1 I (fun _ _ => rfl) rfl
  refine x_aload_n dW_hears_0 rfl ?_
  refine x_getR fl_W_33 rfl dW_hears_1 rfl rfl rfl ?_
  refine x_iload_n dW_hears_4 rfl ?_
  -- at 5: .invokevirtual 192
  refine x_callV_1 c_Sayings_has ok_Sayings_has ml_W_192 dW_hears_5 rfl rfl rfl rfl rfl ?_
  refine ⟨_, rfl, rfl, fun a1 => ?_, fun a1 => ?_⟩
  · refine x_if_eq (tgt := 22) dW_hears_8 (by decide) (fun h => absurd h (by decide)) (fun _ => ?_)
    refine x_aload_n dW_hears_11 rfl ?_
    refine x_getR fl_W_19 rfl dW_hears_12 rfl rfl rfl ?_
    refine x_iload_n dW_hears_15 rfl ?_
    -- at 16: .invokevirtual 143
    refine x_callV_1 c_Folk_has ok_Folk_has ml_W_143 dW_hears_16 rfl rfl rfl rfl rfl ?_
    refine ⟨_, rfl, rfl, fun a2 => ?_, fun a2 => ?_⟩
    · refine x_if_ne (tgt := 25) dW_hears_19 (by decide) (fun _ => ?_) (fun h => absurd h (by decide))
      have a1 : inR s 0 (cE I 29 3 - 1) := a1
      have a2 : inR p 0 (cE I 29 1 - 1) := a2
      rw [hearsS, if_neg (fun z => z.elim (fun y => y a1) (fun y => y a2))] at h1
      rw [show cE I 29 3 = nI (sN (cE I)) from b1] at a1
      rw [show cE I 29 1 = nI (pN (cE I)) from c1] at a2
      obtain ⟨i, hi, rfl⟩ := has_nat (by omega) a1
      obtain ⟨j, hj, rfl⟩ := has_nat (by omega) a2
      rw [cl_nI (by omega), cl_nI (by omega)] at h1
      refine x_aload_n dW_hears_25 rfl ?_
      refine x_getR fl_W_56 rfl dW_hears_26 rfl rfl rfl ?_
      refine x_aload_n dW_hears_29 rfl ?_
      refine x_getR fl_W_47 rfl dW_hears_30 rfl rfl rfl ?_
      refine x_getI fl_W_127 rfl dW_hears_33 rfl rfl ?_
      -- at 36: .invokevirtual 205
      rw [l1]
      refine x_callV_1 cE_listen ok_Ledger_listen ml_W_205 dW_hears_36 rfl rfl rfl rfl rfl ?_
      refine ⟨_, rfl, rfl, hok, l2, fun I' hF _ _ hh => ?_⟩
      refine x_aload_n dW_hears_39 rfl ?_
      refine x_getR fl_W_56 rfl dW_hears_40 rfl rfl rfl ?_
      refine x_getR fl_W_208 rfl dW_hears_43 rfl rfl rfl ?_
      refine x_iload_n dW_hears_46 rfl ?_
      refine x_bipush (v := 8) dW_hears_47 rfl ?_
      refine x_imul dW_hears_49 ?_
      refine x_iload_n dW_hears_50 rfl ?_
      refine x_iadd dW_hears_51 ?_
      refine x_ialdJ (j := i * 8 + j) dW_hears_52 rfl rfl (by first | rfl | (simp only [← nI_add, ← pk_mul]; rfl)) (by omega) ?_
      -- at 53: .ireturn
      refine x_ireturn dW_hears_53 rfl rfl ?_
      rw [(hh i hi).1 j hj]
      exact h1 I' (kstay hF) (cE_k hF)
    · refine x_if_ne (tgt := 25) dW_hears_19 (by decide) (fun h => absurd (by decide) h) (fun _ => ?_)
      exact bad (Or.inr a2)
  · refine x_if_eq (tgt := 22) dW_hears_8 (by decide) (fun _ => ?_) (fun h => absurd (by decide) h)
    exact bad (Or.inl a1)
def heardS (E : IM) (s : Int32) : Int32 := if ¬ inR s 0 (E 29 3 - 1) then -5 else CE E (wN E) (cl s)
def sp_W_heard : SpT := fun as S I L Post => ∃ s : Int32, cSp [.int s] (fun E => .int (heardS E s)) (fun E => E) as S I L Post
set_option maxHeartbeats 4000000 in
set_option maxRecDepth 100000 in
theorem c_W_heard : Con mW_heard 7 0 0 sp_W_heard := by
  refine con_of_X rfl fun G as S I L Post hs => ?_
  obtain ⟨s, rfl, rfl, hok, h1⟩ := hs
  dsimp only at h1
  refine ⟨0, Nat.le_of_ble_eq_true rfl, ?_⟩
  show X mW_heard G _ S1 I L 0 [.ref 0, .int s] [] Post
  obtain ⟨b1, b2, -⟩ := hok.say
  obtain ⟨l1, l2⟩ := hok.law
  refine x_aload_n dW_heard_0 rfl ?_
  refine x_getR fl_W_33 rfl dW_heard_1 rfl rfl rfl ?_
  refine x_iload_n dW_heard_4 rfl ?_
  -- at 5: .invokevirtual 192
  refine x_callV_1 c_Sayings_has ok_Sayings_has ml_W_192 dW_heard_5 rfl rfl rfl rfl rfl ?_
  refine ⟨_, rfl, rfl, fun a1 => ?_, fun a1 => ?_⟩
  · have a1 : inR s 0 (cE I 29 3 - 1) := a1
    refine x_if_ne (tgt := 14) dW_heard_8 (by decide) (fun _ => ?_) (fun h => absurd h (by decide))
    rw [heardS, if_neg (not_not_intro a1)] at h1
    rw [show cE I 29 3 = nI (sN (cE I)) from b1] at a1
    obtain ⟨i, hi, rfl⟩ := has_nat (by omega) a1
    rw [cl_nI (by omega)] at h1
    refine x_aload_n dW_heard_14 rfl ?_
    refine x_getR fl_W_56 rfl dW_heard_15 rfl rfl rfl ?_
    refine x_aload_n dW_heard_18 rfl ?_
    refine x_getR fl_W_47 rfl dW_heard_19 rfl rfl rfl ?_
    refine x_getI fl_W_127 rfl dW_heard_22 rfl rfl ?_
    -- at 25: .invokevirtual 205
    rw [l1]
    refine x_callV_1 cE_listen ok_Ledger_listen ml_W_205 dW_heard_25 rfl rfl rfl rfl rfl ?_
    refine ⟨_, rfl, rfl, hok, l2, fun I' hF _ _ hh => ?_⟩
    refine x_aload_n dW_heard_28 rfl ?_
    refine x_getR fl_W_56 rfl dW_heard_29 rfl rfl rfl ?_
    refine x_getR fl_W_211 rfl dW_heard_32 rfl rfl rfl ?_
    refine x_iload_n dW_heard_35 rfl ?_
    refine x_ialdJ dW_heard_36 rfl rfl rfl (by omega) ?_
    -- at 37: .ireturn
    refine x_ireturn dW_heard_37 rfl rfl ?_
    rw [(hh i hi).2]
    exact h1 I' (kstay hF) (cE_k hF)
  · have a1 : ¬ inR s 0 (cE I 29 3 - 1) := a1
    refine x_if_ne (tgt := 14) dW_heard_8 (by decide) (fun h => absurd (by decide) h) (fun _ => ?_)
    rw [heardS, if_pos a1] at h1
    refine x_bipush (v := -5) dW_heard_11 rfl ?_
    -- at 13: .ireturn
    refine x_ireturn dW_heard_13 rfl rfl ?_
    exact h1 I (fun _ _ => rfl) rfl
def nobodyS (E : IM) : Int32 := bs (sN E) (fun s => decide (CE E (wN E) s = 0))
def sp_W_nobody : SpT := cSp [] (fun E => .int (nobodyS E)) (fun E => E)
set_option maxHeartbeats 4000000 in
set_option maxRecDepth 100000 in
theorem c_W_nobody : Con mW_nobody 7 0 0 sp_W_nobody := by
  refine con_of_X rfl fun G as S I L Post hs => ?_
  obtain ⟨rfl, rfl, hok, h1⟩ := hs
  dsimp only at h1
  refine ⟨2, Nat.le_of_ble_eq_true rfl, ?_⟩
  show X mW_nobody G _ S1 I L 0 [.ref 0, .null, .null] [] Post
  obtain ⟨b1, b2, -⟩ := hok.say
  obtain ⟨l1, l2⟩ := hok.law
  refine x_aload_n dW_nobody_0 rfl ?_
  refine x_getR fl_W_56 rfl dW_nobody_1 rfl rfl rfl ?_
  refine x_aload_n dW_nobody_4 rfl ?_
  refine x_getR fl_W_47 rfl dW_nobody_5 rfl rfl rfl ?_
  refine x_getI fl_W_127 rfl dW_nobody_8 rfl rfl ?_
  -- at 11: .invokevirtual 205
  rw [l1]
  refine x_callV_1 cE_listen ok_Ledger_listen ml_W_205 dW_nobody_11 rfl rfl rfl rfl rfl ?_
  refine ⟨_, rfl, rfl, hok, l2, fun I' hF _ _ hh => ?_⟩
  refine x_iconst (v := 0) dW_nobody_14 rfl ?_
  refine x_istoren_1 dW_nobody_15 rfl rfl ?_
  refine x_iconst (v := 0) dW_nobody_16 rfl ?_
  refine x_istoren_2 dW_nobody_17 rfl rfl ?_
  -- at 18: .iload_n 2
  have e18 := hF 18 (by decide)
  have loop : ∀ (k i : Nat) (acc : Int32), i + k = sN (cE I) → acc = bs i (fun s => decide (CE (cE I) (wN (cE I)) s = 0)) → X mW_nobody G (7, 0, 0) S1 I' L 18 [.ref 0, .int acc, .int (nI i)] [] Post := by
    intro k
    induction k with
    | zero =>
      intro i acc hi ha
      obtain rfl : i = sN (cE I) := by omega
      refine x_iload_n dW_nobody_18 rfl ?_
      refine x_aload_n dW_nobody_19 rfl ?_
      refine x_getR fl_W_33 rfl dW_nobody_20 rfl rfl rfl ?_
      refine x_getI fl_W_125 rfl dW_nobody_23 rfl rfl ?_
      -- at 26: .if_icmp .ge 27
      rw [e18, b1]
      refine x_icmp_ge (tgt := 53) dW_nobody_26 (by decide) (fun _ => ?_) (fun h => absurd (Int32.le_refl _) h)
      refine x_iload_n dW_nobody_53 rfl ?_
      -- at 54: .ireturn
      refine x_ireturn dW_nobody_54 rfl rfl ?_
      rw [ha]
      exact h1 I' (kstay hF) (cE_k hF)
    | succ k ih =>
      intro i acc hi ha
      refine x_iload_n dW_nobody_18 rfl ?_
      refine x_aload_n dW_nobody_19 rfl ?_
      refine x_getR fl_W_33 rfl dW_nobody_20 rfl rfl rfl ?_
      refine x_getI fl_W_125 rfl dW_nobody_23 rfl rfl ?_
      -- at 26: .if_icmp .ge 27
      rw [e18, b1]
      refine x_icmp_ge (tgt := 53) dW_nobody_26 (by decide) (fun h => absurd h (nI_ge (b := sN (cE I)) (by omega) (by omega))) (fun _ => ?_)
      refine x_aload_n dW_nobody_29 rfl ?_
      refine x_getR fl_W_56 rfl dW_nobody_30 rfl rfl rfl ?_
      refine x_getR fl_W_211 rfl dW_nobody_33 rfl rfl rfl ?_
      refine x_iload_n dW_nobody_36 rfl ?_
      refine x_ialdJ dW_nobody_37 rfl rfl rfl (by omega) ?_
      -- at 38: .ifCond .ne 9
      rw [(hh i (by omega)).2]
      refine x_if_ne (tgt := 47) dW_nobody_38 (by decide) (fun c1 => ?_) (fun c1 => ?_)
      · refine x_iincp_2 dW_nobody_47 rfl rfl ?_
        refine x_goto (tgt := 18) dW_nobody_50 (by decide) ?_
        -- at 18: .iload_n 2
        rw [nI_1]
        refine ih (i + 1) _ (by omega) ?_
        rw [ha, bs, if_neg (by simpa using c1)]
      · refine x_iload_n dW_nobody_41 rfl ?_
        refine x_iconst (v := 1) dW_nobody_42 rfl ?_
        refine x_iload_n dW_nobody_43 rfl ?_
        refine x_ishl dW_nobody_44 ?_
        refine x_ior dW_nobody_45 ?_
        refine x_istoren_1 dW_nobody_46 rfl rfl ?_
        refine x_iincp_2 dW_nobody_47 rfl rfl ?_
        refine x_goto (tgt := 18) dW_nobody_50 (by decide) ?_
        -- at 18: .iload_n 2
        rw [nI_1]
        refine ih (i + 1) _ (by omega) ?_
        rw [ha, bs, if_pos (by simpa using c1)]
        rfl
  exact loop (sN (cE I)) 0 0 (by omega) rfl
def oweS (E : IM) (p q : Int32) : Int32 := if ¬ inR p 0 (E 29 1 - 1) ∨ ¬ inR q 0 (E 29 2 - 1) then -5 else RT E (wN E) (cl p) (cl q)
def sp_W_owe : SpT := fun as S I L Post => ∃ p q : Int32, cSp [.int p, .int q] (fun E => .int (oweS E p q)) (fun E => E) as S I L Post
set_option maxHeartbeats 4000000 in
set_option maxRecDepth 100000 in
theorem c_W_owe : Con mW_owe 8 0 0 sp_W_owe := by
  refine con_of_X rfl fun G as S I L Post hs => ?_
  obtain ⟨p, q, rfl, rfl, hok, h1⟩ := hs
  dsimp only at h1
  refine ⟨0, Nat.le_of_ble_eq_true rfl, ?_⟩
  show X mW_owe G _ S1 I L 0 [.ref 0, .int p, .int q] [] Post
  obtain ⟨v1, v2, -⟩ := hok.vow
  obtain ⟨c1, c2, -⟩ := hok.ppl
  obtain ⟨l1, l2⟩ := hok.law
  have bad : (¬ inR p 0 (cE I 29 1 - 1) ∨ ¬ inR q 0 (cE I 29 2 - 1)) → X mW_owe G (8, 0, 0) S1 I L 22 [.ref 0, .int p, .int q] [] Post := by
    intro hc
    rw [oweS, if_pos hc] at h1
    refine x_bipush (v := -5) dW_owe_22 rfl ?_
    -- at 24: .ireturn
    refine x_ireturn dW_owe_24 rfl rfl ?_
    exact h1 I (fun _ _ => rfl) rfl
  refine x_aload_n dW_owe_0 rfl ?_
  refine x_getR fl_W_19 rfl dW_owe_1 rfl rfl rfl ?_
  refine x_iload_n dW_owe_4 rfl ?_
  -- at 5: .invokevirtual 143
  refine x_callV_1 c_Folk_has ok_Folk_has ml_W_143 dW_owe_5 rfl rfl rfl rfl rfl ?_
  refine ⟨_, rfl, rfl, fun a1 => ?_, fun a1 => ?_⟩
  · refine x_if_eq (tgt := 22) dW_owe_8 (by decide) (fun h => absurd h (by decide)) (fun _ => ?_)
    refine x_aload_n dW_owe_11 rfl ?_
    refine x_getR fl_W_26 rfl dW_owe_12 rfl rfl rfl ?_
    refine x_iload_n dW_owe_15 rfl ?_
    -- at 16: .invokevirtual 174
    refine x_callV_1 c_Vows_has ok_Vows_has ml_W_174 dW_owe_16 rfl rfl rfl rfl rfl ?_
    refine ⟨_, rfl, rfl, fun a2 => ?_, fun a2 => ?_⟩
    · refine x_if_ne (tgt := 25) dW_owe_19 (by decide) (fun _ => ?_) (fun h => absurd h (by decide))
      have a1 : inR p 0 (cE I 29 1 - 1) := a1
      have a2 : inR q 0 (cE I 29 2 - 1) := a2
      rw [oweS, if_neg (fun z => z.elim (fun y => y a1) (fun y => y a2))] at h1
      rw [show cE I 29 1 = nI (pN (cE I)) from c1] at a1
      rw [show cE I 29 2 = nI (qN (cE I)) from v1] at a2
      obtain ⟨i, hi, rfl⟩ := has_nat (by omega) a1
      obtain ⟨j, hj, rfl⟩ := has_nat (by omega) a2
      rw [cl_nI (by omega), cl_nI (by omega)] at h1
      refine x_aload_n dW_owe_25 rfl ?_
      refine x_getR fl_W_56 rfl dW_owe_26 rfl rfl rfl ?_
      refine x_aload_n dW_owe_29 rfl ?_
      refine x_getR fl_W_47 rfl dW_owe_30 rfl rfl rfl ?_
      refine x_getI fl_W_127 rfl dW_owe_33 rfl rfl ?_
      -- at 36: .invokevirtual 213
      rw [l1]
      refine x_callV_1 cE_reckon ok_Ledger_reckon ml_W_213 dW_owe_36 rfl rfl rfl rfl rfl ?_
      refine ⟨_, rfl, rfl, hok, l2, fun I' hF _ _ ho => ?_⟩
      refine x_aload_n dW_owe_39 rfl ?_
      refine x_getR fl_W_56 rfl dW_owe_40 rfl rfl rfl ?_
      refine x_getR fl_W_216 rfl dW_owe_43 rfl rfl rfl ?_
      refine x_iload_n dW_owe_46 rfl ?_
      refine x_bipush (v := 8) dW_owe_47 rfl ?_
      refine x_imul dW_owe_49 ?_
      refine x_iload_n dW_owe_50 rfl ?_
      refine x_iadd dW_owe_51 ?_
      refine x_ialdJ (j := i * 8 + j) dW_owe_52 rfl rfl (by first | rfl | (simp only [← nI_add, ← pk_mul]; rfl)) (by omega) ?_
      -- at 53: .ireturn
      refine x_ireturn dW_owe_53 rfl rfl ?_
      rw [ho.row hi (by omega)]
      exact h1 I' (kstay hF) (cE_k hF)
    · refine x_if_ne (tgt := 25) dW_owe_19 (by decide) (fun h => absurd (by decide) h) (fun _ => ?_)
      exact bad (Or.inr a2)
  · refine x_if_eq (tgt := 22) dW_owe_8 (by decide) (fun _ => ?_) (fun h => absurd (by decide) h)
    exact bad (Or.inl a1)
def doneS (E : IM) (q : Int32) : Int32 := if ¬ inR q 0 (E 29 2 - 1) then -5 else doneV E (pN E) (RT E (wN E)) (cl q)
def sp_W_done : SpT := fun as S I L Post => ∃ q : Int32, cSp [.int q] (fun E => .int (doneS E q)) (fun E => E) as S I L Post
theorem cV_k {I I' : IM} (hF : Fr kScr I I') : cV I' = cV I := cV_fr (hF.wk (by decide))
set_option maxHeartbeats 4000000 in
set_option maxRecDepth 100000 in
theorem c_W_done : Con mW_done 8 0 0 sp_W_done := by
  refine con_of_X rfl fun G as S I L Post hs => ?_
  obtain ⟨q, rfl, rfl, hok, h1⟩ := hs
  dsimp only at h1
  refine ⟨0, Nat.le_of_ble_eq_true rfl, ?_⟩
  show X mW_done G _ S1 I L 0 [.ref 0, .int q] [] Post
  obtain ⟨v1, v2, -⟩ := hok.vow
  obtain ⟨l1, l2⟩ := hok.law
  refine x_aload_n dW_done_0 rfl ?_
  refine x_getR fl_W_26 rfl dW_done_1 rfl rfl rfl ?_
  refine x_iload_n dW_done_4 rfl ?_
  -- at 5: .invokevirtual 174
  refine x_callV_1 c_Vows_has ok_Vows_has ml_W_174 dW_done_5 rfl rfl rfl rfl rfl ?_
  refine ⟨_, rfl, rfl, fun a1 => ?_, fun a1 => ?_⟩
  · have a1 : inR q 0 (cE I 29 2 - 1) := a1
    refine x_if_ne (tgt := 14) dW_done_8 (by decide) (fun _ => ?_) (fun h => absurd h (by decide))
    rw [doneS, if_neg (not_not_intro a1)] at h1
    rw [show cE I 29 2 = nI (qN (cE I)) from v1] at a1
    obtain ⟨i, hi, rfl⟩ := has_nat (by omega) a1
    rw [cl_nI (by omega)] at h1
    refine x_aload_n dW_done_14 rfl ?_
    refine x_getR fl_W_56 rfl dW_done_15 rfl rfl rfl ?_
    refine x_aload_n dW_done_18 rfl ?_
    refine x_getR fl_W_47 rfl dW_done_19 rfl rfl rfl ?_
    refine x_getI fl_W_127 rfl dW_done_22 rfl rfl ?_
    -- at 25: .invokevirtual 213
    rw [l1]
    refine x_callV_1 cE_reckon ok_Ledger_reckon ml_W_213 dW_done_25 rfl rfl rfl rfl rfl ?_
    refine ⟨_, rfl, rfl, hok, l2, fun I' hF _ _ ho => ?_⟩
    refine x_aload_n dW_done_28 rfl ?_
    refine x_getR fl_W_56 rfl dW_done_29 rfl rfl rfl ?_
    refine x_iload_n dW_done_32 rfl ?_
    -- at 33: .invokevirtual 232
    refine x_callV_1 c_Ledger_doneOf ok_Ledger_doneOf ml_W_232 dW_done_33 rfl rfl rfl rfl rfl ?_
    refine ⟨i, _, _, rfl, rfl, by omega, ho.rows hok hF, ?_⟩
    refine x_ireturn dW_done_36 rfl rfl ?_
    rw [cV_k hF, done_eq (cVE I) (pN (cE I)) (R' := RT (cE I) (wN (cE I))) (fun p hp => rfl)]
    exact h1 I' (kstay hF) (cE_k hF)
  · have a1 : ¬ inR q 0 (cE I 29 2 - 1) := a1
    refine x_if_ne (tgt := 14) dW_done_8 (by decide) (fun h => absurd (by decide) h) (fun _ => ?_)
    rw [doneS, if_pos a1] at h1
    refine x_bipush (v := -5) dW_done_11 rfl ?_
    -- at 13: .ireturn
    refine x_ireturn dW_done_13 rfl rfl ?_
    exact h1 I (fun _ _ => rfl) rfl
