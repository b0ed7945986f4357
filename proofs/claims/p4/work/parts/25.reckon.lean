/-! all reckoned; one saying more: the class -/
def DD (V : IM) (P : Nat → List Int32) (C : Nat → Int32) (p s : Nat) : Int32 := shareV V P (C s) s p
def sp_Ledger_bindAll : SpT := fun as S I L Post => ∃ (m n nq : Nat) (P : Nat → List Int32), as = [.ref 35] ∧ S = S1 ∧ I 18 4 = nI m ∧ m ≤ 10 ∧ (∀ s, s < m → SayV (cV I) s) ∧ (∀ s, s < m → ∃ c, c < 256 ∧ I 37 s = nI c) ∧ LisOk I P n ∧ VowOk I nq ∧
  ∀ I' : IM, Fr [33, 34, 38, 39, 40, 41, 42] I I' → (∀ s, s < m → DueRow (cV I) P n (I 37 s) s I') → OwesN (cV I) (DD (cV I) P (I 37)) n nq (-1) m I' → Post none S1 I' L
set_option maxHeartbeats 4000000 in
set_option maxRecDepth 100000 in
theorem c_Ledger_bindAll : Con mLedger_bindAll 6 0 0 sp_Ledger_bindAll := by
  refine con_of_X rfl fun G as S I L Post hs => ?_
  obtain ⟨m, n, nq, P, rfl, rfl, hm, hm10, hsv, hcl, hok, hv, h1⟩ := hs
  have hn8 := hok.2.1
  refine ⟨1, Nat.le_of_ble_eq_true rfl, ?_⟩
  show X mLedger_bindAll G _ S1 I L 0 [.ref 35, .null] [] Post
  refine x_iconst (v := 0) dLedger_bindAll_0 rfl ?_
  refine x_istoren_1 dLedger_bindAll_1 rfl rfl ?_
  -- at 2: .iload_n 1
  have loop : ∀ (k i : Nat) (I' : IM), i + k = m → Fr [33, 34, 38] I I' → (∀ s, s < i → DueRow (cV I) P n (I 37 s) s I') → X mLedger_bindAll G (6, 0, 0) S1 I' L 2 [.ref 35, .int (nI i)] [] Post := by
    intro k
    induction k with
    | zero =>
      intro i I' hi hF hd
      obtain rfl : i = m := by omega
      have eV : cV I' = cV I := cV_fr (hF.wk (by decide))
      refine x_iload_n dLedger_bindAll_2 rfl ?_
      refine x_aload_n dLedger_bindAll_3 rfl ?_
      refine x_getR fl_Ledger_55 rfl dLedger_bindAll_4 rfl rfl rfl ?_
      refine x_getI fl_Ledger_70 rfl dLedger_bindAll_7 rfl rfl ?_
      -- at 10: .if_icmp .ge 14
      rw [hF 18 (by decide), hm]
      refine x_icmp_ge (tgt := 24) dLedger_bindAll_10 (by decide) (fun _ => ?_) (fun h => absurd (Int32.le_refl _) h)
      refine x_aload_n dLedger_bindAll_24 rfl ?_
      refine x_aload_n dLedger_bindAll_25 rfl ?_
      refine x_getR fl_Ledger_55 rfl dLedger_bindAll_26 rfl rfl rfl ?_
      refine x_getI fl_Ledger_70 rfl dLedger_bindAll_29 rfl rfl ?_
      refine x_iconst (v := -1) dLedger_bindAll_32 rfl ?_
      -- at 33: .invokevirtual 134
      rw [hF 18 (by decide), hm]
      refine x_callV_2 c_Ledger_settle ok_Ledger_settle ml_Ledger_134 dLedger_bindAll_33 rfl rfl rfl rfl rfl ?_
      refine ⟨i, n, nq, -1, DD (cV I) P (I 37), rfl, rfl, by rw [hF 4 (by decide)]; exact hok.1, hn8, by omega, fun s hs => by rw [hF 19 (by decide)]; exact (hsv s hs).1, hv.fr (hF _ (by decide)) (hF _ (by decide)), fun p hp s hs => hd s hs p hp, fun I2 hF2 ho => ?_⟩
      rw [eV] at ho
      refine x_return dLedger_bindAll_36 rfl ?_
      refine h1 I2 ((hF.wk (by decide)).tr (hF2.wk (by decide))) (fun s hs p hp => ?_) ho
      rw [hF2 38 (by decide)]
      exact hd s hs p hp
    | succ k ih =>
      intro i I' hi hF hd
      have eV : cV I' = cV I := cV_fr (hF.wk (by decide))
      refine x_iload_n dLedger_bindAll_2 rfl ?_
      refine x_aload_n dLedger_bindAll_3 rfl ?_
      refine x_getR fl_Ledger_55 rfl dLedger_bindAll_4 rfl rfl rfl ?_
      refine x_getI fl_Ledger_70 rfl dLedger_bindAll_7 rfl rfl ?_
      -- at 10: .if_icmp .ge 14
      rw [hF 18 (by decide), hm]
      refine x_icmp_ge (tgt := 24) dLedger_bindAll_10 (by decide) (fun h => absurd h (nI_ge (b := m) (by omega) (by omega))) (fun _ => ?_)
      refine x_aload_n dLedger_bindAll_13 rfl ?_
      refine x_iload_n dLedger_bindAll_14 rfl ?_
      -- at 15: .invokevirtual 131
      obtain ⟨c, hc, ec⟩ := hcl i (by omega)
      have e37 := hF 37 (by decide)
      refine x_callV_1 c_Ledger_bindBy ok_Ledger_bindBy ml_Ledger_131 dLedger_bindAll_15 rfl rfl rfl rfl rfl ?_
      refine ⟨i, n, c, P, rfl, rfl, by omega, by rw [eV]; exact hsv i (by omega), by rw [e37]; exact ec, hc, hok.fr (hF.wk (by decide)), fun I2 hF2 hr ho => ?_⟩
      rw [eV, e37] at hr
      refine x_iincp_1 dLedger_bindAll_18 rfl rfl ?_
      refine x_goto (tgt := 2) dLedger_bindAll_21 (by decide) ?_
      -- at 2: .iload_n 1
      rw [nI_1]
      refine ih (i + 1) I2 (by omega) (hF.tr hF2) (fun s hs p hp => ?_)
      by_cases e : s = i
      · subst e; exact hr p hp
      · rw [ho _ (by omega)]
        exact hd s (by omega) p hp
  exact loop m 0 I (by omega) Fr.rfl (fun s hs => absurd hs (Nat.not_lt_zero s))
/-- who hears CLEARLY, by hearing alone -/
def CC (V : IM) (P : Nat → List Int32) (n : Nat) : Nat → Int32 := fun s => bs n (clF V P s)
/-- the class's rows have all been reckoned, for m rows -/
def RK (V : IM) (P : Nat → List Int32) (n m : Nat) (I' : IM) : Prop := Hrd V P n m I' ∧ ∀ s, s < m → DueRow V P n (CC V P n s) s I'
def sp_Ledger_reckon : SpT := fun as S I L Post => ∃ (t m n nq : Nat) (P : Nat → List Int32), as = [.ref 35, .int (nI t)] ∧ S = S1 ∧ I 18 4 = nI m ∧ m ≤ 10 ∧ (∀ s, s < m → SayV (cV I) s) ∧ PplOk I n ∧ TxtC I P t ∧ VowOk I nq ∧
  ∀ I' : IM, Fr [33, 34, 35, 36, 37, 38, 39, 40, 41, 42] I I' → I' 35 5 = nI t → RK (cV I) P n m I' → OwesN (cV I) (DD (cV I) P (CC (cV I) P n)) n nq (-1) m I' → Post none S1 I' L
theorem DD_congr {V : IM} {P : Nat → List Int32} {C C' : Nat → Int32} {n nq m : Nat} {w : Int32} {I' : IM} (hC : ∀ s, s < m → C s = C' s) (h : OwesN V (DD V P C) n nq w m I') : OwesN V (DD V P C') n nq w m I' := by
  intro p hp
  have e : maxR V (DD V P C p) w m = maxR V (DD V P C' p) w m := maxR_congr m (fun s hs => by unfold DD; rw [hC s hs])
  have h2 := h p hp
  unfold Owes1 tot1 fin1 str1 at h2 ⊢
  rw [e] at h2
  exact h2
set_option maxHeartbeats 4000000 in
set_option maxRecDepth 100000 in
theorem c_Ledger_reckon : Con mLedger_reckon 7 0 0 sp_Ledger_reckon := by
  refine con_of_X rfl fun G as S I L Post hs => ?_
  obtain ⟨t, m, n, nq, P, rfl, rfl, hm, hm10, hsv, hpp, hT, hv, h1⟩ := hs
  refine ⟨0, Nat.le_of_ble_eq_true rfl, ?_⟩
  show X mLedger_reckon G _ S1 I L 0 [.ref 35, .int (nI t)] [] Post
  refine x_aload_n dLedger_reckon_0 rfl ?_
  refine x_iload_n dLedger_reckon_1 rfl ?_
  -- at 2: .invokevirtual 63
  refine x_callV_1 c_Ledger_listen ok_Ledger_listen ml_Ledger_63 dLedger_reckon_2 rfl rfl rfl rfl rfl ?_
  refine ⟨t, m, n, P, rfl, rfl, hm, hm10, hsv, hpp, hT, fun I1 hF1 ht hh => ?_⟩
  have eV : cV I1 = cV I := cV_fr (hF1.wk (by decide))
  have hok1 : LisOk I1 P n := (hpp.fr (hF1.wk (by decide))).lis2 ht (hT.fr (hF1 _ (by decide)) (hF1 _ (by decide)))
  have hn8 := hpp.2.1
  refine x_aload_n dLedger_reckon_5 rfl ?_
  -- at 6: .invokevirtual 67
  refine x_callV_0 c_Ledger_bindAll ok_Ledger_bindAll ml_Ledger_67 dLedger_reckon_6 rfl rfl rfl rfl rfl ?_
  refine ⟨m, n, nq, P, rfl, rfl, by rw [hF1 18 (by decide)]; exact hm, hm10, by rw [eV]; exact hsv, fun s hs => ?_, hok1, hv.fr (hF1 _ (by decide)) (hF1 _ (by decide)), fun I2 hF2 hd ho => ?_⟩
  · obtain ⟨c, hc, e⟩ := bs_nat (clF (cV I) P s) hn8
    exact ⟨c, hc, (hh s hs).2.trans e⟩
  rw [eV] at hd ho
  refine x_return dLedger_reckon_9 rfl ?_
  have e37 : ∀ s, s < m → I1 37 s = CC (cV I) P n s := fun s hs => (hh s hs).2
  refine h1 I2 ((hF1.wk (by decide)).tr (hF2.wk (by decide))) ?_ ⟨fun s hs => ?_, fun s hs => ?_⟩ (DD_congr e37 ho)
  · rw [hF2 35 (by decide)]
    exact ht
  · unfold HrdRow
    rw [hF2 36 (by decide), hF2 37 (by decide)]
    exact hh s hs
  · rw [← e37 s hs]
    exact hd s hs
/-- a row of SAYINGS put anew -/
def sputV (V : IM) (m : Nat) (q h : Int32) : IM := up2 (up2 (up2 (up2 V 14 m q) 15 m (h / 100)) 16 m (rem (h / 10) 10)) 17 m (rem h 10)
theorem cV_put (I : IM) (m : Nat) (q h : Int32) : cV (cSput I m q h) = sputV (cV I) m q h := by
  funext a
  by_cases h14 : a = 14
  · subst h14; unfold sputV cSput cV; simp only [up2_n, up2_s, ne_eq, Nat.reduceEqDiff, not_false_eq_true]
  by_cases h15 : a = 15
  · subst h15; unfold sputV cSput cV; simp only [up2_n, up2_s, ne_eq, Nat.reduceEqDiff, not_false_eq_true]
  by_cases h16 : a = 16
  · subst h16; unfold sputV cSput cV; simp only [up2_n, up2_s, ne_eq, Nat.reduceEqDiff, not_false_eq_true]
  by_cases h17 : a = 17
  · subst h17; unfold sputV cSput cV; simp only [up2_n, up2_s, ne_eq, Nat.reduceEqDiff, not_false_eq_true]
  unfold sputV
  rw [up2_n _ _ _ h17, up2_n _ _ _ h16, up2_n _ _ _ h15, up2_n _ _ _ h14]
  unfold cV cSput
  split <;> first | rfl | (exfalso; omega) | simp only [up2_n, up2_s, ne_eq, Nat.reduceEqDiff, not_false_eq_true]
theorem hear_put (V : IM) (P : Nat → List Int32) (m : Nat) (q h : Int32) {s : Nat} (hs : s ≠ m) (p : Nat) : hearV (sputV V m q h) P s p = hearV V P s p := by
  unfold hearV farV whereV startV sputV
  simp only [up2_n, up2_s, ne_eq, Nat.reduceEqDiff, not_false_eq_true, up1, hs, if_false]
theorem share_put (V : IM) (P : Nat → List Int32) (m : Nat) (q h : Int32) {s : Nat} (hs : s ≠ m) (c : Int32) (p : Nat) : shareV (sputV V m q h) P c s p = shareV V P c s p := by
  unfold shareV canV sputV
  simp only [up2_n, up2_s, ne_eq, Nat.reduceEqDiff, not_false_eq_true, up1, hs, if_false]
theorem RK.put {V : IM} {P : Nat → List Int32} {n m : Nat} {I I' : IM} (h : RK V P n m I) (q hw : Int32) (e1 : ∀ s, s < m → ∀ p, p < n → I' 36 (s * 8 + p) = I 36 (s * 8 + p)) (e2 : ∀ s, s < m → I' 37 s = I 37 s) (e3 : ∀ s, s < m → ∀ p, p < n → I' 38 (s * 8 + p) = I 38 (s * 8 + p)) : RK (sputV V m q hw) P n m I' := by
  have hC : ∀ s, s < m → CC (sputV V m q hw) P n s = CC V P n s := fun s hs => bs_congr n (fun p _ => by
    unfold clF
    rw [hear_put V P m q hw (by omega) p])
  refine ⟨fun s hs => ⟨fun p hp => ?_, ?_⟩, fun s hs p hp => ?_⟩
  · rw [e1 s hs p hp, hear_put V P m q hw (by omega) p]
    exact (h.1 s hs).1 p hp
  · rw [e2 s hs, (h.1 s hs).2]
    exact (hC s hs).symm
  · rw [e3 s hs p hp, hC s hs, share_put V P m q hw (by omega) _ p]
    exact h.2 s hs p hp
def sp_Ledger_sayMore : SpT := fun as S I L Post => ∃ (t m n nq q : Nat) (h : Int32) (P : Nat → List Int32), as = [.ref 35, .int (nI q), .int h] ∧ S = S1 ∧ I 18 4 = nI m ∧ m ≤ 10 ∧ (∀ s, s < m → SayV (cV I) s) ∧ SayV (sputV (cV I) m (nI q) h) m ∧ PplOk I n ∧ I 35 5 = nI t ∧ TxtC I P t ∧ VowOk I nq ∧ RK (cV I) P n m I ∧
  ∀ I' : IM, Fr [19, 20, 21, 22, 33, 34, 36, 37, 38, 39, 40, 41, 42] I I' → cV I' = sputV (cV I) m (nI q) h → RK (cV I') P n m I' → OwesN (cV I') (DD (cV I') P (CC (cV I') P n)) n nq (-1) (m + 1) I' → Post none S1 I' L
set_option maxHeartbeats 4000000 in
set_option maxRecDepth 100000 in
theorem c_Ledger_sayMore : Con mLedger_sayMore 6 0 0 sp_Ledger_sayMore := by
  refine con_of_X rfl fun G as S I L Post hs => ?_
  obtain ⟨t, m, n, nq, q, h, P, rfl, rfl, hm, hm10, hsv, hsm, hpp, ht, hT, hv, hrk, h1⟩ := hs
  have hn8 := hpp.2.1
  refine ⟨1, Nat.le_of_ble_eq_true rfl, ?_⟩
  show X mLedger_sayMore G _ S1 I L 0 [.ref 35, .int (nI q), .int h, .null] [] Post
  refine x_aload_n dLedger_sayMore_0 rfl ?_
  refine x_getR fl_Ledger_55 rfl dLedger_sayMore_1 rfl rfl rfl ?_
  refine x_getI fl_Ledger_70 rfl dLedger_sayMore_4 rfl rfl ?_
  -- at 7: .istore_n 3
  rw [hm]
  refine x_istoren_3 dLedger_sayMore_7 rfl rfl ?_
  refine x_aload_n dLedger_sayMore_8 rfl ?_
  refine x_getR fl_Ledger_55 rfl dLedger_sayMore_9 rfl rfl rfl ?_
  refine x_iload_n dLedger_sayMore_12 rfl ?_
  refine x_iload_n dLedger_sayMore_13 rfl ?_
  refine x_iload_n dLedger_sayMore_14 rfl ?_
  -- at 15: .invokevirtual 215
  refine x_callV_3 c_Sayings_put ok_Sayings_put ml_Ledger_215 dLedger_sayMore_15 rfl rfl rfl rfl rfl ?_
  refine ⟨m, nI q, h, rfl, rfl, by omega, ?_⟩
  have eV := cV_put I m (nI q) h
  have hF0 : Fr [19, 20, 21, 22] I (cSput I m (nI q) h) := (((Fr.rfl.up (by decide) _ _).up (by decide) _ _).up (by decide) _ _).up (by decide) _ _
  generalize cSput I m (nI q) h = I0 at eV hF0 ⊢
  have hok0 : LisOk I0 P n := by
    refine ⟨by rw [hF0 4 (by decide)]; exact hpp.1, hn8, fun p hp => ?_, t, by rw [hF0 35 (by decide)]; exact ht, hT.fr (hF0 _ (by decide)) (hF0 _ (by decide))⟩
    have h2 := hpp.2.2 p hp
    rw [eV]
    unfold PerV at h2 ⊢
    unfold sputV
    simp only [up2_n, up2_s, ne_eq, Nat.reduceEqDiff, not_false_eq_true]
    exact h2
  refine x_aload_n dLedger_sayMore_18 rfl ?_
  refine x_iload_n dLedger_sayMore_19 rfl ?_
  -- at 20: .invokevirtual 75
  refine x_callV_1 c_Ledger_listenTo ok_Ledger_listenTo ml_Ledger_75 dLedger_sayMore_20 rfl rfl rfl rfl rfl ?_
  refine ⟨m, n, P, rfl, rfl, by omega, by rw [eV]; exact hsm, hok0, fun I1 hF1 hr ho hco => ?_⟩
  have eV1 : cV I1 = sputV (cV I) m (nI q) h := (cV_fr (hF1.wk (by decide))).trans eV
  rw [eV] at hr
  refine x_aload_n dLedger_sayMore_23 rfl ?_
  refine x_iload_n dLedger_sayMore_24 rfl ?_
  -- at 25: .invokevirtual 131
  obtain ⟨c, hc, ec⟩ := bs_nat (clF (sputV (cV I) m (nI q) h) P m) hn8
  refine x_callV_1 c_Ledger_bindBy ok_Ledger_bindBy ml_Ledger_131 dLedger_sayMore_25 rfl rfl rfl rfl rfl ?_
  refine ⟨m, n, c, P, rfl, rfl, by omega, by rw [eV1]; exact hsm, hr.2.trans ec, hc, hok0.fr (hF1.wk (by decide)), fun I2 hF2 hd hdo => ?_⟩
  have eV2 : cV I2 = sputV (cV I) m (nI q) h := (cV_fr (hF2.wk (by decide))).trans eV1
  rw [eV1, hr.2] at hd
  have hF02 : Fr [19, 20, 21, 22, 33, 34, 36, 37, 38] I I2 := ((hF0.wk (by decide)).tr (hF1.wk (by decide))).tr (hF2.wk (by decide))
  have hrk2 : RK (sputV (cV I) m (nI q) h) P n m I2 := by
    refine hrk.put (nI q) h (fun s hs p hp => ?_) (fun s hs => ?_) (fun s hs p hp => ?_)
    · rw [hF2 36 (by decide), ho _ (by omega), hF0 36 (by decide)]
    · rw [hF2 37 (by decide), hco s (by omega), hF0 37 (by decide)]
    · rw [hdo _ (by omega), hF1 38 (by decide), hF0 38 (by decide)]
  refine x_aload_n dLedger_sayMore_28 rfl ?_
  refine x_iload_n dLedger_sayMore_29 rfl ?_
  refine x_iconst (v := 1) dLedger_sayMore_30 rfl ?_
  refine x_iadd dLedger_sayMore_31 ?_
  refine x_iconst (v := -1) dLedger_sayMore_32 rfl ?_
  -- at 33: .invokevirtual 134
  rw [nI_1]
  refine x_callV_2 c_Ledger_settle ok_Ledger_settle ml_Ledger_134 dLedger_sayMore_33 rfl rfl rfl rfl rfl ?_
  refine ⟨m + 1, n, nq, -1, DD (sputV (cV I) m (nI q) h) P (CC (sputV (cV I) m (nI q) h) P n), rfl, rfl, by rw [hF02 4 (by decide)]; exact hpp.1, hn8, by omega, fun s hs => ?_, hv.fr (hF02 _ (by decide)) (hF02 _ (by decide)), fun p hp s hs => ?_, fun I3 hF3 ho3 => ?_⟩
  · have e19 : I2 19 s = sputV (cV I) m (nI q) h 14 s := by rw [← eV2]; rfl
    rw [e19]
    by_cases z : s = m
    · subst z; exact hsm.1
    · have h3 := (hsv s (by omega)).1
      unfold sputV
      simp only [up2_n, up2_s, ne_eq, Nat.reduceEqDiff, not_false_eq_true, up1, z, if_false]
      exact h3
  · by_cases z : s = m
    · subst z
      exact hd p hp
    · exact hrk2.2 s (by omega) p hp
  have eV3 : cV I3 = sputV (cV I) m (nI q) h := (cV_fr (hF3.wk (by decide))).trans eV2
  rw [eV2] at ho3
  refine x_return dLedger_sayMore_36 rfl ?_
  refine h1 I3 ((hF02.wk (by decide)).tr (hF3.wk (by decide))) eV3 ?_ ?_
  · rw [eV3]
    refine ⟨fun s hs => ?_, fun s hs p hp => ?_⟩
    · unfold HrdRow
      rw [hF3 36 (by decide), hF3 37 (by decide)]
      exact hrk2.1 s hs
    · rw [hF3 38 (by decide)]
      exact hrk2.2 s hs p hp
  · rw [eV3]
    exact ho3
