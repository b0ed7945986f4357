/-! the reference's calls: best, foe, loud, spare -/
theorem how_hi : ∀ n, n < 600 → 560 ≤ n → ¬ isHowP (nI n) := by decide +kernel
theorem how_lo : ∀ n, n < 560 → 1 ≤ n → ((rem (nI n / 10) 10 ≤ 5 ∧ 0 < rem (nI n) 10) ↔ isHowP (nI n)) := by decide +kernel
def sp_R_isHow : SpT := fun as S I L Post => ∃ n : Nat, as = [.int (nI n)] ∧ 1 ≤ n ∧ n < 560 ∧ bPost (isHowP (nI n)) S I L Post
set_option maxHeartbeats 4000000 in
set_option maxRecDepth 100000 in
theorem c_R_isHow : Con mR_isHow 2 0 0 sp_R_isHow := by
  refine con_of_X rfl fun G as S I L Post hs => ?_
  obtain ⟨n, rfl, n1, n2, h1, h2⟩ := hs
  refine ⟨0, Nat.le_of_ble_eq_true rfl, ?_⟩
  show X mR_isHow G _ S I L 0 [.int (nI n)] [] Post
  have hh := how_lo n n2 n1
  refine x_iload_n dR_isHow_0 rfl ?_
  refine x_bipush (v := 10) dR_isHow_1 rfl ?_
  refine x_idiv dR_isHow_3 (by decide) ?_
  refine x_bipush (v := 10) dR_isHow_4 rfl ?_
  refine x_irem dR_isHow_6 (by decide) ?_
  refine x_iconst (v := 5) dR_isHow_7 rfl ?_
  -- at 8: .if_icmp .gt 14
  refine x_icmp_gt (tgt := 22) dR_isHow_8 (by decide) (fun c1 => ?_) (fun c1 => ?_)
  · refine x_iconst (v := 0) dR_isHow_22 rfl ?_
    -- at 23: .ireturn
    refine x_ireturn dR_isHow_23 rfl rfl ?_
    exact h2 (fun z => absurd (hh.mpr z).1 (Int32.not_le.mpr c1))
  · refine x_iload_n dR_isHow_11 rfl ?_
    refine x_bipush (v := 10) dR_isHow_12 rfl ?_
    refine x_irem dR_isHow_14 (by decide) ?_
    -- at 15: .ifCond .le 7
    refine x_if_le (tgt := 22) dR_isHow_15 (by decide) (fun c2 => ?_) (fun c2 => ?_)
    · refine x_iconst (v := 0) dR_isHow_22 rfl ?_
      -- at 23: .ireturn
      refine x_ireturn dR_isHow_23 rfl rfl ?_
      exact h2 (fun z => absurd (hh.mpr z).2 (Int32.not_lt.mpr c2))
    · refine x_iconst (v := 1) dR_isHow_18 rfl ?_
      refine x_goto (tgt := 23) dR_isHow_19 (by decide) ?_
      -- at 23: .ireturn
      refine x_ireturn dR_isHow_23 rfl rfl ?_
      exact h1 (hh.mp ⟨Int32.not_lt.mp c1, Int32.not_le.mp c2⟩)
theorem rV_put (I : IM) (m : Nat) (q h : Int32) : rV (rSput I m q h) = sputV (rV I) m q h := by
  funext a
  by_cases h14 : a = 14
  · subst h14; unfold sputV rSput rV; simp only [up2_n, up2_s, ne_eq, Nat.reduceEqDiff, not_false_eq_true]
  by_cases h15 : a = 15
  · subst h15; unfold sputV rSput rV; simp only [up2_n, up2_s, ne_eq, Nat.reduceEqDiff, not_false_eq_true]
  by_cases h16 : a = 16
  · subst h16; unfold sputV rSput rV; simp only [up2_n, up2_s, ne_eq, Nat.reduceEqDiff, not_false_eq_true]
  by_cases h17 : a = 17
  · subst h17; unfold sputV rSput rV; simp only [up2_n, up2_s, ne_eq, Nat.reduceEqDiff, not_false_eq_true]
  unfold sputV
  rw [up2_n _ _ _ h17, up2_n _ _ _ h16, up2_n _ _ _ h15, up2_n _ _ _ h14]
  unfold rV rSput
  split <;> first | rfl | (exfalso; omega) | simp only [up2_n, up2_s, ne_eq, Nat.reduceEqDiff, not_false_eq_true]
theorem mk_up {n m : Nat} (f : Nat → Int32) (x : Int32) (h : n ≤ m) : mk n (up1 f m x) = mk n f := by
  funext i
  unfold mk
  split
  · rw [up1_n _ _ (by omega)]
  · rfl
theorem rE_put (I : IM) (q h : Int32) : rE (rSput I (sN (rE I)) q h) = rE I := by
  have e0 : cl (I 59 17) = sN (rE I) := rfl
  generalize sN (rE I) = m at e0
  have f : ∀ k, k ≠ 74 → k ≠ 75 → k ≠ 76 → k ≠ 77 → rSput I m q h k = I k := fun k h1 h2 h3 h4 => by
    unfold rSput
    rw [up2_n _ _ _ h4, up2_n _ _ _ h3, up2_n _ _ _ h2, up2_n _ _ _ h1]
  have f59 : rSput I m q h 59 = I 59 := f 59 (by decide) (by decide) (by decide) (by decide)
  have f74 : rSput I m q h 74 = up1 (I 74) m q := by unfold rSput; simp only [up2_n, up2_s, ne_eq, Nat.reduceEqDiff, not_false_eq_true]
  have f75 : rSput I m q h 75 = up1 (I 75) m (h / 100) := by unfold rSput; simp only [up2_n, up2_s, ne_eq, Nat.reduceEqDiff, not_false_eq_true]
  have f76 : rSput I m q h 76 = up1 (I 76) m (rem (h / 10) 10) := by unfold rSput; simp only [up2_n, up2_s, ne_eq, Nat.reduceEqDiff, not_false_eq_true]
  have f77 : rSput I m q h 77 = up1 (I 77) m (rem h 10) := by unfold rSput; simp only [up2_n, up2_s, ne_eq, Nat.reduceEqDiff, not_false_eq_true]
  have e29 : rSc (rSput I m q h) = rSc I := by
    funext j
    unfold rSc
    rw [f59]
  funext a
  unfold rE
  rw [e29, f59, f74, f75, f76, f77, e0, mk_up _ _ (Nat.le_refl _), mk_up _ _ (Nat.le_refl _), mk_up _ _ (Nat.le_refl _), mk_up _ _ (Nat.le_refl _)]
  rw [f 60 (by decide) (by decide) (by decide) (by decide), f 61 (by decide) (by decide) (by decide) (by decide), f 62 (by decide) (by decide) (by decide) (by decide), f 63 (by decide) (by decide) (by decide) (by decide), f 64 (by decide) (by decide) (by decide) (by decide), f 65 (by decide) (by decide) (by decide) (by decide), f 66 (by decide) (by decide) (by decide) (by decide), f 67 (by decide) (by decide) (by decide) (by decide), f 68 (by decide) (by decide) (by decide) (by decide), f 69 (by decide) (by decide) (by decide) (by decide), f 70 (by decide) (by decide) (by decide) (by decide), f 71 (by decide) (by decide) (by decide) (by decide), f 72 (by decide) (by decide) (by decide) (by decide), f 73 (by decide) (by decide) (by decide) (by decide), f 78 (by decide) (by decide) (by decide) (by decide), f 79 (by decide) (by decide) (by decide) (by decide), f 80 (by decide) (by decide) (by decide) (by decide), f 81 (by decide) (by decide) (by decide) (by decide), f 82 (by decide) (by decide) (by decide) (by decide), f 83 (by decide) (by decide) (by decide) (by decide), f 84 (by decide) (by decide) (by decide) (by decide), f 85 (by decide) (by decide) (by decide) (by decide), f 86 (by decide) (by decide) (by decide) (by decide), f 87 (by decide) (by decide) (by decide) (by decide), f 88 (by decide) (by decide) (by decide) (by decide), f 89 (by decide) (by decide) (by decide) (by decide), f 90 (by decide) (by decide) (by decide) (by decide)]
theorem rSame.put {I : IM} (own : rOwn I) (q h : Int32) : rSame I (rSput I (sN (rE I)) q h) := by
  refine ⟨fun k hk => ?_, rE_put I q h, ?_⟩
  · unfold rSput
    rw [up2_n _ _ _ (by omega), up2_n _ _ _ (by omega), up2_n _ _ _ (by omega), up2_n _ _ _ (by omega)]
  · exact (((own.up (by decide) (Or.inl (by decide))).up (by decide) (Or.inl (by decide))).up (by decide) (Or.inl (by decide))).up (by decide) (Or.inl (by decide))
/-- with one saying more -/
def Kp1 (I' E : IM) (q : Nat) (h : Int32) : Prop := KpOk I' (M1 E q h) (PE E) (R1 E (wN E) q h) (pN E) (qN E)
theorem TQ_1 (E : IM) (q : Nat) (h : Int32) : TQ (R1 E (wN E) q h) (qN E) = T1 E (wN E) q h := by
  funext p
  exact QV_tot (M1 E q h) (PE E) (pN E) (qN E) (-1) (sN E + 1) p
def sp_R_owesWith : SpT := fun as S I L Post => ∃ (q : Nat) (h : Int32), as = [.ref 59, .int (nI q), .int h] ∧ S = S1 ∧ rOk I ∧ q < qN (rE I) ∧ isHowP h ∧
  ∀ (I' : IM) (L' : LM), rSame I I' → OwesV (M1 (rE I) q h) (PE (rE I)) (pN (rE I)) (qN (rE I)) (-1) (sN (rE I) + 1) I' → Kp1 I' (rE I) q h → Post none S1 I' L'
set_option maxHeartbeats 4000000 in
set_option maxRecDepth 100000 in
theorem c_R_owesWith : Con mR_owesWith 9 0 0 sp_R_owesWith := by
  refine con_of_X rfl fun G as S I L Post hs => ?_
  obtain ⟨q, h, rfl, rfl, ⟨hok, own⟩, hq, hh, h1⟩ := hs
  refine ⟨0, Nat.le_of_ble_eq_true rfl, ?_⟩
  show X mR_owesWith G _ S1 I L 0 [.ref 59, .int (nI q), .int h] [] Post
  have n3 := hok.c.2.1
  have n2 := hok.b.2.1
  refine x_aload_n dR_owesWith_0 rfl ?_
  refine x_aload_n dR_owesWith_1 rfl ?_
  refine x_getI fl_R_158 rfl dR_owesWith_2 rfl rfl ?_
  refine x_iload_n dR_owesWith_5 rfl ?_
  refine x_iload_n dR_owesWith_6 rfl ?_
  -- at 7: .invokevirtual 239
  rw [show I 59 17 = nI (sN (rE I)) from hok.c.1]
  refine x_callV_3 c_R_says ok_R_says ml_R_239 dR_owesWith_7 rfl rfl rfl rfl rfl ?_
  refine ⟨sN (rE I), nI q, h, rfl, rfl, by omega, ?_⟩
  have sm := rSame.put own (nI q) h
  have hok2 := sm.inv hok
  have hrV : rV (rSput I (sN (rE I)) (nI q) h) = sputV (rV I) (sN (rE I)) (nI q) h := rV_put I _ _ _
  generalize rSput I (sN (rE I)) (nI q) h = I2 at sm hok2 hrV
  refine x_aload_n dR_owesWith_10 rfl ?_
  refine x_aload_n dR_owesWith_11 rfl ?_
  refine x_getI fl_R_158 rfl dR_owesWith_12 rfl rfl ?_
  refine x_iconst (v := 1) dR_owesWith_15 rfl ?_
  refine x_iadd dR_owesWith_16 ?_
  -- at 17: .invokevirtual 295
  rw [show I2 59 17 = nI (sN (rE I)) by rw [← sm.2.1]; exact hok2.c.1, nI_1]
  refine x_callV_1 cE_R_owes ok_R_owes ml_R_295 dR_owesWith_17 rfl rfl rfl rfl rfl ?_
  have hV : VEq (rV I2) (M1 (rE I) q h) (pN (rE I)) (sN (rE I) + 1) := by
    rw [hrV]
    exact (rVE I).put (nI q) h
  obtain ⟨k1, k2, k3, k4, k5, k6⟩ := rRk hok2
  rw [sm.2.1] at k1 k2 k3 k4 k5 k6
  have hw := rOw hok2 (sN (rE I) + 1)
  rw [sm.2.1] at hw
  refine ⟨sN (rE I) + 1, pN (rE I), qN (rE I), -1, PE (rE I), M1 (rE I) q h, rfl, rfl, ⟨k1, k2, by omega, k4, fun s hs => ?_, k6⟩, hw, sm.2.2.2.1, sm.2.2.1, hV, fun I' L' hF ho hk => ?_⟩
  · by_cases e : s = sN (rE I)
    · subst e
      rw [hrV]
      obtain ⟨o1, o2, -⟩ := how_ok hh
      unfold SayV sputV
      simp only [up2_n, up2_s, ne_eq, Nat.reduceEqDiff, not_false_eq_true, up1_s]
      exact ⟨⟨q, by omega, rfl⟩, o1, o2⟩
    · exact k5 s (by omega)
  · refine x_return dR_owesWith_20 rfl ?_
    exact h1 I' L' (sm.fr (hF.wk (by decide))) ho hk
