/-! the reference's calls: best, foe, loud, spare -/
theorem how_hi : ∀ n, n < 600 → 560 ≤ n → ¬ isHowP (nI n) := by decide +kernel
theorem how_lo : ∀ n, n < 560 → 1 ≤ n → ((rem (nI n / 10) 10 ≤ 5 ∧ 0 < rem (nI n) 10) ↔ isHowP (nI n)) := by decide +kernel
def sp_R_isHow : SpT := fun as S I L Post => ∃ n : Nat, as = [.int (nI n)] ∧ 1 ≤ n ∧ n < 560 ∧ bPost (isHowP (nI n)) S I L Post
set_option maxHeartbeats 4000000 in
set_option maxRecDepth 100000 in
theorem c_R_isHow : Con mR_isHow 2 0 0 sp_R_isHow := by
  refine con_of_X rfl fun G as S I L Post hs => ?_
  obtain ⟨n, rfl, n1, n2, h1, h2⟩ := hs
  refine ⟨0, Nat.le_of_ble_eq_true rfl, ?_⟩
  show X mR_isHow G _ S I L 0 [.int (nI n)] [] Post
  have hh := how_lo n n2 n1
  refine x_iload_n dR_isHow_0 rfl ?_
  refine x_bipush (v := 10) dR_isHow_1 rfl ?_
  refine x_idiv dR_isHow_3 (by decide) ?_
  refine x_bipush (v := 10) dR_isHow_4 rfl ?_
  refine x_irem dR_isHow_6 (by decide) ?_
  refine x_iconst (v := 5) dR_isHow_7 rfl ?_
  -- at 8: .if_icmp .gt 14
  refine x_icmp_gt (tgt := 22) dR_isHow_8 (by decide) (fun c1 => ?_) (fun c1 => ?_)
  · refine x_iconst (v := 0) dR_isHow_22 rfl ?_
    -- at 23: .ireturn
    refine x_ireturn dR_isHow_23 rfl rfl ?_
    exact h2 (fun z => absurd (hh.mpr z).1 (Int32.not_le.mpr c1))
  · refine x_iload_n dR_isHow_11 rfl ?_
    refine x_bipush (v := 10) dR_isHow_12 rfl ?_
    refine x_irem dR_isHow_14 (by decide) ?_
    -- at 15: .ifCond .le 7
    refine x_if_le (tgt := 22) dR_isHow_15 (by decide) (fun c2 => ?_) (fun c2 => ?_)
    · refine x_iconst (v := 0) dR_isHow_22 rfl ?_
      -- at 23: .ireturn
      refine x_ireturn dR_isHow_23 rfl rfl ?_
      exact h2 (fun z => absurd (hh.mpr z).2 (Int32.not_lt.mpr c2))
    · refine x_iconst (v := 1) dR_isHow_18 rfl ?_
      refine x_goto (tgt := 23) dR_isHow_19 (by decide) ?_
      -- at 23: .ireturn
      refine x_ireturn dR_isHow_23 rfl rfl ?_
      exact h1 (hh.mp ⟨Int32.not_lt.mp c1, Int32.not_le.mp c2⟩)
theorem rV_put (I : IM) (m : Nat) (q h : Int32) : rV (rSput I m q h) = sputV (rV I) m q h := by
  funext a
  by_cases h14 : a = 14
  · subst h14; unfold sputV rSput rV; simp only [up2_n, up2_s, ne_eq, Nat.reduceEqDiff, not_false_eq_true]
  by_cases h15 : a = 15
  · subst h15; unfold sputV rSput rV; simp only [up2_n, up2_s, ne_eq, Nat.reduceEqDiff, not_false_eq_true]
  by_cases h16 : a = 16
  · subst h16; unfold sputV rSput rV; simp only [up2_n, up2_s, ne_eq, Nat.reduceEqDiff, not_false_eq_true]
  by_cases h17 : a = 17
  · subst h17; unfold sputV rSput rV; simp only [up2_n, up2_s, ne_eq, Nat.reduceEqDiff, not_false_eq_true]
  unfold sputV
  rw [up2_n _ _ _ h17, up2_n _ _ _ h16, up2_n _ _ _ h15, up2_n _ _ _ h14]
  unfold rV rSput
  split <;> first | rfl | (exfalso; omega) | simp only [up2_n, up2_s, ne_eq, Nat.reduceEqDiff, not_false_eq_true]
theorem mk_out {n m : Nat} (f : Nat → Int32) (x : Int32) (h : n ≤ m) : mk n (up1 f m x) = mk n f := by
  funext i
  unfold mk
  split
  · rw [up1_n _ _ (by omega)]
  · rfl
theorem rE_put (I : IM) (q h : Int32) : rE (rSput I (sN (rE I)) q h) = rE I := by
  have e0 : cl (I 59 17) = sN (rE I) := rfl
  generalize sN (rE I) = m at e0
  have f : ∀ k, k ≠ 74 → k ≠ 75 → k ≠ 76 → k ≠ 77 → rSput I m q h k = I k := fun k h1 h2 h3 h4 => by
    unfold rSput
    rw [up2_n _ _ _ h4, up2_n _ _ _ h3, up2_n _ _ _ h2, up2_n _ _ _ h1]
  have f59 : rSput I m q h 59 = I 59 := f 59 (by decide) (by decide) (by decide) (by decide)
  have f74 : rSput I m q h 74 = up1 (I 74) m q := by unfold rSput; simp only [up2_n, up2_s, ne_eq, Nat.reduceEqDiff, not_false_eq_true]
  have f75 : rSput I m q h 75 = up1 (I 75) m (h / 100) := by unfold rSput; simp only [up2_n, up2_s, ne_eq, Nat.reduceEqDiff, not_false_eq_true]
  have f76 : rSput I m q h 76 = up1 (I 76) m (rem (h / 10) 10) := by unfold rSput; simp only [up2_n, up2_s, ne_eq, Nat.reduceEqDiff, not_false_eq_true]
  have f77 : rSput I m q h 77 = up1 (I 77) m (rem h 10) := by unfold rSput; simp only [up2_n, up2_s, ne_eq, Nat.reduceEqDiff, not_false_eq_true]
  have e29 : rSc (rSput I m q h) = rSc I := by
    funext j
    unfold rSc
    rw [f59]
  funext a
  unfold rE
  rw [e29, f59, f74, f75, f76, f77, e0, mk_out _ _ (Nat.le_refl _), mk_out _ _ (Nat.le_refl _), mk_out _ _ (Nat.le_refl _), mk_out _ _ (Nat.le_refl _)]
  rw [f 60 (by decide) (by decide) (by decide) (by decide), f 61 (by decide) (by decide) (by decide) (by decide), f 62 (by decide) (by decide) (by decide) (by decide), f 63 (by decide) (by decide) (by decide) (by decide), f 64 (by decide) (by decide) (by decide) (by decide), f 65 (by decide) (by decide) (by decide) (by decide), f 66 (by decide) (by decide) (by decide) (by decide), f 67 (by decide) (by decide) (by decide) (by decide), f 68 (by decide) (by decide) (by decide) (by decide), f 69 (by decide) (by decide) (by decide) (by decide), f 70 (by decide) (by decide) (by decide) (by decide), f 71 (by decide) (by decide) (by decide) (by decide), f 72 (by decide) (by decide) (by decide) (by decide), f 73 (by decide) (by decide) (by decide) (by decide), f 78 (by decide) (by decide) (by decide) (by decide), f 79 (by decide) (by decide) (by decide) (by decide), f 80 (by decide) (by decide) (by decide) (by decide), f 81 (by decide) (by decide) (by decide) (by decide), f 82 (by decide) (by decide) (by decide) (by decide), f 83 (by decide) (by decide) (by decide) (by decide), f 84 (by decide) (by decide) (by decide) (by decide), f 85 (by decide) (by decide) (by decide) (by decide), f 86 (by decide) (by decide) (by decide) (by decide), f 87 (by decide) (by decide) (by decide) (by decide), f 88 (by decide) (by decide) (by decide) (by decide), f 89 (by decide) (by decide) (by decide) (by decide), f 90 (by decide) (by decide) (by decide) (by decide)]
theorem rSame.put {I : IM} (own : rOwn I) (q h : Int32) : rSame I (rSput I (sN (rE I)) q h) := by
  refine ⟨fun k hk => ?_, rE_put I q h, ?_⟩
  · unfold rSput
    rw [up2_n _ _ _ (by omega), up2_n _ _ _ (by omega), up2_n _ _ _ (by omega), up2_n _ _ _ (by omega)]
  · exact (((own.up (by decide) (Or.inl (by decide))).up (by decide) (Or.inl (by decide))).up (by decide) (Or.inl (by decide))).up (by decide) (Or.inl (by decide))
/-- with one saying more -/
def Kp1 (I' E : IM) (q : Nat) (h : Int32) : Prop := KpOk I' (M1 E q h) (PE E) (R1 E (wN E) q h) (pN E) (qN E)
theorem TQ_1 (E : IM) (q : Nat) (h : Int32) : TQ (R1 E (wN E) q h) (qN E) = T1 E (wN E) q h := by
  funext p
  exact QV_tot (M1 E q h) (PE E) (pN E) (qN E) (-1) (sN E + 1) p
def sp_R_owesWith : SpT := fun as S I L Post => ∃ (q : Nat) (h : Int32), as = [.ref 59, .int (nI q), .int h] ∧ S = S1 ∧ rOk I ∧ q < qN (rE I) ∧ isHowP h ∧
  ∀ (I' : IM) (L' : LM), rSame I I' → OwesV (M1 (rE I) q h) (PE (rE I)) (pN (rE I)) (qN (rE I)) (-1) (sN (rE I) + 1) I' → Kp1 I' (rE I) q h → Post none S1 I' L'
set_option maxHeartbeats 4000000 in
set_option maxRecDepth 100000 in
theorem c_R_owesWith : Con mR_owesWith 9 0 0 sp_R_owesWith := by
  refine con_of_X rfl fun G as S I L Post hs => ?_
  obtain ⟨q, h, rfl, rfl, ⟨hok, own⟩, hq, hh, h1⟩ := hs
  refine ⟨0, Nat.le_of_ble_eq_true rfl, ?_⟩
  show X mR_owesWith G _ S1 I L 0 [.ref 59, .int (nI q), .int h] [] Post
  have n3 := hok.c.2.1
  have n2 := hok.b.2.1
  refine x_aload_n dR_owesWith_0 rfl ?_
  refine x_aload_n dR_owesWith_1 rfl ?_
  refine x_getI fl_R_158 rfl dR_owesWith_2 rfl rfl ?_
  refine x_iload_n dR_owesWith_5 rfl ?_
  refine x_iload_n dR_owesWith_6 rfl ?_
  -- at 7: .invokevirtual 239
  rw [show I 59 17 = nI (sN (rE I)) from hok.c.1]
  refine x_callV_3 c_R_says ok_R_says ml_R_239 dR_owesWith_7 rfl rfl rfl rfl rfl ?_
  refine ⟨sN (rE I), nI q, h, rfl, rfl, by omega, ?_⟩
  have sm := rSame.put own (nI q) h
  have hok2 := sm.inv hok
  have hrV : rV (rSput I (sN (rE I)) (nI q) h) = sputV (rV I) (sN (rE I)) (nI q) h := rV_put I _ _ _
  generalize rSput I (sN (rE I)) (nI q) h = I2 at sm hok2 hrV
  refine x_aload_n dR_owesWith_10 rfl ?_
  refine x_aload_n dR_owesWith_11 rfl ?_
  refine x_getI fl_R_158 rfl dR_owesWith_12 rfl rfl ?_
  refine x_iconst (v := 1) dR_owesWith_15 rfl ?_
  refine x_iadd dR_owesWith_16 ?_
  -- at 17: .invokevirtual 295
  rw [show I2 59 17 = nI (sN (rE I)) by rw [← sm.2.1]; exact hok2.c.1, nI_1]
  refine x_callV_1 cE_R_owes ok_R_owes ml_R_295 dR_owesWith_17 rfl rfl rfl rfl rfl ?_
  have hV : VEq (rV I2) (M1 (rE I) q h) (pN (rE I)) (sN (rE I) + 1) := by
    rw [hrV]
    exact (rVE I).put (nI q) h
  obtain ⟨k1, k2, k3, k4, k5, k6⟩ := rRk hok2
  rw [sm.2.1] at k1 k2 k3 k4 k5 k6
  have hw := rOw hok2 (sN (rE I) + 1)
  rw [sm.2.1] at hw
  refine ⟨sN (rE I) + 1, pN (rE I), qN (rE I), -1, PE (rE I), M1 (rE I) q h, rfl, rfl, ⟨k1, k2, by omega, k4, fun s hs => ?_, k6⟩, hw, sm.2.2.2.1, sm.2.2.1, hV, fun I' L' hF ho hk => ?_⟩
  · by_cases e : s = sN (rE I)
    · subst e
      rw [hrV]
      obtain ⟨o1, o2, -⟩ := how_ok hh
      unfold SayV sputV
      simp only [up2_n, up2_s, ne_eq, Nat.reduceEqDiff, not_false_eq_true, up1_s]
      exact ⟨⟨q, by omega, rfl⟩, o1, o2⟩
    · exact k5 s (by omega)
  · refine x_return dR_owesWith_20 rfl ?_
    exact h1 I' L' (sm.fr (hF.wk (by decide))) ho hk
theorem Kp1.q {I' E : IM} {q : Nat} {h : Int32} (hk : Kp1 I' E q h) : I' 59 12 = nI (qN E) := hk.2.2.2.1
theorem best_hi (E : IM) (t q : Nat) : ∀ d, d ≤ 40 → bestF E t q (560 + d) = bestF E t q 560 := by
  intro d
  induction d with
  | zero => intro _; rfl
  | succ k ih =>
    intro h
    rw [← Nat.add_assoc, bestF, if_pos (how_hi (560 + k) (by omega) (by omega)), ih (by omega)]
def sp_R_best : SpT := fun as S I L Post => ∃ q w : Int32, rSp [.int q, .int w] (fun E => .int (bestS E q w)) (fun E => E) as S I L Post
set_option maxHeartbeats 4000000 in
set_option maxRecDepth 100000 in
theorem c_R_best : Con mR_best 10 0 0 sp_R_best := by
  refine con_of_X rfl fun G as S I L Post hs => ?_
  obtain ⟨q, w, rfl, rfl, ⟨hok, own⟩, h1⟩ := hs
  dsimp only at h1
  have h1 := r_end h1
  refine ⟨3, Nat.le_of_ble_eq_true rfl, ?_⟩
  show X mR_best G _ S1 I L 0 [.ref 59, .int q, .int w, .null, .null, .null] [] Post
  have n2 := hok.b.2.1
  refine x_aload_n dR_best_0 rfl ?_
  refine x_iload_n dR_best_1 rfl ?_
  -- at 2: .invokevirtual 236
  refine x_callV_1 c_R_isPromise ok_R_isPromise ml_R_236 dR_best_2 rfl rfl rfl rfl rfl ?_
  refine ⟨_, rfl, rfl, fun a1 => ?_, fun a1 => ?_⟩
  · have a1 : inR q 0 (rE I 29 2 - 1) := a1
    refine x_if_ne (tgt := 11) dR_best_5 (by decide) (fun _ => ?_) (fun h => absurd h (by decide))
    rw [bestS, if_neg (not_not_intro a1)] at h1
    rw [show rE I 29 2 = nI (qN (rE I)) from hok.b.1] at a1
    obtain ⟨j, hj, rfl⟩ := has_nat (by omega) a1
    rw [cl_nI (by omega)] at h1
    refine x_iload_n dR_best_11 rfl ?_
    refine x_iconst (v := 0) dR_best_12 rfl ?_
    refine x_iconst (v := 1) dR_best_13 rfl ?_
    -- at 14: .invokestatic 151
    refine x_callS_3 c_R_in ok_R_in ml_R_151 dR_best_14 rfl rfl ?_
    refine ⟨_, _, _, rfl, fun a2 => ?_, fun a2 => ?_⟩
    · have a2 : inR w 0 1 := a2
      refine x_if_ne (tgt := 23) dR_best_17 (by decide) (fun _ => ?_) (fun h => absurd h (by decide))
      rw [if_neg (not_not_intro a2), show 600 = 560 + 40 from rfl, best_hi _ _ _ 40 (by omega)] at h1
      refine x_iconst (v := -1) dR_best_23 rfl ?_
      refine x_istoren_3 dR_best_24 rfl rfl ?_
      refine x_iconst (v := -1) dR_best_25 rfl ?_
      refine x_istore_4 dR_best_26 rfl rfl ?_
      refine x_iconst (v := 1) dR_best_28 rfl ?_
      refine x_istore_5 dR_best_29 rfl rfl ?_
      -- at 31: .iload 5
      have loop : ∀ (k i : Nat) (I' : IM) (L' : LM) (a3 a4 : Int32), 1 ≤ i → i + k = 560 → rSame I I' → a4 = (bestF (rE I) (wN (rE I)) j i).1 → a3 = (bestF (rE I) (wN (rE I)) j i).2 →
          X mR_best G (10, 0, 0) S1 I' L' 31 [.ref 59, .int (nI j), .int w, .int a3, .int a4, .int (nI i)] [] Post := by
        intro k
        induction k with
        | zero =>
          intro i I' L' a3 a4 i1 hi sm e4 e3
          obtain rfl : i = 560 := by omega
          refine x_iload dR_best_31 rfl ?_
          refine x_sipush (v := 560) dR_best_33 rfl ?_
          -- at 36: .if_icmp .ge 55
          refine x_icmp_ge (tgt := 91) dR_best_36 (by decide) (fun _ => ?_) (fun h => absurd (by decide) h)
          refine x_iload_n dR_best_91 rfl ?_
          -- at 92: .ifCond .ne 7
          refine x_if_ne (tgt := 99) dR_best_92 (by decide) (fun w0 => ?_) (fun w0 => ?_)
          · refine x_iload dR_best_99 rfl ?_
            -- at 101: .ireturn
            refine x_ireturn dR_best_101 rfl rfl ?_
            rw [if_neg w0, ← e4] at h1
            exact h1 sm
          · refine x_iload_n dR_best_95 rfl ?_
            refine x_goto (tgt := 101) dR_best_96 (by decide) ?_
            -- at 101: .ireturn
            refine x_ireturn dR_best_101 rfl rfl ?_
            rw [if_pos w0, ← e3] at h1
            exact h1 sm
        | succ k ih =>
          intro i I' L' a3 a4 i1 hi sm e4 e3
          have keep : bestF (rE I) (wN (rE I)) j (i + 1) = bestF (rE I) (wN (rE I)) j i → ∀ (I2 : IM) (L2 : LM), rSame I I2 → X mR_best G (10, 0, 0) S1 I2 L2 85 [.ref 59, .int (nI j), .int w, .int a3, .int a4, .int (nI i)] [] Post := by
            intro hb I2 L2 sm2
            refine x_iincp_5 dR_best_85 rfl rfl ?_
            refine x_goto (tgt := 31) dR_best_88 (by decide) ?_
            -- at 31: .iload 5
            rw [nI_1]
            exact ih (i + 1) I2 L2 a3 a4 (by omega) (by omega) sm2 (by rw [hb]; exact e4) (by rw [hb]; exact e3)
          refine x_iload dR_best_31 rfl ?_
          refine x_sipush (v := 560) dR_best_33 rfl ?_
          -- at 36: .if_icmp .ge 55
          refine x_icmp_ge (tgt := 91) dR_best_36 (by decide) (fun h => absurd h (nI_ge (b := 560) (by omega) (by omega))) (fun _ => ?_)
          refine x_iload dR_best_39 rfl ?_
          -- at 41: .invokestatic 322
          refine x_callS_1 c_R_isHow ok_R_isHow ml_R_322 dR_best_41 rfl rfl ?_
          refine ⟨i, rfl, i1, by omega, fun c1 => ?_, fun c1 => ?_⟩
          · refine x_if_eq (tgt := 85) dR_best_44 (by decide) (fun h => absurd h (by decide)) (fun _ => ?_)
            refine x_aload_n dR_best_47 rfl ?_
            refine x_iload_n dR_best_48 rfl ?_
            refine x_iload dR_best_49 rfl ?_
            -- at 51: .invokevirtual 325
            refine x_callV_2 c_R_owesWith ok_R_owesWith ml_R_325 dR_best_51 rfl rfl rfl rfl rfl ?_
            refine ⟨j, nI i, rfl, rfl, ⟨sm.inv hok, sm.2.2⟩, by rw [sm.2.1]; exact hj, c1, fun I2 L2 sm2 _ hk => ?_⟩
            rw [sm.2.1] at hk
            have sm3 := sm.tr sm2
            refine x_aload_n dR_best_54 rfl ?_
            refine x_iload_n dR_best_55 rfl ?_
            -- at 56: .invokevirtual 307
            refine x_callV_1 c_R_isKept ok_R_isKept ml_R_307 dR_best_56 rfl rfl rfl rfl rfl ?_
            refine ⟨j, _, _, _, _, _, rfl, rfl, by omega, hk, fun c2 => ?_, fun c2 => ?_⟩
            · have c2 : keep1 (rE I) (wN (rE I)) j (nI i) = true := c2
              have hs : bestF (rE I) (wN (rE I)) j (i + 1) = if (bestF (rE I) (wN (rE I)) j i).2 = -1 ∨ pain1 (rE I) (wN (rE I)) j (nI i) < (bestF (rE I) (wN (rE I)) j i).1 then (pain1 (rE I) (wN (rE I)) j (nI i), nI i) else bestF (rE I) (wN (rE I)) j i := by
                rw [bestF, if_neg (not_not_intro c1), if_neg (by rw [c2]; decide)]
              rw [← e3, ← e4] at hs
              have epn : painA (M1 (rE I) j (nI i)) (PE (rE I)) (TQ (R1 (rE I) (wN (rE I)) j (nI i)) (qN (rE I))) (pN (rE I)) = pain1 (rE I) (wN (rE I)) j (nI i) := by rw [TQ_1]; rfl
              have take : (a3 = -1 ∨ pain1 (rE I) (wN (rE I)) j (nI i) < a4) → ∀ (I3 : IM) (L3 : LM), rSame I I3 → Kp1 I3 (rE I) j (nI i) → X mR_best G (10, 0, 0) S1 I3 L3 76 [.ref 59, .int (nI j), .int w, .int a3, .int a4, .int (nI i)] [] Post := by
                intro hc I3 L3 sm4 hk3
                rw [if_pos hc] at hs
                refine x_iload dR_best_76 rfl ?_
                refine x_istoren_3 dR_best_78 rfl rfl ?_
                refine x_aload_n dR_best_79 rfl ?_
                -- at 80: .invokevirtual 316
                refine x_callV_0 c_R_painNow ok_R_painNow ml_R_316 dR_best_80 rfl rfl rfl rfl rfl ?_
                refine ⟨_, _, _, _, _, rfl, rfl, hk3, fun I4 hF4 => ?_⟩
                refine x_eqi (y := pain1 (rE I) (wN (rE I)) j (nI i)) epn ?_
                refine x_istore_4 dR_best_83 rfl rfl ?_
                refine x_iincp_5 dR_best_85 rfl rfl ?_
                refine x_goto (tgt := 31) dR_best_88 (by decide) ?_
                -- at 31: .iload 5
                rw [nI_1]
                exact ih (i + 1) I4 L3 _ _ (by omega) (by omega) (sm4.fr (hF4.wk (by decide))) (by rw [hs]) (by rw [hs])
              refine x_if_eq (tgt := 85) dR_best_59 (by decide) (fun h => absurd h (by decide)) (fun _ => ?_)
              refine x_iload_n dR_best_62 rfl ?_
              refine x_iconst (v := -1) dR_best_63 rfl ?_
              -- at 64: .if_icmp .eq 12
              refine x_icmp_eq (tgt := 76) dR_best_64 (by decide) (fun c3 => ?_) (fun c3 => ?_)
              · exact take (Or.inl c3) I2 L2 sm3 hk
              · refine x_aload_n dR_best_67 rfl ?_
                -- at 68: .invokevirtual 316
                refine x_callV_0 c_R_painNow ok_R_painNow ml_R_316 dR_best_68 rfl rfl rfl rfl rfl ?_
                refine ⟨_, _, _, _, _, rfl, rfl, hk, fun I3 hF3 => ?_⟩
                refine x_eqi (y := pain1 (rE I) (wN (rE I)) j (nI i)) epn ?_
                refine x_iload dR_best_71 rfl ?_
                -- at 73: .if_icmp .ge 12
                refine x_icmp_ge (tgt := 85) dR_best_73 (by decide) (fun c4 => ?_) (fun c4 => ?_)
                · exact keep (by rw [hs, if_neg (fun z => z.elim c3 (fun y => Int32.not_lt.mpr c4 y))]) I3 L2 (sm3.fr (hF3.wk (by decide)))
                · exact take (Or.inr (Int32.not_le.mp c4)) I3 L2 (sm3.fr (hF3.wk (by decide))) (hk.fr hF3)
            · have c2 : ¬ keep1 (rE I) (wN (rE I)) j (nI i) = true := c2
              refine x_if_eq (tgt := 85) dR_best_59 (by decide) (fun _ => ?_) (fun h => absurd (by decide) h)
              exact keep (by rw [bestF, if_neg (not_not_intro c1), if_pos (Bool.not_eq_true _ ▸ c2)]) I2 L2 sm3
          · refine x_if_eq (tgt := 85) dR_best_44 (by decide) (fun _ => ?_) (fun h => absurd (by decide) h)
            exact keep (by rw [bestF, if_pos c1]) I' L' sm
      refine loop 559 1 I L (-1) (-1) (Nat.le_refl _) rfl (rSame.refl own) ?_ ?_ <;> rfl
    · have a2 : ¬ inR w 0 1 := a2
      refine x_if_ne (tgt := 23) dR_best_17 (by decide) (fun h => absurd (by decide) h) (fun _ => ?_)
      rw [if_pos a2] at h1
      refine x_bipush (v := -7) dR_best_20 rfl ?_
      -- at 22: .ireturn
      refine x_ireturn dR_best_22 rfl rfl ?_
      exact h1 (rSame.refl own)
  · have a1 : ¬ inR q 0 (rE I 29 2 - 1) := a1
    refine x_if_ne (tgt := 11) dR_best_5 (by decide) (fun h => absurd (by decide) h) (fun _ => ?_)
    rw [bestS, if_pos a1] at h1
    refine x_bipush (v := -5) dR_best_8 rfl ?_
    -- at 10: .ireturn
    refine x_ireturn dR_best_10 rfl rfl ?_
    exact h1 (rSame.refl own)
theorem foe_hi (E : IM) (t p q : Nat) : ∀ d, d ≤ 40 → foeF E t p q (560 + d) = foeF E t p q 560 := by
  intro d
  induction d with
  | zero => intro _; rfl
  | succ k ih =>
    intro h
    rw [← Nat.add_assoc, foeF, if_pos (how_hi (560 + k) (by omega) (by omega)), ih (by omega)]
theorem sum_nn {f : Nat → Int32} (h : r99 f) : ∀ n, n ≤ 8 → rng (sumQ f n) (100 * n + 1) := by
  intro n
  induction n with
  | zero => intro _; exact ⟨0, by omega, rfl⟩
  | succ k ih =>
    intro hk
    obtain ⟨a, ha, ea⟩ := ih (by omega)
    obtain ⟨b, hb, eb⟩ := h k
    rw [sumQ, ea, eb, nI_add]
    exact ⟨a + b, by omega, rfl⟩
/-- what one owes is no less than 0 -/
theorem T1_nn {E : IM} (h : Inv E) (t q : Nat) {p : Nat} (hp : p < pN E) (x : Int32) : 0 ≤ T1 E t q x p := by
  unfold T1
  rw [← tot_sum]
  have hr : r99 (fin1 (M1 E q x) (D1 E t q x p) (qN E) (-1) (sN E + 1) p).1 := by
    refine (cut_keep (str_keep (max_keep (fun s => share_rng _ _ _ _ _) _) _ (fun i hi => ?_) h.b.2.1) ?_ _).1
    · have e : M1 E q x 13 = E 13 := by unfold M1 sputV; simp only [up2_n, up2_s, ne_eq, Nat.reduceEqDiff, not_false_eq_true]
      rw [e]
      exact (h.b.2.2 i hi).2.2.2
    · have e : M1 E q x 8 = E 8 := by unfold M1 sputV; simp only [up2_n, up2_s, ne_eq, Nat.reduceEqDiff, not_false_eq_true]
      rw [e]
      exact (h.a.2.2 p hp).2.2.2.2.2.2.1
  exact rng_nn (sum_nn hr _ h.b.2.1) (by have := h.b.2.1; omega)
theorem how_1 : isHowP (nI 1) := by decide
def sp_R_foe : SpT := fun as S I L Post => ∃ p q w : Int32, rSp [.int p, .int q, .int w] (fun E => .int (foeS E p q w)) (fun E => E) as S I L Post
set_option maxHeartbeats 4000000 in
set_option maxRecDepth 100000 in
theorem c_R_foe : Con mR_foe 10 0 0 sp_R_foe := by
  refine con_of_X rfl fun G as S I L Post hs => ?_
  obtain ⟨p, q, w, rfl, rfl, ⟨hok, own⟩, h1⟩ := hs
  dsimp only at h1
  have h1 := r_end h1
  refine ⟨3, Nat.le_of_ble_eq_true rfl, ?_⟩
  show X mR_foe G _ S1 I L 0 [.ref 59, .int p, .int q, .int w, .null, .null, .null] [] Post
  have n1 := hok.a.2.1
  have n2 := hok.b.2.1
  have bad : (¬ inR p 0 (rE I 29 1 - 1) ∨ ¬ inR q 0 (rE I 29 2 - 1)) → X mR_foe G (10, 0, 0) S1 I L 16 [.ref 59, .int p, .int q, .int w, .null, .null, .null] [] Post := by
    intro hc
    rw [foeS, if_pos hc] at h1
    refine x_bipush (v := -5) dR_foe_16 rfl ?_
    -- at 18: .ireturn
    refine x_ireturn dR_foe_18 rfl rfl ?_
    exact h1 (rSame.refl own)
  refine x_aload_n dR_foe_0 rfl ?_
  refine x_iload_n dR_foe_1 rfl ?_
  -- at 2: .invokevirtual 230
  refine x_callV_1 c_R_isOne ok_R_isOne ml_R_230 dR_foe_2 rfl rfl rfl rfl rfl ?_
  refine ⟨_, rfl, rfl, fun a0 => ?_, fun a0 => ?_⟩
  · refine x_if_eq (tgt := 16) dR_foe_5 (by decide) (fun h => absurd h (by decide)) (fun _ => ?_)
    refine x_aload_n dR_foe_8 rfl ?_
    refine x_iload_n dR_foe_9 rfl ?_
    -- at 10: .invokevirtual 236
    refine x_callV_1 c_R_isPromise ok_R_isPromise ml_R_236 dR_foe_10 rfl rfl rfl rfl rfl ?_
    refine ⟨_, rfl, rfl, fun a1 => ?_, fun a1 => ?_⟩
    · have a0 : inR p 0 (rE I 29 1 - 1) := a0
      have a1 : inR q 0 (rE I 29 2 - 1) := a1
      refine x_if_ne (tgt := 19) dR_foe_13 (by decide) (fun _ => ?_) (fun h => absurd h (by decide))
      rw [foeS, if_neg (fun z => z.elim (fun y => y a0) (fun y => y a1))] at h1
      rw [show rE I 29 1 = nI (pN (rE I)) from hok.a.1] at a0
      rw [show rE I 29 2 = nI (qN (rE I)) from hok.b.1] at a1
      obtain ⟨m, hm, rfl⟩ := has_nat (by omega) a0
      obtain ⟨j, hj, rfl⟩ := has_nat (by omega) a1
      rw [cl_nI (by omega), cl_nI (by omega)] at h1
      refine x_iload_n dR_foe_19 rfl ?_
      refine x_iconst (v := 0) dR_foe_20 rfl ?_
      refine x_iconst (v := 1) dR_foe_21 rfl ?_
      -- at 22: .invokestatic 151
      refine x_callS_3 c_R_in ok_R_in ml_R_151 dR_foe_22 rfl rfl ?_
      refine ⟨_, _, _, rfl, fun a2 => ?_, fun a2 => ?_⟩
      · have a2 : inR w 0 1 := a2
        refine x_if_ne (tgt := 31) dR_foe_25 (by decide) (fun _ => ?_) (fun h => absurd h (by decide))
        rw [if_neg (not_not_intro a2), show 600 = 560 + 40 from rfl, foe_hi _ _ _ _ 40 (by omega)] at h1
        refine x_iconst (v := -1) dR_foe_31 rfl ?_
        refine x_istore_4 dR_foe_32 rfl rfl ?_
        refine x_iconst (v := 0) dR_foe_34 rfl ?_
        refine x_istore_5 dR_foe_35 rfl rfl ?_
        refine x_iconst (v := 1) dR_foe_37 rfl ?_
        refine x_istore_6 dR_foe_38 rfl rfl ?_
        -- at 40: .iload 6
        have loop : ∀ (k i : Nat) (I' : IM) (L' : LM) (a4 a5 : Int32), 1 ≤ i → i + k = 560 → rSame I I' → ((i = 1 ∧ a4 = -1 ∧ a5 = 0) ∨ (2 ≤ i ∧ a5 = (foeF (rE I) (wN (rE I)) m j i).1 ∧ a4 = (foeF (rE I) (wN (rE I)) m j i).2 ∧ ¬ a4 = -1)) →
            X mR_foe G (10, 0, 0) S1 I' L' 40 [.ref 59, .int (nI m), .int (nI j), .int w, .int a4, .int a5, .int (nI i)] [] Post := by
          intro k
          induction k with
          | zero =>
            intro i I' L' a4 a5 i1 hi sm hst
            obtain rfl : i = 560 := by omega
            rcases hst with ⟨z, -⟩ | ⟨-, e5, e4, -⟩
            · exact absurd z (by decide)
            · refine x_iload dR_foe_40 rfl ?_
              refine x_sipush (v := 560) dR_foe_42 rfl ?_
              -- at 45: .if_icmp .ge 51
              refine x_icmp_ge (tgt := 96) dR_foe_45 (by decide) (fun _ => ?_) (fun h => absurd (by decide) h)
              refine x_iload_n dR_foe_96 rfl ?_
              -- at 97: .ifCond .ne 8
              refine x_if_ne (tgt := 105) dR_foe_97 (by decide) (fun w0 => ?_) (fun w0 => ?_)
              · refine x_iload dR_foe_105 rfl ?_
                -- at 107: .ireturn
                refine x_ireturn dR_foe_107 rfl rfl ?_
                rw [if_neg w0, ← e5] at h1
                exact h1 sm
              · refine x_iload dR_foe_100 rfl ?_
                refine x_goto (tgt := 107) dR_foe_102 (by decide) ?_
                -- at 107: .ireturn
                refine x_ireturn dR_foe_107 rfl rfl ?_
                rw [if_pos w0, ← e4] at h1
                exact h1 sm
          | succ k ih =>
            intro i I' L' a4 a5 i1 hi sm hst
            refine x_iload dR_foe_40 rfl ?_
            refine x_sipush (v := 560) dR_foe_42 rfl ?_
            -- at 45: .if_icmp .ge 51
            refine x_icmp_ge (tgt := 96) dR_foe_45 (by decide) (fun h => absurd h (nI_ge (b := 560) (by omega) (by omega))) (fun _ => ?_)
            refine x_iload dR_foe_48 rfl ?_
            -- at 50: .invokestatic 322
            refine x_callS_1 c_R_isHow ok_R_isHow ml_R_322 dR_foe_50 rfl rfl ?_
            refine ⟨i, rfl, i1, by omega, fun c1 => ?_, fun c1 => ?_⟩
            · refine x_if_eq (tgt := 90) dR_foe_53 (by decide) (fun h => absurd h (by decide)) (fun _ => ?_)
              refine x_aload_n dR_foe_56 rfl ?_
              refine x_iload_n dR_foe_57 rfl ?_
              refine x_iload dR_foe_58 rfl ?_
              -- at 60: .invokevirtual 325
              refine x_callV_2 c_R_owesWith ok_R_owesWith ml_R_325 dR_foe_60 rfl rfl rfl rfl rfl ?_
              refine ⟨j, nI i, rfl, rfl, ⟨sm.inv hok, sm.2.2⟩, by rw [sm.2.1]; exact hj, c1, fun I2 L2 sm2 ho hk => ?_⟩
              rw [sm.2.1] at hk ho
              have sm3 := sm.tr sm2
              have et : TQ (R1 (rE I) (wN (rE I)) j (nI i)) (qN (rE I)) m = T1 (rE I) (wN (rE I)) j (nI i) m := congrFun (TQ_1 (rE I) j (nI i)) m
              have hnn := T1_nn hok (wN (rE I)) j hm (nI i)
              have hs : foeF (rE I) (wN (rE I)) m j (i + 1) = if T1 (rE I) (wN (rE I)) j (nI i) m ≤ (foeF (rE I) (wN (rE I)) m j i).1 then foeF (rE I) (wN (rE I)) m j i else (T1 (rE I) (wN (rE I)) j (nI i) m, nI i) := by
                rw [foeF, if_neg (not_not_intro c1)]
              generalize T1 (rE I) (wN (rE I)) j (nI i) m = tt at hs hnn et
              have take : foeF (rE I) (wN (rE I)) m j (i + 1) = (tt, nI i) → X mR_foe G (10, 0, 0) S1 I2 L2 79 [.ref 59, .int (nI m), .int (nI j), .int w, .int a4, .int a5, .int (nI i)] [] Post := by
                intro hc
                refine x_iload dR_foe_79 rfl ?_
                refine x_istore_4 dR_foe_81 rfl rfl ?_
                refine x_aload_n dR_foe_83 rfl ?_
                refine x_iload_n dR_foe_84 rfl ?_
                -- at 85: .invokevirtual 298
                refine x_callV_1 c_R_owedBy ok_R_owedBy ml_R_298 dR_foe_85 rfl rfl rfl rfl rfl ?_
                refine ⟨m, _, _, _, rfl, rfl, hm, n1, hk.q, n2, hk.2.2.2.2.2.1, ?_⟩
                refine x_eqi (y := tt) et ?_
                refine x_istore_5 dR_foe_88 rfl rfl ?_
                refine x_iincp_6 dR_foe_90 rfl rfl ?_
                refine x_goto (tgt := 40) dR_foe_93 (by decide) ?_
                -- at 40: .iload 6
                rw [nI_1]
                refine ih (i + 1) I2 L2 _ _ (by omega) (by omega) sm3 (Or.inr ⟨by omega, by rw [hc], by rw [hc], fun z => ?_⟩)
                have := nI_pos' (n := i) (by omega)
                rw [z] at this
                exact absurd this (by decide)
              refine x_iload dR_foe_63 rfl ?_
              refine x_iconst (v := -1) dR_foe_65 rfl ?_
              -- at 66: .if_icmp .eq 13
              rcases hst with ⟨rfl, rfl, rfl⟩ | ⟨i2, e5, e4, hne⟩
              · refine x_icmp_eq (tgt := 79) dR_foe_66 (by decide) (fun _ => ?_) (fun h => absurd rfl h)
                refine take (by rw [hs, if_neg]; rw [foeF, if_pos (by decide), foeF]; intro z; exact absurd (Int32.le_trans hnn z) (by decide))
              · refine x_icmp_eq (tgt := 79) dR_foe_66 (by decide) (fun h => absurd h hne) (fun _ => ?_)
                refine x_aload_n dR_foe_69 rfl ?_
                refine x_iload_n dR_foe_70 rfl ?_
                -- at 71: .invokevirtual 298
                refine x_callV_1 c_R_owedBy ok_R_owedBy ml_R_298 dR_foe_71 rfl rfl rfl rfl rfl ?_
                refine ⟨m, _, _, _, rfl, rfl, hm, n1, hk.q, n2, hk.2.2.2.2.2.1, ?_⟩
                refine x_eqi (y := tt) et ?_
                refine x_iload dR_foe_74 rfl ?_
                -- at 76: .if_icmp .le 14
                refine x_icmp_le (tgt := 90) dR_foe_76 (by decide) (fun c3 => ?_) (fun c3 => ?_)
                · rw [e5] at c3
                  rw [if_pos c3] at hs
                  refine x_iincp_6 dR_foe_90 rfl rfl ?_
                  refine x_goto (tgt := 40) dR_foe_93 (by decide) ?_
                  -- at 40: .iload 6
                  rw [nI_1]
                  exact ih (i + 1) I2 L2 a4 a5 (by omega) (by omega) sm3 (Or.inr ⟨by omega, by rw [hs]; exact e5, by rw [hs]; exact e4, hne⟩)
                · rw [e5] at c3
                  rw [if_neg c3] at hs
                  exact take hs
            · refine x_if_eq (tgt := 90) dR_foe_53 (by decide) (fun _ => ?_) (fun h => absurd (by decide) h)
              rcases hst with ⟨rfl, rfl, rfl⟩ | ⟨i2, e5, e4, hne⟩
              · exact absurd how_1 c1
              · have hb : foeF (rE I) (wN (rE I)) m j (i + 1) = foeF (rE I) (wN (rE I)) m j i := by rw [foeF, if_pos c1]
                refine x_iincp_6 dR_foe_90 rfl rfl ?_
                refine x_goto (tgt := 40) dR_foe_93 (by decide) ?_
                -- at 40: .iload 6
                rw [nI_1]
                exact ih (i + 1) I' L' a4 a5 (by omega) (by omega) sm (Or.inr ⟨by omega, by rw [hb]; exact e5, by rw [hb]; exact e4, hne⟩)
        exact loop 559 1 I L (-1) 0 (Nat.le_refl _) rfl (rSame.refl own) (Or.inl ⟨rfl, rfl, rfl⟩)
      · have a2 : ¬ inR w 0 1 := a2
        refine x_if_ne (tgt := 31) dR_foe_25 (by decide) (fun h => absurd (by decide) h) (fun _ => ?_)
        rw [if_pos a2] at h1
        refine x_bipush (v := -7) dR_foe_28 rfl ?_
        -- at 30: .ireturn
        refine x_ireturn dR_foe_30 rfl rfl ?_
        exact h1 (rSame.refl own)
    · refine x_if_ne (tgt := 19) dR_foe_13 (by decide) (fun h => absurd (by decide) h) (fun _ => ?_)
      exact bad (Or.inr a1)
  · refine x_if_eq (tgt := 16) dR_foe_5 (by decide) (fun _ => ?_) (fun h => absurd (by decide) h)
    exact bad (Or.inl a0)
def sp_R_loud : SpT := fun as S I L Post => ∃ q u v : Int32, rSp [.int q, .int u, .int v] (fun E => .int (loudS E q u v)) (fun E => E) as S I L Post
set_option maxHeartbeats 4000000 in
set_option maxRecDepth 100000 in
theorem c_R_loud : Con mR_loud 10 0 0 sp_R_loud := by
  refine con_of_X rfl fun G as S I L Post hs => ?_
  obtain ⟨q, u, v, rfl, rfl, ⟨hok, own⟩, h1⟩ := hs
  dsimp only at h1
  have h1 := r_end h1
  refine ⟨1, Nat.le_of_ble_eq_true rfl, ?_⟩
  show X mR_loud G _ S1 I L 0 [.ref 59, .int q, .int u, .int v, .null] [] Post
  have n2 := hok.b.2.1
  refine x_aload_n dR_loud_0 rfl ?_
  refine x_iload_n dR_loud_1 rfl ?_
  -- at 2: .invokevirtual 236
  refine x_callV_1 c_R_isPromise ok_R_isPromise ml_R_236 dR_loud_2 rfl rfl rfl rfl rfl ?_
  refine ⟨_, rfl, rfl, fun a0 => ?_, fun a0 => ?_⟩
  · have a0 : inR q 0 (rE I 29 2 - 1) := a0
    refine x_if_ne (tgt := 11) dR_loud_5 (by decide) (fun _ => ?_) (fun h => absurd h (by decide))
    rw [loudS, if_neg (not_not_intro a0)] at h1
    rw [show rE I 29 2 = nI (qN (rE I)) from hok.b.1] at a0
    obtain ⟨j, hj, rfl⟩ := has_nat (by omega) a0
    rw [cl_nI (by omega)] at h1
    have bad : (¬ inR u 0 5 ∨ ¬ inR v 0 5) → X mR_loud G (10, 0, 0) S1 I L 29 [.ref 59, .int (nI j), .int u, .int v, .null] [] Post := by
      intro hc
      rw [if_pos hc] at h1
      refine x_bipush (v := -7) dR_loud_29 rfl ?_
      -- at 31: .ireturn
      refine x_ireturn dR_loud_31 rfl rfl ?_
      exact h1 (rSame.refl own)
    refine x_iload_n dR_loud_11 rfl ?_
    refine x_iconst (v := 0) dR_loud_12 rfl ?_
    refine x_iconst (v := 5) dR_loud_13 rfl ?_
    -- at 14: .invokestatic 151
    refine x_callS_3 c_R_in ok_R_in ml_R_151 dR_loud_14 rfl rfl ?_
    refine ⟨_, _, _, rfl, fun a1 => ?_, fun a1 => ?_⟩
    · refine x_if_eq (tgt := 29) dR_loud_17 (by decide) (fun h => absurd h (by decide)) (fun _ => ?_)
      refine x_iload_n dR_loud_20 rfl ?_
      refine x_iconst (v := 0) dR_loud_21 rfl ?_
      refine x_iconst (v := 5) dR_loud_22 rfl ?_
      -- at 23: .invokestatic 151
      refine x_callS_3 c_R_in ok_R_in ml_R_151 dR_loud_23 rfl rfl ?_
      refine ⟨_, _, _, rfl, fun a2 => ?_, fun a2 => ?_⟩
      · have a1 : inR u 0 5 := a1
        have a2 : inR v 0 5 := a2
        refine x_if_ne (tgt := 32) dR_loud_26 (by decide) (fun _ => ?_) (fun h => absurd h (by decide))
        rw [if_neg (fun z => z.elim (fun y => y a1) (fun y => y a2))] at h1
        obtain ⟨x, hx, rfl⟩ := inR_of (n := 5) (by decide) a1
        obtain ⟨y, hy, rfl⟩ := inR_of (n := 5) (by decide) a2
        rw [cl_nI (by omega), cl_nI (by omega)] at h1
        refine x_iconst (v := 1) dR_loud_32 rfl ?_
        refine x_istore_4 dR_loud_33 rfl rfl ?_
        -- at 35: .iload 4
        have loop : ∀ (k i : Nat) (I' : IM) (L' : LM), 1 ≤ i → i + k = 10 → rSame I I' → loudR (rE I) (wN (rE I)) j (100 * x + 10 * y) 9 1 = loudR (rE I) (wN (rE I)) j (100 * x + 10 * y) k i → X mR_loud G (10, 0, 0) S1 I' L' 35 [.ref 59, .int (nI j), .int (nI x), .int (nI y), .int (nI i)] [] Post := by
          intro k
          induction k with
          | zero =>
            intro i I' L' i1 hi sm he
            obtain rfl : i = 10 := by omega
            refine x_iload dR_loud_35 rfl ?_
            refine x_bipush (v := 9) dR_loud_37 rfl ?_
            -- at 39: .if_icmp .gt 37
            refine x_icmp_gt (tgt := 76) dR_loud_39 (by decide) (fun _ => ?_) (fun h => absurd (by decide) h)
            refine x_iconst (v := -1) dR_loud_76 rfl ?_
            -- at 77: .ireturn
            refine x_ireturn dR_loud_77 rfl rfl ?_
            rw [he, loudR] at h1
            exact h1 sm
          | succ k ih =>
            intro i I' L' i1 hi sm he
            refine x_iload dR_loud_35 rfl ?_
            refine x_bipush (v := 9) dR_loud_37 rfl ?_
            -- at 39: .if_icmp .gt 37
            refine x_icmp_gt (tgt := 76) dR_loud_39 (by decide) (fun h => absurd h (Int32.not_lt.mpr ((nI_leI (b := 9) (by omega) (by omega)).mpr (by omega)))) (fun _ => ?_)
            refine x_aload_n dR_loud_42 rfl ?_
            refine x_iload_n dR_loud_43 rfl ?_
            refine x_bipush (v := 100) dR_loud_44 rfl ?_
            refine x_iload_n dR_loud_46 rfl ?_
            refine x_imul dR_loud_47 ?_
            refine x_bipush (v := 10) dR_loud_48 rfl ?_
            refine x_iload_n dR_loud_50 rfl ?_
            refine x_imul dR_loud_51 ?_
            refine x_iadd dR_loud_52 ?_
            refine x_iload dR_loud_53 rfl ?_
            refine x_iadd dR_loud_55 ?_
            -- at 56: .invokevirtual 325
            have ee : (100 : Int32) * nI x + 10 * nI y + nI i = nI (100 * x + 10 * y + i) := by
              rw [show (100 : Int32) = nI 100 from rfl, show (10 : Int32) = nI 10 from rfl, pk_mul, pk_mul, nI_add, nI_add]
            rw [ee]
            refine x_callV_2 c_R_owesWith ok_R_owesWith ml_R_325 dR_loud_56 rfl rfl rfl rfl rfl ?_
            refine ⟨j, _, rfl, rfl, ⟨sm.inv hok, sm.2.2⟩, by rw [sm.2.1]; exact hj, how_mk (by omega) (by omega) (by omega) (by omega), fun I2 L2 sm2 ho hk => ?_⟩
            rw [sm.2.1] at hk
            have sm3 := sm.tr sm2
            refine x_aload_n dR_loud_59 rfl ?_
            refine x_iload_n dR_loud_60 rfl ?_
            -- at 61: .invokevirtual 307
            refine x_callV_1 c_R_isKept ok_R_isKept ml_R_307 dR_loud_61 rfl rfl rfl rfl rfl ?_
            refine ⟨j, _, _, _, _, _, rfl, rfl, by omega, hk, fun c2 => ?_, fun c2 => ?_⟩
            · have c2 : keep1 (rE I) (wN (rE I)) j (nI (100 * x + 10 * y + i)) = true := c2
              refine x_if_eq (tgt := 70) dR_loud_64 (by decide) (fun h => absurd h (by decide)) (fun _ => ?_)
              refine x_iload dR_loud_67 rfl ?_
              -- at 69: .ireturn
              refine x_ireturn dR_loud_69 rfl rfl ?_
              rw [he, loudR, if_pos c2] at h1
              exact h1 sm3
            · have c2 : ¬ keep1 (rE I) (wN (rE I)) j (nI (100 * x + 10 * y + i)) = true := c2
              refine x_if_eq (tgt := 70) dR_loud_64 (by decide) (fun _ => ?_) (fun h => absurd (by decide) h)
              refine x_iincp_4 dR_loud_70 rfl rfl ?_
              refine x_goto (tgt := 35) dR_loud_73 (by decide) ?_
              -- at 35: .iload 4
              rw [nI_1]
              refine ih (i + 1) I2 L2 (by omega) (by omega) sm3 ?_
              rw [he, loudR, if_neg c2]
        exact loop 9 1 I L (Nat.le_refl _) rfl (rSame.refl own) rfl
      · refine x_if_ne (tgt := 32) dR_loud_26 (by decide) (fun h => absurd (by decide) h) (fun _ => ?_)
        exact bad (Or.inr a2)
    · refine x_if_eq (tgt := 29) dR_loud_17 (by decide) (fun _ => ?_) (fun h => absurd (by decide) h)
      exact bad (Or.inl a1)
  · have a0 : ¬ inR q 0 (rE I 29 2 - 1) := a0
    refine x_if_ne (tgt := 11) dR_loud_5 (by decide) (fun h => absurd (by decide) h) (fun _ => ?_)
    rw [loudS, if_pos a0] at h1
    refine x_bipush (v := -5) dR_loud_8 rfl ?_
    -- at 10: .ireturn
    refine x_ireturn dR_loud_10 rfl rfl ?_
    exact h1 (rSame.refl own)
theorem RTx.up59 {I : IM} {P : Nat → List Int32} (h : RTx I P) {j : Nat} (hj : j ≠ 27) (x : Int32) : RTx (up2 I 59 j x) P := by
  unfold RTx TxtR at h ⊢
  rw [up2_s, up1_n _ _ (Ne.symm hj), up2_n _ _ _ (by decide), up2_n _ _ _ (by decide)]
  exact h
theorem KpOk.up59 {I V : IM} {P : Nat → List Int32} {Q : Nat → Nat → Int32} {n nq : Nat} (h : KpOk I V P Q n nq) {j : Nat} (hj : j ∉ [3, 12, 27]) (x : Int32) : KpOk (up2 I 59 j x) V P Q n nq := by
  simp only [List.mem_cons, List.not_mem_nil, or_false, not_or] at hj
  obtain ⟨⟨m, h1⟩, h2, h3, h4, h5, h6, h7⟩ := h
  refine ⟨⟨m, by rw [rV_59]; exact h1⟩, by rw [up2_s, up1_n _ _ (by omega)]; exact h2, h3, by rw [up2_s, up1_n _ _ (by omega)]; exact h4, h5, ?_, h7.up59 (by omega) x⟩
  unfold RowR
  rw [up2_n _ _ _ (by decide)]
  exact h6
theorem rSame.but {I I' : IM} (h : rSame I I') : rSame I (up2 I' 59 60 (-1)) := by
  refine ⟨fun k hk => by rw [up2_n _ _ _ (by omega)]; exact h.1 k hk, by rw [rE_59 (by decide)]; exact h.2.1, ?_⟩
  obtain ⟨o1, o2, o3⟩ := h.2.2
  exact ⟨by rw [up2_s, up1_n _ _ (by decide)]; exact o1, by rw [up2_s, up1_s], fun k hk => by rw [up2_n _ _ _ (by decide)]; exact o3 k hk⟩
def sp_R_spare : SpT := rSp [] (fun E => .int (spareS E)) (fun E => E)
set_option maxHeartbeats 4000000 in
set_option maxRecDepth 100000 in
theorem c_R_spare : Con mR_spare 9 0 0 sp_R_spare := by
  refine con_of_X rfl fun G as S I L Post hs => ?_
  obtain ⟨rfl, rfl, ⟨hok, own⟩, h1⟩ := hs
  dsimp only at h1
  have h1 := r_end h1
  refine ⟨3, Nat.le_of_ble_eq_true rfl, ?_⟩
  show X mR_spare G _ S1 I L 0 [.ref 59, .null, .null, .null] [] Post
  have n3 := hok.c.2.1
  refine x_aload_n dR_spare_0 rfl ?_
  refine x_aload_n dR_spare_1 rfl ?_
  refine x_getI fl_R_158 rfl dR_spare_2 rfl rfl ?_
  -- at 5: .invokevirtual 295
  rw [show I 59 17 = nI (sN (rE I)) from hok.c.1]
  refine x_callV_1 cE_R_owesN ok_R_owes ml_R_295 dR_spare_5 rfl rfl rfl rfl rfl ?_
  refine ⟨_, rfl, rfl, hok, own.1, own.2.1, fun I1 L1 hF1 ho1 hk1 => ?_⟩
  refine x_aload_n dR_spare_8 rfl ?_
  -- at 9: .invokevirtual 310
  refine x_callV_0 c_R_keptNow ok_R_keptNow ml_R_310 dR_spare_9 rfl rfl rfl rfl rfl ?_
  refine ⟨_, _, _, _, _, rfl, rfl, hk1, ?_⟩
  refine x_eqi (y := keptA (rE I)) rfl ?_
  have sm1 := (rSame.refl own).fr (hF1.wk (by decide))
  refine x_istoren_1 dR_spare_12 rfl rfl ?_
  refine x_iconst (v := 0) dR_spare_13 rfl ?_
  refine x_istoren_2 dR_spare_14 rfl rfl ?_
  refine x_iconst (v := 0) dR_spare_15 rfl ?_
  refine x_istoren_3 dR_spare_16 rfl rfl ?_
  -- at 17: .iload_n 3
  have loop : ∀ (k i : Nat) (acc : Int32) (I' : IM) (L' : LM), i + k = sN (rE I) → acc = bs i (spareB (rE I)) → rSame I I' → X mR_spare G (9, 0, 0) S1 I' L' 17 [.ref 59, .int (keptA (rE I)), .int acc, .int (nI i)] [] Post := by
    intro k
    induction k with
    | zero =>
      intro i acc I' L' hi ha sm
      have hi : i = sN (rE I) := by omega
      refine x_iload_n dR_spare_17 rfl ?_
      refine x_aload_n dR_spare_18 rfl ?_
      refine x_getI fl_R_158 rfl dR_spare_19 rfl rfl ?_
      -- at 22: .if_icmp .ge 48
      rw [show I' 59 17 = nI (sN (rE I)) by rw [← sm.2.1]; exact (sm.inv hok).c.1]
      refine x_icmp_ge (tgt := 70) dR_spare_22 (by decide) (fun _ => ?_) (fun h => absurd (by rw [hi]; exact Int32.le_refl _) h)
      refine x_iload_n dR_spare_70 rfl ?_
      -- at 71: .ireturn
      refine x_ireturn dR_spare_71 rfl rfl ?_
      rw [ha, hi]
      unfold spareS at h1
      exact h1 sm
    | succ k ih =>
      intro i acc I' L' hi ha sm
      refine x_iload_n dR_spare_17 rfl ?_
      refine x_aload_n dR_spare_18 rfl ?_
      refine x_getI fl_R_158 rfl dR_spare_19 rfl rfl ?_
      -- at 22: .if_icmp .ge 48
      rw [show I' 59 17 = nI (sN (rE I)) by rw [← sm.2.1]; exact (sm.inv hok).c.1]
      refine x_icmp_ge (tgt := 70) dR_spare_22 (by decide) (fun h => absurd h (nI_ge (by omega) (by omega))) (fun _ => ?_)
      refine x_aload_n dR_spare_25 rfl ?_
      refine x_iload_n dR_spare_26 rfl ?_
      refine x_putI fl_R_131 rfl dR_spare_27 (by decide) rfl rfl rfl rfl ?_
      refine x_aload_n dR_spare_30 rfl ?_
      refine x_aload_n dR_spare_31 rfl ?_
      refine x_getI fl_R_158 rfl dR_spare_32 rfl rfl ?_
      -- at 35: .invokevirtual 295
      have e2 : rE (up2 I' 59 60 (nI i)) = rE I := by rw [rE_59 (by decide)]; exact sm.2.1
      rw [show up2 I' 59 60 (nI i) 59 17 = nI (sN (rE (up2 I' 59 60 (nI i)))) by rw [e2, up2_s, up1_n _ _ (by decide), ← sm.2.1]; exact (sm.inv hok).c.1]
      refine x_callV_1 cE_R_owesN ok_R_owes ml_R_295 dR_spare_35 rfl rfl rfl rfl rfl ?_
      refine ⟨nI i, rfl, rfl, by rw [e2]; exact hok, by rw [up2_s, up1_n _ _ (by decide)]; exact sm.2.2.1, by rw [up2_s, up1_s], fun I2 L2 hF2 ho2 hk2 => ?_⟩
      rw [e2] at hk2
      have sm2 : rSame I (up2 I2 59 60 (-1)) := by
        have hF3 : Fr [93, 94, 95, 96, 97, 98, 99] (up2 I' 59 60 (-1)) (up2 I2 59 60 (-1)) := fun k hk => by
          by_cases e : k = 59
          · subst e
            have e59 := hF2 59 (by decide)
            rw [up2_s] at e59
            rw [up2_s, up2_s, e59]
            funext j
            unfold up1
            by_cases e3 : j = 60 <;> simp [e3]
          · rw [up2_n _ _ _ e, up2_n _ _ _ e, hF2 k (fun z => hk (List.mem_cons_of_mem _ (List.mem_append_left [99] z))), up2_n _ _ _ e]
        exact sm.but.fr hF3
      refine x_aload_n dR_spare_38 rfl ?_
      refine x_iconst (v := -1) dR_spare_39 rfl ?_
      refine x_putI fl_R_131 rfl dR_spare_40 (by decide) rfl rfl rfl rfl ?_
      refine x_iload_n dR_spare_43 rfl ?_
      refine x_iload_n dR_spare_44 rfl ?_
      refine x_aload_n dR_spare_45 rfl ?_
      -- at 46: .invokevirtual 310
      refine x_callV_0 c_R_keptNow ok_R_keptNow ml_R_310 dR_spare_46 rfl rfl rfl rfl rfl ?_
      refine ⟨_, _, _, _, _, rfl, rfl, hk2.up59 (by decide) _, ?_⟩
      refine x_eqi (y := keptW (rE I) i) rfl ?_
      refine x_iconst (v := -1) dR_spare_49 rfl ?_
      refine x_ixor dR_spare_50 ?_
      refine x_iand dR_spare_51 ?_
      -- at 52: .ifCond .ne 9
      refine x_if_ne (tgt := 61) dR_spare_52 (by decide) (fun c1 => ?_) (fun c1 => ?_)
      · refine x_iconst (v := 0) dR_spare_61 rfl ?_
        refine x_ior dR_spare_62 ?_
        -- at 63: .istore_n 2
        refine x_eqi (y := acc) (by simp) ?_
        refine x_istoren_2 dR_spare_63 rfl rfl ?_
        refine x_iincp_3 dR_spare_64 rfl rfl ?_
        refine x_goto (tgt := 17) dR_spare_67 (by decide) ?_
        -- at 17: .iload_n 3
        rw [nI_1]
        refine ih (i + 1) _ _ L2 (by omega) ?_ sm2
        rw [bs, if_neg (show ¬ spareB (rE I) i = true from fun z => c1 (of_decide_eq_true z)), ha]
      · refine x_iconst (v := 1) dR_spare_55 rfl ?_
        refine x_iload_n dR_spare_56 rfl ?_
        refine x_ishl dR_spare_57 ?_
        refine x_goto (tgt := 62) dR_spare_58 (by decide) ?_
        refine x_ior dR_spare_62 ?_
        refine x_istoren_2 dR_spare_63 rfl rfl ?_
        refine x_iincp_3 dR_spare_64 rfl rfl ?_
        refine x_goto (tgt := 17) dR_spare_67 (by decide) ?_
        -- at 17: .iload_n 3
        rw [nI_1]
        refine ih (i + 1) _ _ L2 (by omega) ?_ sm2
        rw [bs, if_pos (show spareB (rE I) i = true from decide_eq_true c1), ha]
        rfl
  exact loop _ 0 0 I1 L1 (Nat.zero_add _) rfl sm1
