/-! one moved, lots drawn: the class -/
def sp_Ledger_listenBy : SpT := fun as S I L Post => ∃ (p m n : Nat) (P : Nat → List Int32), as = [.ref 35, .int (nI p)] ∧ S = S1 ∧ I 18 4 = nI m ∧ m ≤ 10 ∧ p < n ∧ (∀ s, s < m → SayV (cV I) s) ∧ LisOk I P n ∧
  ∀ I' : IM, Fr lScr I I' → (∀ s, s < m → I' 37 s = setB (I 37 s) p (clF (cV I) P s p)) → Post none S1 I' L
set_option maxHeartbeats 4000000 in
set_option maxRecDepth 100000 in
theorem c_Ledger_listenBy : Con mLedger_listenBy 5 0 0 sp_Ledger_listenBy := by
  refine con_of_X rfl fun G as S I L Post hs => ?_
  obtain ⟨p, m, n, P, rfl, rfl, hm, hm10, hp, hsv, hok, h1⟩ := hs
  have hn8 := hok.2.1
  refine ⟨1, Nat.le_of_ble_eq_true rfl, ?_⟩
  show X mLedger_listenBy G _ S1 I L 0 [.ref 35, .int (nI p), .null] [] Post
  refine x_iconst (v := 0) dLedger_listenBy_0 rfl ?_
  refine x_istoren_2 dLedger_listenBy_1 rfl rfl ?_
  -- at 2: .iload_n 2
  have loop : ∀ (k i : Nat) (I' : IM), i + k = m → Fr lScr I I' → (∀ s, s < i → I' 37 s = setB (I 37 s) p (clF (cV I) P s p)) → (∀ s, i ≤ s → I' 37 s = I 37 s) → X mLedger_listenBy G (5, 0, 0) S1 I' L 2 [.ref 35, .int (nI p), .int (nI i)] [] Post := by
    intro k
    induction k with
    | zero =>
      intro i I' hi hF hc ho
      obtain rfl : i = m := by omega
      refine x_iload_n dLedger_listenBy_2 rfl ?_
      refine x_aload_n dLedger_listenBy_3 rfl ?_
      refine x_getR fl_Ledger_55 rfl dLedger_listenBy_4 rfl rfl rfl ?_
      refine x_getI fl_Ledger_70 rfl dLedger_listenBy_7 rfl rfl ?_
      -- at 10: .if_icmp .ge 15
      rw [hF 18 (by decide), hm]
      refine x_icmp_ge (tgt := 25) dLedger_listenBy_10 (by decide) (fun _ => ?_) (fun h => absurd (Int32.le_refl _) h)
      refine x_return dLedger_listenBy_25 rfl ?_
      exact h1 I' hF hc
    | succ k ih =>
      intro i I' hi hF hc ho
      have eV : cV I' = cV I := cV_fr (hF.wk (by decide))
      have hok' : LisOk I' P n := hok.fr (hF.wk (by decide))
      obtain ⟨t, ht, hT⟩ := hok'.2.2.2
      refine x_iload_n dLedger_listenBy_2 rfl ?_
      refine x_aload_n dLedger_listenBy_3 rfl ?_
      refine x_getR fl_Ledger_55 rfl dLedger_listenBy_4 rfl rfl rfl ?_
      refine x_getI fl_Ledger_70 rfl dLedger_listenBy_7 rfl rfl ?_
      -- at 10: .if_icmp .ge 15
      rw [hF 18 (by decide), hm]
      refine x_icmp_ge (tgt := 25) dLedger_listenBy_10 (by decide) (fun h => absurd h (nI_ge (b := m) (by omega) (by omega))) (fun _ => ?_)
      refine x_aload_n dLedger_listenBy_13 rfl ?_
      refine x_iload_n dLedger_listenBy_14 rfl ?_
      refine x_iload_n dLedger_listenBy_15 rfl ?_
      -- at 16: .invokevirtual 78
      refine x_callV_2 c_Ledger_listenOne ok_Ledger_listenOne ml_Ledger_78 dLedger_listenBy_16 rfl rfl rfl rfl rfl ?_
      refine ⟨i, p, t, P, rfl, rfl, by omega, by omega, by rw [eV]; exact hsv i (by omega), hok'.2.2.1 p hp, ht, hT, fun I2 hF2 e36 e37 => ?_⟩
      rw [eV] at e37
      refine x_iincp_2 dLedger_listenBy_19 rfl rfl ?_
      refine x_goto (tgt := 2) dLedger_listenBy_22 (by decide) ?_
      -- at 2: .iload_n 2
      rw [nI_1]
      refine ih (i + 1) I2 (by omega) (hF.tr hF2) (fun s hs => ?_) (fun s hs => ?_)
      · rw [e37]
        by_cases e : s = i
        · subst e
          rw [up1, if_pos rfl, ho s (Nat.le_refl _)]
          rfl
        · rw [up1, if_neg e]
          exact hc s (by omega)
      · rw [e37, up1, if_neg (by omega)]
        exact ho s (by omega)
  exact loop m 0 I (by omega) Fr.rfl (fun s hs => absurd hs (Nat.not_lt_zero s)) (fun s _ => rfl)
/-- as if one had moved -/
def mvV (V : IM) (p : Nat) (u : Int32) : IM := up2 V 9 p u
theorem cV_mv (I : IM) (p : Nat) (u : Int32) : cV (up2 I 12 p u) = mvV (cV I) p u := by
  funext a
  by_cases h : a = 9
  · subst h; unfold mvV cV; simp only [up2_n, up2_s, ne_eq, Nat.reduceEqDiff, not_false_eq_true]
  unfold mvV
  rw [up2_n _ _ _ h]
  unfold cV
  split <;> first | rfl | (exfalso; omega) | simp only [up2_n, up2_s, ne_eq, Nat.reduceEqDiff, not_false_eq_true]
theorem hear_mv (V : IM) (P : Nat → List Int32) (p : Nat) (u : Int32) {i : Nat} (hi : i ≠ p) (s : Nat) : hearV (mvV V p u) P s i = hearV V P s i := by
  unfold hearV farV whereV startV mvV
  simp only [up2_n, up2_s, ne_eq, Nat.reduceEqDiff, not_false_eq_true, up1, hi, if_false]
theorem cV_of_mv {I I' : IM} {ks : List Nat} {p : Nat} {x : Int32} (hF : Fr (12 :: ks) I I') (hk : ∀ k ∈ ks, k ∈ cScr) (h12 : I' 12 = up1 (I 12) p x) : cV I' = mvV (cV I) p x := by
  rw [← cV_mv]
  have e : Fr ks (up2 I 12 p x) I' := by
    intro k hkk
    by_cases z : k = 12
    · subst z
      rw [h12, up2_s]
    · rw [up2_n _ _ _ z]
      exact hF k (by simp [z, hkk])
  exact cV_fr (e.wk hk)
/-- how much one would owe in all, had one moved -/
def totU (V : IM) (P : Nat → List Int32) (n nq m p : Nat) (u : Int32) : Int32 := tot1 (mvV V p u) (DD (mvV V p u) P (CC (mvV V p u) P n) p) nq (-1) m p
def sp_Ledger_tryPlaces : SpT := fun as S I L Post => ∃ (p t m n nq : Nat) (P : Nat → List Int32), as = [.ref 35, .int (nI p)] ∧ S = S1 ∧ I 18 4 = nI m ∧ m ≤ 10 ∧ p < n ∧ (∀ s, s < m → SayV (cV I) s) ∧ PplOk I n ∧ I 35 5 = nI t ∧ TxtC I P t ∧ VowOk I nq ∧ Hrd (cV I) P n m I ∧
  ∀ I' : IM, Fr [33, 34, 36, 37, 38, 39, 40, 41, 42, 44] I I' → (∀ u, u < 6 → I' 44 u = totU (cV I) P n nq m p (nI u)) → Post none S1 I' L
abbrev tScr : List Nat := [33, 34, 36, 37, 38, 39, 40, 41, 42, 44]
set_option maxHeartbeats 4000000 in
set_option maxRecDepth 100000 in
theorem c_Ledger_tryPlaces : Con mLedger_tryPlaces 6 0 0 sp_Ledger_tryPlaces := by
  refine con_of_X rfl fun G as S I L Post hs => ?_
  obtain ⟨p, t, m, n, nq, P, rfl, rfl, hm, hm10, hp, hsv, hpp, ht, hT, hv, hh, h1⟩ := hs
  have hn8 := hpp.2.1
  refine ⟨3, Nat.le_of_ble_eq_true rfl, ?_⟩
  show X mLedger_tryPlaces G _ S1 I L 0 [.ref 35, .int (nI p), .null, .null, .null] [] Post
  refine x_aload_n dLedger_tryPlaces_0 rfl ?_
  refine x_getR fl_Ledger_47 rfl dLedger_tryPlaces_1 rfl rfl rfl ?_
  refine x_getR fl_Ledger_224 rfl dLedger_tryPlaces_4 rfl rfl rfl ?_
  refine x_iload_n dLedger_tryPlaces_7 rfl ?_
  refine x_ialdJ dLedger_tryPlaces_8 rfl rfl rfl (by omega) ?_
  refine x_istoren_2 dLedger_tryPlaces_9 rfl rfl ?_
  refine x_iconst (v := 0) dLedger_tryPlaces_10 rfl ?_
  refine x_istoren_3 dLedger_tryPlaces_11 rfl rfl ?_
  -- at 12: .iload_n 3
  have loop : ∀ (k i : Nat) (I' : IM) (a4 : Value), i + k = 6 → Fr (12 :: tScr) I I' → (∃ x, I' 12 = up1 (I 12) p x) → (∀ s, s < m → ∃ b, I' 37 s = bs n (fun j => if j = p then b else clF (cV I) P s j)) → (∀ u, u < i → I' 44 u = totU (cV I) P n nq m p (nI u)) →
      X mLedger_tryPlaces G (6, 0, 0) S1 I' L 12 [.ref 35, .int (nI p), .int (I 12 p), .int (nI i), a4] [] Post := by
    intro k
    induction k with
    | zero =>
      intro i I' a4 hi hF hx hcl hb
      obtain rfl : i = 6 := by omega
      refine x_iload_n dLedger_tryPlaces_12 rfl ?_
      refine x_bipush (v := 6) dLedger_tryPlaces_13 rfl ?_
      -- at 15: .if_icmp .ge 89
      refine x_icmp_ge (tgt := 104) dLedger_tryPlaces_15 (by decide) (fun _ => ?_) (fun h => absurd (by decide) h)
      refine x_aload_n dLedger_tryPlaces_104 rfl ?_
      refine x_getR fl_Ledger_47 rfl dLedger_tryPlaces_105 rfl rfl rfl ?_
      refine x_getR fl_Ledger_224 rfl dLedger_tryPlaces_108 rfl rfl rfl ?_
      refine x_iload_n dLedger_tryPlaces_111 rfl ?_
      refine x_iload_n dLedger_tryPlaces_112 rfl ?_
      refine x_iastJ dLedger_tryPlaces_113 rfl rfl rfl (by omega) ?_
      -- at 114: .return_
      refine x_return dLedger_tryPlaces_114 rfl ?_
      obtain ⟨x, hx⟩ := hx
      refine h1 _ (fun j hj => ?_) (fun u hu => ?_)
      · by_cases z : j = 12
        · subst z
          rw [up2_s, hx]
          funext q
          by_cases y : q = p
          · subst y; simp [up1]
          · simp [up1, y]
        · rw [up2_n _ _ _ z]
          exact hF j (by simp [z]; simpa using hj)
      · simp only [up2_n, up2_s, ne_eq, Nat.reduceEqDiff, not_false_eq_true]
        exact hb u hu
    | succ k ih =>
      intro i I' a4 hi hF hx hcl hb
      obtain ⟨x, hx⟩ := hx
      refine x_iload_n dLedger_tryPlaces_12 rfl ?_
      refine x_bipush (v := 6) dLedger_tryPlaces_13 rfl ?_
      -- at 15: .if_icmp .ge 89
      refine x_icmp_ge (tgt := 104) dLedger_tryPlaces_15 (by decide) (fun h => absurd h (nI_ge (b := 6) (by omega) (by omega))) (fun _ => ?_)
      refine x_aload_n dLedger_tryPlaces_18 rfl ?_
      refine x_getR fl_Ledger_47 rfl dLedger_tryPlaces_19 rfl rfl rfl ?_
      refine x_getR fl_Ledger_224 rfl dLedger_tryPlaces_22 rfl rfl rfl ?_
      refine x_iload_n dLedger_tryPlaces_25 rfl ?_
      refine x_iload_n dLedger_tryPlaces_26 rfl ?_
      refine x_iastJ dLedger_tryPlaces_27 rfl rfl rfl (by omega) ?_
      refine x_aload_n dLedger_tryPlaces_28 rfl ?_
      refine x_iload_n dLedger_tryPlaces_29 rfl ?_
      -- at 30: .invokevirtual 227
      have hF1 : Fr (12 :: tScr) I (up2 I' 12 p (nI i)) := hF.up (by decide) _ _
      have h12 : up2 I' 12 p (nI i) 12 = up1 (I 12) p (nI i) := by
        rw [up2_s, hx]
        funext q
        by_cases y : q = p
        · subst y; simp [up1]
        · simp [up1, y]
      have e37 : up2 I' 12 p (nI i) 37 = I' 37 := by simp only [up2_n, up2_s, ne_eq, Nat.reduceEqDiff, not_false_eq_true]
      have e44 : up2 I' 12 p (nI i) 44 = I' 44 := by simp only [up2_n, up2_s, ne_eq, Nat.reduceEqDiff, not_false_eq_true]
      generalize up2 I' 12 p (nI i) = I1 at hF1 h12 e37 e44 ⊢
      have eV1 : cV I1 = mvV (cV I) p (nI i) := cV_of_mv hF1 (by decide) h12
      have hsv1 : ∀ s, s < m → SayV (mvV (cV I) p (nI i)) s := hsv
      have hpp1 : PplOk I1 n := by
        refine ⟨by rw [hF1 4 (by decide)]; exact hpp.1, hn8, fun j hj => ?_⟩
        obtain ⟨a1, a2, a3, a4⟩ := hpp.2.2 j hj
        rw [eV1]
        refine ⟨a1, a2, a3, ?_⟩
        unfold mvV
        rw [up2_s, up1]
        split
        · exact Or.inr ⟨i, by omega, rfl⟩
        · exact a4
      have hT1 : TxtC I1 P t := hT.fr (hF1 _ (by decide)) (hF1 _ (by decide))
      have hlaw1 : I1 35 5 = nI t := by rw [hF1 35 (by decide)]; exact ht
      refine x_callV_1 c_Ledger_listenBy ok_Ledger_listenBy ml_Ledger_227 dLedger_tryPlaces_30 rfl rfl rfl rfl rfl ?_
      refine ⟨p, m, n, P, rfl, rfl, by rw [hF1 18 (by decide)]; exact hm, hm10, hp, by rw [eV1]; exact hsv1, hpp1.lis2 hlaw1 hT1, fun I2 hF2 hc2 => ?_⟩
      rw [eV1, e37] at hc2
      have eV2 : cV I2 = mvV (cV I) p (nI i) := (cV_fr (hF2.wk (by decide))).trans eV1
      have hcc : ∀ s, s < m → I2 37 s = CC (mvV (cV I) p (nI i)) P n s := by
        intro s hs
        obtain ⟨b, hb2⟩ := hcl s hs
        rw [hc2 s hs, hb2, setB_in _ hp (by omega)]
        refine bs_congr n (fun j hj => ?_)
        by_cases y : j = p
        · subst y; simp
        · simp only [y, if_false]
          unfold clF
          rw [hear_mv _ _ _ _ y]
      have hF02 : Fr (12 :: tScr) I I2 := hF1.tr (hF2.wk (by decide))
      refine x_iconst (v := 0) dLedger_tryPlaces_33 rfl ?_
      refine x_istore_4 dLedger_tryPlaces_34 rfl rfl ?_
      -- at 36: .iload 4
      have loop2 : ∀ (k2 i2 : Nat) (I3 : IM), i2 + k2 = m → Fr [33, 34, 38] I2 I3 → (∀ s, s < i2 → I3 38 (s * 8 + p) = DD (mvV (cV I) p (nI i)) P (CC (mvV (cV I) p (nI i)) P n) p s) →
          X mLedger_tryPlaces G (6, 0, 0) S1 I3 L 36 [.ref 35, .int (nI p), .int (I 12 p), .int (nI i), .int (nI i2)] [] Post := by
        intro k2
        induction k2 with
        | zero =>
          intro i2 I3 hi2 hF3 hd
          obtain rfl : i2 = m := by omega
          have eV3 : cV I3 = mvV (cV I) p (nI i) := (cV_fr (hF3.wk (by decide))).trans eV2
          have hF03 : Fr (12 :: tScr) I I3 := hF02.tr (hF3.wk (by decide))
          refine x_iload dLedger_tryPlaces_36 rfl ?_
          refine x_aload_n dLedger_tryPlaces_38 rfl ?_
          refine x_getR fl_Ledger_55 rfl dLedger_tryPlaces_39 rfl rfl rfl ?_
          refine x_getI fl_Ledger_70 rfl dLedger_tryPlaces_42 rfl rfl ?_
          -- at 45: .if_icmp .ge 28
          rw [hF03 18 (by decide), hm]
          refine x_icmp_ge (tgt := 73) dLedger_tryPlaces_45 (by decide) (fun _ => ?_) (fun h => absurd (Int32.le_refl _) h)
          refine x_aload_n dLedger_tryPlaces_73 rfl ?_
          refine x_iload_n dLedger_tryPlaces_74 rfl ?_
          refine x_aload_n dLedger_tryPlaces_75 rfl ?_
          refine x_getR fl_Ledger_55 rfl dLedger_tryPlaces_76 rfl rfl rfl ?_
          refine x_getI fl_Ledger_70 rfl dLedger_tryPlaces_79 rfl rfl ?_
          refine x_iconst (v := -1) dLedger_tryPlaces_82 rfl ?_
          -- at 83: .invokevirtual 165
          rw [hF03 18 (by decide), hm]
          refine x_callV_3 c_Ledger_settleOne ok_Ledger_settleOne ml_Ledger_165 dLedger_tryPlaces_83 rfl rfl rfl rfl rfl ?_
          refine ⟨p, i2, nq, -1, DD (mvV (cV I) p (nI i)) P (CC (mvV (cV I) p (nI i)) P n) p, rfl, rfl, by omega, by omega, fun s hs => by rw [hF03 19 (by decide)]; exact (hsv s hs).1, hv.fr (hF03 _ (by decide)) (hF03 _ (by decide)), hd, fun I4 hF4 ho4 hot => ?_⟩
          rw [eV3] at ho4
          refine x_aload_n dLedger_tryPlaces_86 rfl ?_
          refine x_getR fl_Ledger_40 rfl dLedger_tryPlaces_87 rfl rfl rfl ?_
          refine x_iload_n dLedger_tryPlaces_90 rfl ?_
          refine x_aload_n dLedger_tryPlaces_91 rfl ?_
          refine x_getR fl_Ledger_28 rfl dLedger_tryPlaces_92 rfl rfl rfl ?_
          refine x_iload_n dLedger_tryPlaces_95 rfl ?_
          refine x_ialdJ dLedger_tryPlaces_96 rfl rfl rfl (by omega) ?_
          refine x_iastJ dLedger_tryPlaces_97 rfl rfl rfl (by omega) ?_
          refine x_iincp_3 dLedger_tryPlaces_98 rfl rfl ?_
          refine x_goto (tgt := 12) dLedger_tryPlaces_101 (by decide) ?_
          -- at 12: .iload_n 3
          rw [nI_1, ho4.2.2.2]
          refine ih (i + 1) _ _ (by omega) ((hF03.tr (hF4.wk (by decide))).up (by decide) _ _) ⟨nI i, ?_⟩ (fun s hs => ⟨clF (mvV (cV I) p (nI i)) P s p, ?_⟩) (fun u hu => ?_)
          · simp only [up2_n, up2_s, ne_eq, Nat.reduceEqDiff, not_false_eq_true]
            rw [hF4 12 (by decide), hF3 12 (by decide), hF2 12 (by decide)]
            exact h12
          · simp only [up2_n, up2_s, ne_eq, Nat.reduceEqDiff, not_false_eq_true]
            rw [hF4 37 (by decide), hF3 37 (by decide), hcc s hs]
            refine bs_congr n (fun j hj => ?_)
            by_cases y : j = p
            · subst y; simp
            · simp only [y, if_false]
              unfold clF
              rw [hear_mv _ _ _ _ y]
          · simp only [up2_n, up2_s, ne_eq, Nat.reduceEqDiff, not_false_eq_true]
            by_cases y : u = i
            · subst y
              rw [up1, if_pos rfl]
              rfl
            · rw [up1, if_neg y, hF4 44 (by decide), hF3 44 (by decide), hF2 44 (by decide), e44]
              exact hb u (by omega)
        | succ k2 ih2 =>
          intro i2 I3 hi2 hF3 hd
          have eV3 : cV I3 = mvV (cV I) p (nI i) := (cV_fr (hF3.wk (by decide))).trans eV2
          have hF03 : Fr (12 :: tScr) I I3 := hF02.tr (hF3.wk (by decide))
          refine x_iload dLedger_tryPlaces_36 rfl ?_
          refine x_aload_n dLedger_tryPlaces_38 rfl ?_
          refine x_getR fl_Ledger_55 rfl dLedger_tryPlaces_39 rfl rfl rfl ?_
          refine x_getI fl_Ledger_70 rfl dLedger_tryPlaces_42 rfl rfl ?_
          -- at 45: .if_icmp .ge 28
          rw [hF03 18 (by decide), hm]
          refine x_icmp_ge (tgt := 73) dLedger_tryPlaces_45 (by decide) (fun h => absurd h (nI_ge (b := m) (by omega) (by omega))) (fun _ => ?_)
          refine x_aload_n dLedger_tryPlaces_48 rfl ?_
          refine x_getR fl_Ledger_22 rfl dLedger_tryPlaces_49 rfl rfl rfl ?_
          refine x_iload dLedger_tryPlaces_52 rfl ?_
          refine x_bipush (v := 8) dLedger_tryPlaces_54 rfl ?_
          refine x_imul dLedger_tryPlaces_56 ?_
          refine x_iload_n dLedger_tryPlaces_57 rfl ?_
          refine x_iadd dLedger_tryPlaces_58 ?_
          refine x_aload_n dLedger_tryPlaces_59 rfl ?_
          refine x_iload dLedger_tryPlaces_60 rfl ?_
          refine x_iload_n dLedger_tryPlaces_62 rfl ?_
          -- at 63: .invokevirtual 137
          obtain ⟨c, hc, ec⟩ := bs_nat (clF (mvV (cV I) p (nI i)) P i2) hn8
          have ec3 : I3 37 i2 = CC (mvV (cV I) p (nI i)) P n i2 := by rw [hF3 37 (by decide)]; exact hcc i2 (by omega)
          refine x_callV_2 c_Ledger_shareOf ok_Ledger_shareOf ml_Ledger_137 dLedger_tryPlaces_63 rfl rfl rfl rfl rfl ?_
          refine ⟨i2, p, t, c, P, rfl, rfl, by omega, by omega, by rw [eV3]; exact hsv1 i2 (by omega), ec3.trans ec, hc, by rw [hF03 35 (by decide)]; exact ht, hT.fr (hF03 _ (by decide)) (hF03 _ (by decide)), fun I4 hF4 => ?_⟩
          rw [eV3, ec3]
          refine x_iastJ (j := i2 * 8 + p) dLedger_tryPlaces_66 rfl rfl (by first | rfl | (simp only [← nI_add, ← pk_mul]; rfl)) (by omega) ?_
          refine x_iincp_4 dLedger_tryPlaces_67 rfl rfl ?_
          refine x_goto (tgt := 36) dLedger_tryPlaces_70 (by decide) ?_
          -- at 36: .iload 4
          rw [nI_1]
          refine ih2 (i2 + 1) _ (by omega) ((hF3.tr (hF4.wk (by decide))).up (by decide) _ _) (fun s hs => ?_)
          simp only [up2_n, up2_s, ne_eq, Nat.reduceEqDiff, not_false_eq_true]
          by_cases y : s = i2
          · subst y
            rw [up1, if_pos rfl]
            rfl
          · rw [up1, if_neg (by omega), hF4 38 (by decide)]
            exact hd s (by omega)
      exact loop2 m 0 I2 (by omega) Fr.rfl (fun s hs => absurd hs (Nat.not_lt_zero s))
  refine loop 6 0 I _ (by omega) Fr.rfl ⟨I 12 p, ?_⟩ (fun s hs => ⟨clF (cV I) P s p, ?_⟩) (fun u hu => absurd hu (Nat.not_lt_zero u))
  · funext q
    by_cases y : q = p
    · subst y; simp [up1]
    · simp [up1, y]
  · rw [(hh s hs).2]
    refine bs_congr n (fun j hj => ?_)
    by_cases y : j = p
    · subst y; simp
    · simp [y]
