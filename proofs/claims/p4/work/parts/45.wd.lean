/-! the class's calls: drawn, odds -/
theorem CDr_eq {V E : IM} {n m : Nat} (h : VEq V E n m) (P : Nat → List Int32) (a : Int64) {s : Nat} (hs : s < m) : CDr V P n a s = CDr E P n a s :=
  bs_congr n (fun p hp => by unfold dF; rw [hear_eq h P hs hp])
def CDE (E : IM) (seed : Int32) : Nat → Int32 := CDr E (PE E) (pN E) (seed + 1).toInt64
def RD (E : IM) (seed : Int32) : Nat → Nat → Int32 := RE E (PE E) (CDE E seed) (-1) (sN E)
def TD (E : IM) (seed : Int32) : Nat → Int32 := TE E (PE E) (CDE E seed) (-1) (sN E)
def OwesD (E : IM) (seed : Int32) (I' : IM) : Prop := OwesN E (DD E (PE E) (CDE E seed)) (pN E) (qN E) (-1) (sN E) I'
theorem OwesD.tot {E I' : IM} {seed : Int32} {p : Nat} (h : OwesD E seed I') (hp : p < pN E) : I' 40 p = TD E seed p := (h p hp).2.2.2
theorem OwesD.rows {I I' : IM} {seed : Int32} (h : OwesD (cE I) seed I') (hok : cOk I) (hF : Fr kScr I I') : Rows I' (pN (cE I)) (RD (cE I) seed) := ⟨by rw [hF 4 (by decide)]; exact hok.1.1, hok.1.2.1, fun p hp => (h p hp).1⟩
abbrev HrdE (I0 I : IM) : Prop := HrdD (cV I0) (PE (cE I0)) (pN (cE I0)) (sN (cE I0)) I
theorem Hrd.toD {V : IM} {P : Nat → List Int32} {n m : Nat} {I : IM} (h : Hrd V P n m I) : HrdD V P n m I := ⟨fun s hs p hp => (h s hs).1 p hp, fun s hs => ⟨clF V P s, (h s hs).2⟩⟩
def spE_draw : SpT := fun as S I L Post => ∃ (seed : Int32) (I0 : IM), as = [.ref 35, .int seed] ∧ S = S1 ∧ cOk I0 ∧ Fr kScr I0 I ∧ I 35 5 = nI (wN (cE I0)) ∧ HrdE I0 I ∧
  ∀ I' : IM, Fr kScr I0 I' → I' 35 5 = nI (wN (cE I0)) → HrdE I0 I' → OwesD (cE I0) seed I' → Post none S1 I' L
theorem cE_draw : Con mLedger_draw 7 0 0 spE_draw := c_Ledger_draw.imp fun as S I L Post hs => by
  obtain ⟨seed, I0, rfl, rfl, hok, hF, hl, hh, h1⟩ := hs
  obtain ⟨b1, b2, b3⟩ := hok.say
  obtain ⟨c1, c2, c3⟩ := hok.ppl
  obtain ⟨-, l2⟩ := hok.law
  refine ⟨seed, wN (cE I0), sN (cE I0), pN (cE I0), qN (cE I0), PE (cE I0), rfl, rfl, by rw [hF 18 (by decide)]; exact b1, b2, fun s hs => ?_, ⟨by rw [hF 4 (by decide)]; exact c1, c2, fun x hx => ?_⟩, hl, (hok.txt l2).fr (hF _ (by decide)) (hF _ (by decide)), (hok.vow).fr (hF _ (by decide)) (hF _ (by decide)), ?_, fun I' hF2 hd ho => ?_⟩
  · rw [cV_k hF]
    exact b3 s hs
  · rw [cV_k hF]
    exact c3 x hx
  · rw [cV_k hF]
    exact hh
  · rw [cV_k hF] at hd ho
    refine h1 I' (hF.tr (hF2.wk (by decide))) ?_ hd (owes_eq (cVE I0) (Nat.le_refl _) (fun p hp s hs => by unfold DD; rw [share_eq (cVE I0) _ hs, CDr_eq (cVE I0) _ _ hs]; rfl) ho)
    rw [hF2 35 (by decide)]
    exact hl
abbrev drwC (seed w : Int32) : Prop := inR seed 0 99999 ∧ inR w 0 2
def drawnS (E : IM) (seed w : Int32) : Int32 := if ¬ drwC seed w then -2 else outE E (PE E) (RD E seed) (TD E seed) w
def sp_W_drawn : SpT := fun as S I L Post => ∃ seed w : Int32, cSp [.int seed, .int w] (fun E => .int (drawnS E seed w)) (fun E => E) as S I L Post
set_option maxHeartbeats 4000000 in
set_option maxRecDepth 100000 in
theorem c_W_drawn : Con mW_drawn 8 0 0 sp_W_drawn := by
  refine con_of_X rfl fun G as S I L Post hs => ?_
  obtain ⟨seed, w, rfl, rfl, hok, h1⟩ := hs
  dsimp only at h1
  refine ⟨0, Nat.le_of_ble_eq_true rfl, ?_⟩
  show X mW_drawn G _ S1 I L 0 [.ref 0, .int seed, .int w] [] Post
  obtain ⟨v1, v2, -⟩ := hok.vow
  obtain ⟨l1, l2⟩ := hok.law
  have bad : ¬ drwC seed w → X mW_drawn G (8, 0, 0) S1 I L 20 [.ref 0, .int seed, .int w] [] Post := by
    intro hc
    rw [drawnS, if_pos hc] at h1
    refine x_bipush (v := -2) dW_drawn_20 rfl ?_
    -- at 22: .ireturn
    refine x_ireturn dW_drawn_22 rfl rfl ?_
    exact h1 I (fun _ _ => rfl) rfl
  refine x_iload_n dW_drawn_0 rfl ?_
  refine x_iconst (v := 0) dW_drawn_1 rfl ?_
  refine x_ldcw dW_drawn_2 cn_W_311 ?_
  -- at 5: .invokestatic 101
  refine x_callS_3 c_W_within ok_W_within ml_W_101 dW_drawn_5 rfl rfl ?_
  refine ⟨_, _, _, rfl, fun a1 => ?_, fun a1 => ?_⟩
  · refine x_if_eq (tgt := 20) dW_drawn_8 (by decide) (fun h => absurd h (by decide)) (fun _ => ?_)
    refine x_iload_n dW_drawn_11 rfl ?_
    refine x_iconst (v := 0) dW_drawn_12 rfl ?_
    refine x_iconst (v := 2) dW_drawn_13 rfl ?_
    -- at 14: .invokestatic 101
    refine x_callS_3 c_W_within ok_W_within ml_W_101 dW_drawn_14 rfl rfl ?_
    refine ⟨_, _, _, rfl, fun a2 => ?_, fun a2 => ?_⟩
    · refine x_if_ne (tgt := 23) dW_drawn_17 (by decide) (fun _ => ?_) (fun h => absurd h (by decide))
      rw [drawnS, if_neg (not_not_intro (show drwC seed w from ⟨a1, a2⟩))] at h1
      refine x_aload_n dW_drawn_23 rfl ?_
      refine x_getR fl_W_56 rfl dW_drawn_24 rfl rfl rfl ?_
      refine x_aload_n dW_drawn_27 rfl ?_
      refine x_getR fl_W_47 rfl dW_drawn_28 rfl rfl rfl ?_
      refine x_getI fl_W_127 rfl dW_drawn_31 rfl rfl ?_
      -- at 34: .invokevirtual 205
      rw [l1]
      refine x_callV_1 cE_listen ok_Ledger_listen ml_W_205 dW_drawn_34 rfl rfl rfl rfl rfl ?_
      refine ⟨_, rfl, rfl, hok, l2, fun I1 hF1 hl1 hh _ => ?_⟩
      refine x_aload_n dW_drawn_37 rfl ?_
      refine x_getR fl_W_56 rfl dW_drawn_38 rfl rfl rfl ?_
      refine x_iload_n dW_drawn_41 rfl ?_
      -- at 42: .invokevirtual 312
      refine x_callV_1 cE_draw ok_Ledger_draw ml_W_312 dW_drawn_42 rfl rfl rfl rfl rfl ?_
      refine ⟨seed, I, rfl, rfl, hok, hF1, hl1, hh.toD, fun I2 hF2 hl2 _ ho => ?_⟩
      refine x_aload_n dW_drawn_45 rfl ?_
      refine x_getR fl_W_56 rfl dW_drawn_46 rfl rfl rfl ?_
      refine x_iload_n dW_drawn_49 rfl ?_
      -- at 50: .invokevirtual 238
      refine x_callV_1 c_Ledger_outcome ok_Ledger_outcome ml_W_238 dW_drawn_50 rfl rfl rfl rfl rfl ?_
      refine ⟨_, qN (cE I), wN (cE I), w, _, PE (cE I), rfl, rfl, ho.rows hok hF2, by rw [hF2 13 (by decide)]; exact v1, v2, hl2, (hok.txt l2).fr (hF2 _ (by decide)) (hF2 _ (by decide)), fun I3 hF3 => ?_⟩
      rw [cV_k hF2, out_eq (cVE I) (PE (cE I)) v2 (R' := RD (cE I) seed) (T' := TD (cE I) seed) (fun _ _ _ _ => rfl) (fun p hp => ho.tot hp)]
      have hF4 : Fr kScr I I3 := hF2.tr (hF3.wk (by decide))
      refine x_ireturn dW_drawn_53 rfl rfl ?_
      exact h1 I3 (kstay hF4) (cE_k hF4)
    · refine x_if_ne (tgt := 23) dW_drawn_17 (by decide) (fun h => absurd (by decide) h) (fun _ => ?_)
      exact bad (fun z => a2 z.2)
  · refine x_if_eq (tgt := 20) dW_drawn_8 (by decide) (fun _ => ?_) (fun h => absurd (by decide) h)
    exact bad (fun z => a1 z.1)
def sp_W_commonDivisor : SpT := fun as S I L Post => ∃ a b : Nat, as = [.int (nI a), .int (nI b)] ∧ a ≤ 20 ∧ 1 ≤ b ∧ b ≤ 20 ∧ Post (some (.int (nI (Nat.gcd a b)))) S I L
set_option maxHeartbeats 4000000 in
set_option maxRecDepth 100000 in
theorem c_W_commonDivisor : Con mW_commonDivisor 3 0 0 sp_W_commonDivisor := by
  refine con_of_X rfl fun G as S I L Post hs => ?_
  obtain ⟨a, b, rfl, ha, hb1, hb, h1⟩ := hs
  refine ⟨4, Nat.le_of_ble_eq_true rfl, ?_⟩
  show X mW_commonDivisor G _ S I L 0 [.int (nI a), .int (nI b), .null, .null, .null, .null] [] Post
  refine x_iload_n dW_commonDivisor_0 rfl ?_
  refine x_istoren_2 dW_commonDivisor_1 rfl rfl ?_
  refine x_iload_n dW_commonDivisor_2 rfl ?_
  refine x_istoren_3 dW_commonDivisor_3 rfl rfl ?_
  refine x_iconst (v := 0) dW_commonDivisor_4 rfl ?_
  refine x_istore_4 dW_commonDivisor_5 rfl rfl ?_
  -- at 7: .iload 4
  have hg0 : 0 < Nat.gcd a b := Nat.gcd_pos_of_pos_right a hb1
  have hg1 : Nat.gcd a b ≤ b := Nat.gcd_le_right a hb1
  have fin : ∀ (x y i : Nat) (a5 : Value), x = Nat.gcd a b → X mW_commonDivisor G (3, 0, 0) S I L 34 [.int (nI a), .int (nI b), .int (nI x), .int (nI y), .int (nI i), a5] [] Post := by
    intro x y i a5 hx
    subst hx
    refine x_iconst (v := 1) dW_commonDivisor_34 rfl ?_
    refine x_iload_n dW_commonDivisor_35 rfl ?_
    -- at 36: .invokestatic 266
    refine x_mmax dW_commonDivisor_36 ml_W_266 st_max it_Math co_max rfl rfl ?_
    refine x_eqi (y := nI (Nat.gcd a b)) (imax1n hg0 (by omega)) ?_
    refine x_ireturn dW_commonDivisor_39 rfl rfl ?_
    exact h1
  have loop : ∀ (k x y i : Nat) (a5 : Value), y ≤ k → i + k ≤ 20 → x ≤ 20 → Nat.gcd y x = Nat.gcd a b → X mW_commonDivisor G (3, 0, 0) S I L 7 [.int (nI a), .int (nI b), .int (nI x), .int (nI y), .int (nI i), a5] [] Post := by
    intro k
    induction k with
    | zero =>
      intro x y i a5 hy hi hx hg
      obtain rfl : y = 0 := by omega
      refine x_iload dW_commonDivisor_7 rfl ?_
      refine x_bipush (v := 32) dW_commonDivisor_9 rfl ?_
      -- at 11: .if_icmp .ge 23
      refine x_icmp_ge (tgt := 34) dW_commonDivisor_11 (by decide) (fun h => absurd h (nI_ge (b := 32) (by omega) (by omega))) (fun _ => ?_)
      refine x_iload_n dW_commonDivisor_14 rfl ?_
      -- at 15: .ifCond .le 19
      refine x_if_le (tgt := 34) dW_commonDivisor_15 (by decide) (fun _ => ?_) (fun h => absurd (show nI 0 ≤ (0 : Int32) from Int32.le_refl _) h)
      exact fin x 0 i a5 (by rw [← hg, Nat.gcd_zero_left])
    | succ k ih =>
      intro x y i a5 hy hi hx hg
      refine x_iload dW_commonDivisor_7 rfl ?_
      refine x_bipush (v := 32) dW_commonDivisor_9 rfl ?_
      -- at 11: .if_icmp .ge 23
      refine x_icmp_ge (tgt := 34) dW_commonDivisor_11 (by decide) (fun h => absurd h (nI_ge (b := 32) (by omega) (by omega))) (fun _ => ?_)
      refine x_iload_n dW_commonDivisor_14 rfl ?_
      -- at 15: .ifCond .le 19
      by_cases h0 : y = 0
      · subst h0
        refine x_if_le (tgt := 34) dW_commonDivisor_15 (by decide) (fun _ => ?_) (fun h => absurd (show nI 0 ≤ (0 : Int32) from Int32.le_refl _) h)
        exact fin x 0 i a5 (by rw [← hg, Nat.gcd_zero_left])
      · have hne : ¬ nI y = (0 : Int32) := fun z => h0 ((nI_eq (b := 0) (by omega) (by omega)).mp z)
        refine x_if_le (tgt := 34) dW_commonDivisor_15 (by decide) (fun h => absurd h (nI_ge (a := 0) (by omega) (by omega))) (fun _ => ?_)
        refine x_iload_n dW_commonDivisor_18 rfl ?_
        refine x_iload_n dW_commonDivisor_19 rfl ?_
        refine x_irem dW_commonDivisor_20 hne ?_
        -- at 21: .istore 5
        refine x_eqi (y := nI (x % y)) (pk_rem (by omega) (by omega) (by omega)) ?_
        refine x_istore_5 dW_commonDivisor_21 rfl rfl ?_
        refine x_iload_n dW_commonDivisor_23 rfl ?_
        refine x_istoren_2 dW_commonDivisor_24 rfl rfl ?_
        refine x_iload dW_commonDivisor_25 rfl ?_
        refine x_istoren_3 dW_commonDivisor_27 rfl rfl ?_
        refine x_iincp_4 dW_commonDivisor_28 rfl rfl ?_
        refine x_goto (tgt := 7) dW_commonDivisor_31 (by decide) ?_
        -- at 7: .iload 4
        rw [nI_1]
        have hlt : x % y < y := Nat.mod_lt _ (by omega)
        refine ih y (x % y) (i + 1) _ (by omega) (by omega) (by omega) ?_
        rw [← hg]
        exact (Nat.gcd_rec y x).symm
  exact loop 20 b a 0 _ ha (by omega) hb rfl
def odN (E : IM) (q : Nat) (seed : Int32) (k : Nat) : Nat := match k with
  | 0 => 0
  | j + 1 => if keepsV E (pN E) (RD E (imin (seed + nI j) 99999)) q = true then odN E q seed j + 1 else odN E q seed j
theorem odN_le (E : IM) (q : Nat) (seed : Int32) : ∀ k, odN E q seed k ≤ k := by
  intro k
  induction k with
  | zero => exact Nat.le_refl _
  | succ j ih =>
    rw [odN]
    split <;> omega
abbrev oddC (E : IM) (q seed many part : Int32) : Prop := inR q 0 (E 29 2 - 1) ∧ inR seed 0 99999 ∧ inR many 1 20 ∧ inR part 0 1
def lowV (n m : Nat) (part : Int32) : Int64 := if part = 0 then (nI (n / Nat.gcd n m)).toInt64 else (nI (m / Nat.gcd n m)).toInt64
def oddsS (E : IM) (q seed many part : Int32) : Int64 := if ¬ oddC E q seed many part then -4611686018427387904 else lowV (odN E (cl q) seed (cl many)) (cl many) part
def sp_W_odds : SpT := fun as S I L Post => ∃ q seed many part : Int32, cSp [.int q, .int seed, .int many, .int part] (fun E => .long (oddsS E q seed many part)) (fun E => E) as S I L Post
set_option maxHeartbeats 4000000 in
set_option maxRecDepth 100000 in
theorem c_W_odds : Con mW_odds 8 0 0 sp_W_odds := by
  refine con_of_X rfl fun G as S I0 L Post hs => ?_
  obtain ⟨q0, seed, many, part, rfl, rfl, hok, h1⟩ := hs
  dsimp only at h1
  refine ⟨2, Nat.le_of_ble_eq_true rfl, ?_⟩
  show X mW_odds G _ S1 I0 L 0 [.ref 0, .int q0, .int seed, .int many, .int part, .null, .null] [] Post
  obtain ⟨v1, v2, -⟩ := hok.vow
  obtain ⟨l1, l2⟩ := hok.law
  have bad : ¬ oddC (cE I0) q0 seed many part → X mW_odds G (8, 0, 0) S1 I0 L 42 [.ref 0, .int q0, .int seed, .int many, .int part, .null, .null] [] Post := by
    intro hc
    rw [oddsS, if_pos hc] at h1
    refine x_ldc2 dW_odds_42 cn_W_287 ?_
    -- at 45: .lreturn
    refine x_lreturn dW_odds_45 rfl ?_
    exact h1 I0 (fun _ _ => rfl) rfl
  refine x_aload_n dW_odds_0 rfl ?_
  refine x_getR fl_W_26 rfl dW_odds_1 rfl rfl rfl ?_
  refine x_iload_n dW_odds_4 rfl ?_
  -- at 5: .invokevirtual 174
  refine x_callV_1 c_Vows_has ok_Vows_has ml_W_174 dW_odds_5 rfl rfl rfl rfl rfl ?_
  refine ⟨_, rfl, rfl, fun a1 => ?_, fun a1 => ?_⟩
  · refine x_if_eq (tgt := 42) dW_odds_8 (by decide) (fun h => absurd h (by decide)) (fun _ => ?_)
    refine x_iload_n dW_odds_11 rfl ?_
    refine x_iconst (v := 0) dW_odds_12 rfl ?_
    refine x_ldcw dW_odds_13 cn_W_311 ?_
    -- at 16: .invokestatic 101
    refine x_callS_3 c_W_within ok_W_within ml_W_101 dW_odds_16 rfl rfl ?_
    refine ⟨_, _, _, rfl, fun a2 => ?_, fun a2 => ?_⟩
    · refine x_if_eq (tgt := 42) dW_odds_19 (by decide) (fun h => absurd h (by decide)) (fun _ => ?_)
      refine x_iload_n dW_odds_22 rfl ?_
      refine x_iconst (v := 1) dW_odds_23 rfl ?_
      refine x_bipush (v := 20) dW_odds_24 rfl ?_
      -- at 26: .invokestatic 101
      refine x_callS_3 c_W_within ok_W_within ml_W_101 dW_odds_26 rfl rfl ?_
      refine ⟨_, _, _, rfl, fun a3 => ?_, fun a3 => ?_⟩
      · refine x_if_eq (tgt := 42) dW_odds_29 (by decide) (fun h => absurd h (by decide)) (fun _ => ?_)
        refine x_iload dW_odds_32 rfl ?_
        refine x_iconst (v := 0) dW_odds_34 rfl ?_
        refine x_iconst (v := 1) dW_odds_35 rfl ?_
        -- at 36: .invokestatic 101
        refine x_callS_3 c_W_within ok_W_within ml_W_101 dW_odds_36 rfl rfl ?_
        refine ⟨_, _, _, rfl, fun a4 => ?_, fun a4 => ?_⟩
        · refine x_if_ne (tgt := 46) dW_odds_39 (by decide) (fun _ => ?_) (fun h => absurd h (by decide))
          have a1 : inR q0 0 (cE I0 29 2 - 1) := a1
          have a3 : inR many 1 20 := a3
          rw [oddsS, if_neg (not_not_intro (show oddC (cE I0) q0 seed many part from ⟨a1, a2, a3, a4⟩))] at h1
          rw [show cE I0 29 2 = nI (qN (cE I0)) from v1] at a1
          obtain ⟨q, hq, rfl⟩ := has_nat (by omega) a1
          have hm : ∃ m, 1 ≤ m ∧ m ≤ 20 ∧ many = nI m := by
            obtain ⟨m, hm, e⟩ := inR_of (n := 20) (by decide) (show inR many 0 20 from ⟨Int32.le_trans (by decide) a3.1, a3.2⟩)
            refine ⟨m, ?_, hm, e⟩
            by_cases h0 : m = 0
            · subst h0
              subst e
              exact absurd a3.1 (by decide)
            · omega
          obtain ⟨m, hm1, hm20, rfl⟩ := hm
          rw [cl_nI (by omega), cl_nI (by omega)] at h1
          refine x_aload_n dW_odds_46 rfl ?_
          refine x_getR fl_W_56 rfl dW_odds_47 rfl rfl rfl ?_
          refine x_aload_n dW_odds_50 rfl ?_
          refine x_getR fl_W_47 rfl dW_odds_51 rfl rfl rfl ?_
          refine x_getI fl_W_127 rfl dW_odds_54 rfl rfl ?_
          -- at 57: .invokevirtual 205
          rw [l1]
          refine x_callV_1 cE_listen ok_Ledger_listen ml_W_205 dW_odds_57 rfl rfl rfl rfl rfl ?_
          refine ⟨_, rfl, rfl, hok, l2, fun I1 hF1 hl1 hh _ => ?_⟩
          refine x_iconst (v := 0) dW_odds_60 rfl ?_
          refine x_istore_5 dW_odds_61 rfl rfl ?_
          refine x_iconst (v := 0) dW_odds_63 rfl ?_
          refine x_istore_6 dW_odds_64 rfl rfl ?_
          -- at 66: .iload 6
          have loop : ∀ (k i : Nat) (I : IM), i + k = m → Fr kScr I0 I → I 35 5 = nI (wN (cE I0)) → HrdE I0 I →
              X mW_odds G (8, 0, 0) S1 I L 66 [.ref 0, .int (nI q), .int seed, .int (nI m), .int part, .int (nI (odN (cE I0) q seed i)), .int (nI i)] [] Post := by
            intro k
            induction k with
            | zero =>
              intro i I hi hF hl hh
              obtain rfl : i = m := by omega
              have hle := odN_le (cE I0) q seed i
              have hg0 : 0 < Nat.gcd (odN (cE I0) q seed i) i := Nat.gcd_pos_of_pos_right _ hm1
              have hg1 : Nat.gcd (odN (cE I0) q seed i) i ≤ i := Nat.gcd_le_right _ hm1
              have hgne : ¬ nI (Nat.gcd (odN (cE I0) q seed i) i) = (0 : Int32) := fun z => absurd ((nI_eq (b := 0) (by omega) (by omega)).mp z) (by omega)
              refine x_iload dW_odds_66 rfl ?_
              refine x_iload_n dW_odds_68 rfl ?_
              -- at 69: .if_icmp .ge 40
              refine x_icmp_ge (tgt := 109) dW_odds_69 (by decide) (fun _ => ?_) (fun h => absurd (Int32.le_refl _) h)
              refine x_iload dW_odds_109 rfl ?_
              refine x_iload_n dW_odds_111 rfl ?_
              -- at 112: .invokestatic 318
              refine x_callS_2 c_W_commonDivisor ok_W_commonDivisor ml_W_318 dW_odds_112 rfl rfl ?_
              refine ⟨odN (cE I0) q seed i, i, rfl, by omega, hm1, hm20, ?_⟩
              refine x_istore_6 dW_odds_115 rfl rfl ?_
              refine x_iload dW_odds_117 rfl ?_
              -- at 119: .ifCond .ne 12
              refine x_if_ne (tgt := 131) dW_odds_119 (by decide) (fun c3 => ?_) (fun c3 => ?_)
              · rw [lowV, if_neg c3] at h1
                refine x_iload_n dW_odds_131 rfl ?_
                refine x_iload dW_odds_132 rfl ?_
                refine x_idiv dW_odds_134 hgne ?_
                -- at 135: .i2l
                refine x_eqi (y := nI (i / Nat.gcd (odN (cE I0) q seed i) i)) (pk_div (by omega) (by omega) (by omega)) ?_
                refine x_i2l dW_odds_135 ?_
                -- at 136: .lreturn
                refine x_lreturn dW_odds_136 rfl ?_
                exact h1 I (kstay hF) (cE_k hF)
              · rw [lowV, if_pos c3] at h1
                refine x_iload dW_odds_122 rfl ?_
                refine x_iload dW_odds_124 rfl ?_
                refine x_idiv dW_odds_126 hgne ?_
                -- at 127: .i2l
                refine x_eqi (y := nI (odN (cE I0) q seed i / Nat.gcd (odN (cE I0) q seed i) i)) (pk_div (by omega) (by omega) (by omega)) ?_
                refine x_i2l dW_odds_127 ?_
                refine x_goto (tgt := 136) dW_odds_128 (by decide) ?_
                -- at 136: .lreturn
                refine x_lreturn dW_odds_136 rfl ?_
                exact h1 I (kstay hF) (cE_k hF)
            | succ k ih =>
              intro i I hi hF hl hh
              refine x_iload dW_odds_66 rfl ?_
              refine x_iload_n dW_odds_68 rfl ?_
              -- at 69: .if_icmp .ge 40
              refine x_icmp_ge (tgt := 109) dW_odds_69 (by decide) (fun h => absurd h (nI_ge (b := m) (by omega) (by omega))) (fun _ => ?_)
              refine x_aload_n dW_odds_72 rfl ?_
              refine x_getR fl_W_56 rfl dW_odds_73 rfl rfl rfl ?_
              refine x_iload_n dW_odds_76 rfl ?_
              refine x_iload dW_odds_77 rfl ?_
              refine x_iadd dW_odds_79 ?_
              refine x_ldcw dW_odds_80 cn_W_311 ?_
              -- at 83: .invokestatic 315
              refine x_mmin dW_odds_83 ml_W_315 st_min it_Math co_min rfl rfl ?_
              refine x_eqi (y := imin (seed + nI i) 99999) rfl ?_
              refine x_callV_1 cE_draw ok_Ledger_draw ml_W_312 dW_odds_86 rfl rfl rfl rfl rfl ?_
              refine ⟨_, I0, rfl, rfl, hok, hF, hl, hh, fun I2 hF2 hl2 hh2 ho => ?_⟩
              refine x_aload_n dW_odds_89 rfl ?_
              refine x_getR fl_W_56 rfl dW_odds_90 rfl rfl rfl ?_
              refine x_iload_n dW_odds_93 rfl ?_
              -- at 94: .invokevirtual 248
              refine x_callV_1 c_Ledger_keeps ok_Ledger_keeps ml_W_248 dW_odds_94 rfl rfl rfl rfl rfl ?_
              have ek : keepsV (cV I2) (pN (cE I0)) (RD (cE I0) (imin (seed + nI i) 99999)) q = keepsV (cE I0) (pN (cE I0)) (RD (cE I0) (imin (seed + nI i) 99999)) q := by
                rw [cV_k hF2]
                exact keeps_eq (cVE I0) _ (fun _ _ => rfl)
              refine ⟨q, _, _, rfl, rfl, by omega, ho.rows hok hF2, fun g => ?_, fun g => ?_⟩
              · rw [ek] at g
                refine x_if_eq (tgt := 103) dW_odds_97 (by decide) (fun h => absurd h (by decide)) (fun _ => ?_)
                refine x_iincp_5 dW_odds_100 rfl rfl ?_
                refine x_iincp_6 dW_odds_103 rfl rfl ?_
                refine x_goto (tgt := 66) dW_odds_106 (by decide) ?_
                -- at 66: .iload 6
                rw [nI_1, nI_1]
                have h3 := ih (i + 1) I2 (by omega) hF2 hl2 hh2
                rw [odN, if_pos g] at h3
                exact h3
              · rw [ek] at g
                refine x_if_eq (tgt := 103) dW_odds_97 (by decide) (fun _ => ?_) (fun h => absurd (by decide) h)
                refine x_iincp_6 dW_odds_103 rfl rfl ?_
                refine x_goto (tgt := 66) dW_odds_106 (by decide) ?_
                -- at 66: .iload 6
                rw [nI_1]
                have h3 := ih (i + 1) I2 (by omega) hF2 hl2 hh2
                rw [odN, if_neg g] at h3
                exact h3
          exact loop m 0 I1 (by omega) hF1 hl1 hh.toD
        · refine x_if_ne (tgt := 46) dW_odds_39 (by decide) (fun h => absurd (by decide) h) (fun _ => ?_)
          exact bad (fun z => a4 z.2.2.2)
      · refine x_if_eq (tgt := 42) dW_odds_29 (by decide) (fun _ => ?_) (fun h => absurd (by decide) h)
        exact bad (fun z => a3 z.2.2.1)
    · refine x_if_eq (tgt := 42) dW_odds_19 (by decide) (fun _ => ?_) (fun h => absurd (by decide) h)
      exact bad (fun z => a2 z.2.1)
  · refine x_if_eq (tgt := 42) dW_odds_8 (by decide) (fun _ => ?_) (fun h => absurd (by decide) h)
    exact bad (fun z => a1 z.1)
