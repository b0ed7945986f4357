/-! what is done, kept, at what pain: the class -/
def doneA (V : IM) (R : Nat → Nat → Int32) (q n : Nat) : Int32 := match n with
  | 0 => 0
  | p + 1 => if canV V p q then doneA V R q p + R p q else doneA V R q p
def doneV (V : IM) (n : Nat) (R : Nat → Nat → Int32) (q : Nat) : Int32 := imin (doneA V R q n) (V 11 q)
def keepsV (V : IM) (n : Nat) (R : Nat → Nat → Int32) (q : Nat) : Bool := decide (doneV V n R q = V 11 q)
def keptV (V : IM) (n nq : Nat) (R : Nat → Nat → Int32) : Int32 := bs nq (keepsV V n R)
def worthV (V : IM) (n : Nat) (R : Nat → Nat → Int32) (nq : Nat) : Int32 := match nq with
  | 0 => 0
  | q + 1 => if keepsV V n R q then worthV V n R q + V 12 q else worthV V n R q
def painV (V : IM) (P : Nat → List Int32) (T : Nat → Int32) (p : Nat) : Int32 := bnd (valP (nm6 0 0 (V 4 p) (T p) 0 (V 7 p)) (P 2)) 9999
def painA (V : IM) (P : Nat → List Int32) (T : Nat → Int32) (n : Nat) : Int32 := match n with
  | 0 => 0
  | p + 1 => painA V P T p + painV V P T p
def fullV (V : IM) (T : Nat → Int32) (n : Nat) : Int32 := bs n (fun p => decide (T p = V 8 p))
/-- rows of what is owed -/
def Rows (I : IM) (n : Nat) (R : Nat → Nat → Int32) : Prop := I 4 8 = nI n ∧ n ≤ 8 ∧ ∀ p, p < n → eq8 (rowOf I p) (R p)
theorem Rows.fr {I I' : IM} {n : Nat} {R : Nat → Nat → Int32} (h : Rows I n R) (h1 : I' 4 = I 4) (h2 : I' 39 = I 39) : Rows I' n R := by
  unfold Rows rowOf
  rw [h1, h2]
  exact h
def sp_Ledger_doneOf : SpT := fun as S I L Post => ∃ (q n : Nat) (R : Nat → Nat → Int32), as = [.ref 35, .int (nI q)] ∧ S = S1 ∧ q < 8 ∧ Rows I n R ∧ Post (some (.int (doneV (cV I) n R q))) S1 I L
set_option maxHeartbeats 4000000 in
set_option maxRecDepth 100000 in
theorem c_Ledger_doneOf : Con mLedger_doneOf 3 0 0 sp_Ledger_doneOf := by
  refine con_of_X rfl fun G as S I L Post hs => ?_
  obtain ⟨q, n, R, rfl, rfl, hq, hr, h1⟩ := hs
  have hn8 := hr.2.1
  refine ⟨2, Nat.le_of_ble_eq_true rfl, ?_⟩
  show X mLedger_doneOf G _ S1 I L 0 [.ref 35, .int (nI q), .null, .null] [] Post
  refine x_iconst (v := 0) dLedger_doneOf_0 rfl ?_
  refine x_istoren_2 dLedger_doneOf_1 rfl rfl ?_
  refine x_iconst (v := 0) dLedger_doneOf_2 rfl ?_
  refine x_istoren_3 dLedger_doneOf_3 rfl rfl ?_
  -- at 4: .iload_n 3
  have loop : ∀ (k i : Nat) (acc : Int32), i + k = n → acc = doneA (cV I) R q i → X mLedger_doneOf G (3, 0, 0) S1 I L 4 [.ref 35, .int (nI q), .int acc, .int (nI i)] [] Post := by
    intro k
    induction k with
    | zero =>
      intro i acc hi ha
      obtain rfl : i = n := by omega
      refine x_iload_n dLedger_doneOf_4 rfl ?_
      refine x_aload_n dLedger_doneOf_5 rfl ?_
      refine x_getR fl_Ledger_47 rfl dLedger_doneOf_6 rfl rfl rfl ?_
      refine x_getI fl_Ledger_82 rfl dLedger_doneOf_9 rfl rfl ?_
      -- at 12: .if_icmp .ge 43
      rw [hr.1]
      refine x_icmp_ge (tgt := 55) dLedger_doneOf_12 (by decide) (fun _ => ?_) (fun h => absurd (Int32.le_refl _) h)
      refine x_iload_n dLedger_doneOf_55 rfl ?_
      refine x_aload_n dLedger_doneOf_56 rfl ?_
      refine x_getR fl_Ledger_51 rfl dLedger_doneOf_57 rfl rfl rfl ?_
      refine x_getR fl_Ledger_147 rfl dLedger_doneOf_60 rfl rfl rfl ?_
      refine x_iload_n dLedger_doneOf_63 rfl ?_
      refine x_ialdJ dLedger_doneOf_64 rfl rfl rfl (by omega) ?_
      -- at 65: .invokestatic 184
      refine x_mmin dLedger_doneOf_65 ml_Ledger_184 st_min it_Math co_min rfl rfl ?_
      refine x_ireturn dLedger_doneOf_68 rfl rfl ?_
      rw [ha]
      exact h1
    | succ k ih =>
      intro i acc hi ha
      refine x_iload_n dLedger_doneOf_4 rfl ?_
      refine x_aload_n dLedger_doneOf_5 rfl ?_
      refine x_getR fl_Ledger_47 rfl dLedger_doneOf_6 rfl rfl rfl ?_
      refine x_getI fl_Ledger_82 rfl dLedger_doneOf_9 rfl rfl ?_
      -- at 12: .if_icmp .ge 43
      rw [hr.1]
      refine x_icmp_ge (tgt := 55) dLedger_doneOf_12 (by decide) (fun h => absurd h (nI_ge (b := n) (by omega) (by omega))) (fun _ => ?_)
      refine x_aload_n dLedger_doneOf_15 rfl ?_
      refine x_getR fl_Ledger_47 rfl dLedger_doneOf_16 rfl rfl rfl ?_
      refine x_iload_n dLedger_doneOf_19 rfl ?_
      refine x_aload_n dLedger_doneOf_20 rfl ?_
      refine x_getR fl_Ledger_51 rfl dLedger_doneOf_21 rfl rfl rfl ?_
      refine x_getR fl_Ledger_158 rfl dLedger_doneOf_24 rfl rfl rfl ?_
      refine x_iload_n dLedger_doneOf_27 rfl ?_
      refine x_ialdJ dLedger_doneOf_28 rfl rfl rfl (by omega) ?_
      -- at 29: .invokevirtual 161
      refine x_callV_2 c_Folk_canDo ok_Folk_canDo ml_Ledger_161 dLedger_doneOf_29 rfl rfl rfl rfl rfl ?_
      refine ⟨i, _, rfl, rfl, by omega, fun z => ?_, fun z => ?_⟩
      · refine x_if_eq (tgt := 49) dLedger_doneOf_32 (by decide) (fun h => absurd h (by decide)) (fun _ => ?_)
        refine x_iload_n dLedger_doneOf_35 rfl ?_
        refine x_aload_n dLedger_doneOf_36 rfl ?_
        refine x_getR fl_Ledger_25 rfl dLedger_doneOf_37 rfl rfl rfl ?_
        refine x_iload_n dLedger_doneOf_40 rfl ?_
        refine x_bipush (v := 8) dLedger_doneOf_41 rfl ?_
        refine x_imul dLedger_doneOf_43 ?_
        refine x_iload_n dLedger_doneOf_44 rfl ?_
        refine x_iadd dLedger_doneOf_45 ?_
        refine x_ialdJ (j := i * 8 + q) dLedger_doneOf_46 rfl rfl (by first | rfl | (simp only [← nI_add, ← pk_mul]; rfl)) (by omega) ?_
        -- at 47: .iadd
        rw [show I 39 (i * 8 + q) = R i q from hr.2.2 i (by omega) q hq]
        refine x_iadd dLedger_doneOf_47 ?_
        refine x_istoren_2 dLedger_doneOf_48 rfl rfl ?_
        refine x_iincp_3 dLedger_doneOf_49 rfl rfl ?_
        refine x_goto (tgt := 4) dLedger_doneOf_52 (by decide) ?_
        -- at 4: .iload_n 3
        rw [nI_1]
        refine ih (i + 1) _ (by omega) ?_
        rw [doneA, if_pos (by simpa [canV, cV] using z), ha]
      · refine x_if_eq (tgt := 49) dLedger_doneOf_32 (by decide) (fun _ => ?_) (fun h => absurd (by decide) h)
        refine x_iincp_3 dLedger_doneOf_49 rfl rfl ?_
        refine x_goto (tgt := 4) dLedger_doneOf_52 (by decide) ?_
        -- at 4: .iload_n 3
        rw [nI_1]
        refine ih (i + 1) _ (by omega) ?_
        rw [doneA, if_neg (by simpa [canV, cV] using z), ha]
  exact loop n 0 0 (by omega) rfl
def sp_Ledger_keeps : SpT := fun as S I L Post => ∃ (q n : Nat) (R : Nat → Nat → Int32), as = [.ref 35, .int (nI q)] ∧ S = S1 ∧ q < 8 ∧ Rows I n R ∧ bPost (keepsV (cV I) n R q = true) S1 I L Post
set_option maxHeartbeats 4000000 in
set_option maxRecDepth 100000 in
theorem c_Ledger_keeps : Con mLedger_keeps 4 0 0 sp_Ledger_keeps := by
  refine con_of_X rfl fun G as S I L Post hs => ?_
  obtain ⟨q, n, R, rfl, rfl, hq, hr, h1, h2⟩ := hs
  refine ⟨0, Nat.le_of_ble_eq_true rfl, ?_⟩
  show X mLedger_keeps G _ S1 I L 0 [.ref 35, .int (nI q)] [] Post
  refine x_aload_n dLedger_keeps_0 rfl ?_
  refine x_iload_n dLedger_keeps_1 rfl ?_
  -- at 2: .invokevirtual 190
  refine x_callV_1 c_Ledger_doneOf ok_Ledger_doneOf ml_Ledger_190 dLedger_keeps_2 rfl rfl rfl rfl rfl ?_
  refine ⟨q, n, R, rfl, rfl, hq, hr, ?_⟩
  refine x_aload_n dLedger_keeps_5 rfl ?_
  refine x_getR fl_Ledger_51 rfl dLedger_keeps_6 rfl rfl rfl ?_
  refine x_getR fl_Ledger_147 rfl dLedger_keeps_9 rfl rfl rfl ?_
  refine x_iload_n dLedger_keeps_12 rfl ?_
  refine x_ialdJ dLedger_keeps_13 rfl rfl rfl (by omega) ?_
  -- at 14: .if_icmp .ne 7
  refine x_icmp_ne (tgt := 21) dLedger_keeps_14 (by decide) (fun c1 => ?_) (fun c1 => ?_)
  · refine x_iconst (v := 0) dLedger_keeps_21 rfl ?_
    -- at 22: .ireturn
    refine x_ireturn dLedger_keeps_22 rfl rfl ?_
    exact h2 (by simpa [keepsV, cV] using c1)
  · refine x_iconst (v := 1) dLedger_keeps_17 rfl ?_
    refine x_goto (tgt := 22) dLedger_keeps_18 (by decide) ?_
    -- at 22: .ireturn
    refine x_ireturn dLedger_keeps_22 rfl rfl ?_
    exact h1 (by simpa [keepsV, cV] using c1)
def sp_Ledger_keptBits : SpT := fun as S I L Post => ∃ (n nq : Nat) (R : Nat → Nat → Int32), as = [.ref 35] ∧ S = S1 ∧ Rows I n R ∧ I 13 4 = nI nq ∧ nq ≤ 8 ∧ Post (some (.int (keptV (cV I) n nq R))) S1 I L
set_option maxHeartbeats 4000000 in
set_option maxRecDepth 100000 in
theorem c_Ledger_keptBits : Con mLedger_keptBits 5 0 0 sp_Ledger_keptBits := by
  refine con_of_X rfl fun G as S I L Post hs => ?_
  obtain ⟨n, nq, R, rfl, rfl, hr, hq, hq8, h1⟩ := hs
  refine ⟨2, Nat.le_of_ble_eq_true rfl, ?_⟩
  show X mLedger_keptBits G _ S1 I L 0 [.ref 35, .null, .null] [] Post
  refine x_iconst (v := 0) dLedger_keptBits_0 rfl ?_
  refine x_istoren_1 dLedger_keptBits_1 rfl rfl ?_
  refine x_iconst (v := 0) dLedger_keptBits_2 rfl ?_
  refine x_istoren_2 dLedger_keptBits_3 rfl rfl ?_
  -- at 4: .iload_n 2
  have loop : ∀ (k i : Nat) (acc : Int32), i + k = nq → acc = bs i (keepsV (cV I) n R) → X mLedger_keptBits G (5, 0, 0) S1 I L 4 [.ref 35, .int acc, .int (nI i)] [] Post := by
    intro k
    induction k with
    | zero =>
      intro i acc hi ha
      obtain rfl : i = nq := by omega
      refine x_iload_n dLedger_keptBits_4 rfl ?_
      refine x_aload_n dLedger_keptBits_5 rfl ?_
      refine x_getR fl_Ledger_51 rfl dLedger_keptBits_6 rfl rfl rfl ?_
      refine x_getI fl_Ledger_180 rfl dLedger_keptBits_9 rfl rfl ?_
      -- at 12: .if_icmp .ge 23
      rw [hq]
      refine x_icmp_ge (tgt := 35) dLedger_keptBits_12 (by decide) (fun _ => ?_) (fun h => absurd (Int32.le_refl _) h)
      refine x_iload_n dLedger_keptBits_35 rfl ?_
      -- at 36: .ireturn
      refine x_ireturn dLedger_keptBits_36 rfl rfl ?_
      rw [ha]
      exact h1
    | succ k ih =>
      intro i acc hi ha
      refine x_iload_n dLedger_keptBits_4 rfl ?_
      refine x_aload_n dLedger_keptBits_5 rfl ?_
      refine x_getR fl_Ledger_51 rfl dLedger_keptBits_6 rfl rfl rfl ?_
      refine x_getI fl_Ledger_180 rfl dLedger_keptBits_9 rfl rfl ?_
      -- at 12: .if_icmp .ge 23
      rw [hq]
      refine x_icmp_ge (tgt := 35) dLedger_keptBits_12 (by decide) (fun h => absurd h (nI_ge (b := nq) (by omega) (by omega))) (fun _ => ?_)
      refine x_aload_n dLedger_keptBits_15 rfl ?_
      refine x_iload_n dLedger_keptBits_16 rfl ?_
      -- at 17: .invokevirtual 193
      refine x_callV_1 c_Ledger_keeps ok_Ledger_keeps ml_Ledger_193 dLedger_keptBits_17 rfl rfl rfl rfl rfl ?_
      refine ⟨i, n, R, rfl, rfl, by omega, hr, fun z => ?_, fun z => ?_⟩
      · refine x_if_eq (tgt := 29) dLedger_keptBits_20 (by decide) (fun h => absurd h (by decide)) (fun _ => ?_)
        refine x_iload_n dLedger_keptBits_23 rfl ?_
        refine x_iconst (v := 1) dLedger_keptBits_24 rfl ?_
        refine x_iload_n dLedger_keptBits_25 rfl ?_
        refine x_ishl dLedger_keptBits_26 ?_
        refine x_ior dLedger_keptBits_27 ?_
        refine x_istoren_1 dLedger_keptBits_28 rfl rfl ?_
        refine x_iincp_2 dLedger_keptBits_29 rfl rfl ?_
        refine x_goto (tgt := 4) dLedger_keptBits_32 (by decide) ?_
        -- at 4: .iload_n 2
        rw [nI_1]
        refine ih (i + 1) _ (by omega) ?_
        rw [bs, if_pos z, ha]
        rfl
      · refine x_if_eq (tgt := 29) dLedger_keptBits_20 (by decide) (fun _ => ?_) (fun h => absurd (by decide) h)
        refine x_iincp_2 dLedger_keptBits_29 rfl rfl ?_
        refine x_goto (tgt := 4) dLedger_keptBits_32 (by decide) ?_
        -- at 4: .iload_n 2
        rw [nI_1]
        refine ih (i + 1) _ (by omega) ?_
        rw [bs, if_neg z, ha]
  exact loop nq 0 0 (by omega) rfl
def sp_Ledger_worthKept : SpT := fun as S I L Post => ∃ (n nq : Nat) (R : Nat → Nat → Int32), as = [.ref 35] ∧ S = S1 ∧ Rows I n R ∧ I 13 4 = nI nq ∧ nq ≤ 8 ∧ Post (some (.int (worthV (cV I) n R nq))) S1 I L
set_option maxHeartbeats 4000000 in
set_option maxRecDepth 100000 in
theorem c_Ledger_worthKept : Con mLedger_worthKept 5 0 0 sp_Ledger_worthKept := by
  refine con_of_X rfl fun G as S I L Post hs => ?_
  obtain ⟨n, nq, R, rfl, rfl, hr, hq, hq8, h1⟩ := hs
  refine ⟨2, Nat.le_of_ble_eq_true rfl, ?_⟩
  show X mLedger_worthKept G _ S1 I L 0 [.ref 35, .null, .null] [] Post
  refine x_iconst (v := 0) dLedger_worthKept_0 rfl ?_
  refine x_istoren_1 dLedger_worthKept_1 rfl rfl ?_
  refine x_iconst (v := 0) dLedger_worthKept_2 rfl ?_
  refine x_istoren_2 dLedger_worthKept_3 rfl rfl ?_
  -- at 4: .iload_n 2
  have loop : ∀ (k i : Nat) (acc : Int32), i + k = nq → acc = worthV (cV I) n R i → X mLedger_worthKept G (5, 0, 0) S1 I L 4 [.ref 35, .int acc, .int (nI i)] [] Post := by
    intro k
    induction k with
    | zero =>
      intro i acc hi ha
      obtain rfl : i = nq := by omega
      refine x_iload_n dLedger_worthKept_4 rfl ?_
      refine x_aload_n dLedger_worthKept_5 rfl ?_
      refine x_getR fl_Ledger_51 rfl dLedger_worthKept_6 rfl rfl rfl ?_
      refine x_getI fl_Ledger_180 rfl dLedger_worthKept_9 rfl rfl ?_
      -- at 12: .if_icmp .ge 29
      rw [hq]
      refine x_icmp_ge (tgt := 41) dLedger_worthKept_12 (by decide) (fun _ => ?_) (fun h => absurd (Int32.le_refl _) h)
      refine x_iload_n dLedger_worthKept_41 rfl ?_
      -- at 42: .ireturn
      refine x_ireturn dLedger_worthKept_42 rfl rfl ?_
      rw [ha]
      exact h1
    | succ k ih =>
      intro i acc hi ha
      refine x_iload_n dLedger_worthKept_4 rfl ?_
      refine x_aload_n dLedger_worthKept_5 rfl ?_
      refine x_getR fl_Ledger_51 rfl dLedger_worthKept_6 rfl rfl rfl ?_
      refine x_getI fl_Ledger_180 rfl dLedger_worthKept_9 rfl rfl ?_
      -- at 12: .if_icmp .ge 29
      rw [hq]
      refine x_icmp_ge (tgt := 41) dLedger_worthKept_12 (by decide) (fun h => absurd h (nI_ge (b := nq) (by omega) (by omega))) (fun _ => ?_)
      refine x_aload_n dLedger_worthKept_15 rfl ?_
      refine x_iload_n dLedger_worthKept_16 rfl ?_
      -- at 17: .invokevirtual 193
      refine x_callV_1 c_Ledger_keeps ok_Ledger_keeps ml_Ledger_193 dLedger_worthKept_17 rfl rfl rfl rfl rfl ?_
      refine ⟨i, n, R, rfl, rfl, by omega, hr, fun z => ?_, fun z => ?_⟩
      · refine x_if_eq (tgt := 35) dLedger_worthKept_20 (by decide) (fun h => absurd h (by decide)) (fun _ => ?_)
        refine x_iload_n dLedger_worthKept_23 rfl ?_
        refine x_aload_n dLedger_worthKept_24 rfl ?_
        refine x_getR fl_Ledger_51 rfl dLedger_worthKept_25 rfl rfl rfl ?_
        refine x_getR fl_Ledger_196 rfl dLedger_worthKept_28 rfl rfl rfl ?_
        refine x_iload_n dLedger_worthKept_31 rfl ?_
        refine x_ialdJ dLedger_worthKept_32 rfl rfl rfl (by omega) ?_
        refine x_iadd dLedger_worthKept_33 ?_
        refine x_istoren_1 dLedger_worthKept_34 rfl rfl ?_
        refine x_iincp_2 dLedger_worthKept_35 rfl rfl ?_
        refine x_goto (tgt := 4) dLedger_worthKept_38 (by decide) ?_
        -- at 4: .iload_n 2
        rw [nI_1]
        refine ih (i + 1) _ (by omega) ?_
        rw [worthV, if_pos z, ha]
        rfl
      · refine x_if_eq (tgt := 35) dLedger_worthKept_20 (by decide) (fun _ => ?_) (fun h => absurd (by decide) h)
        refine x_iincp_2 dLedger_worthKept_35 rfl rfl ?_
        refine x_goto (tgt := 4) dLedger_worthKept_38 (by decide) ?_
        -- at 4: .iload_n 2
        rw [nI_1]
        refine ih (i + 1) _ (by omega) ?_
        rw [worthV, if_neg z, ha]
  exact loop nq 0 0 (by omega) rfl
def sp_Ledger_painOf : SpT := fun as S I L Post => ∃ (p t : Nat) (P : Nat → List Int32), as = [.ref 35, .int (nI p)] ∧ S = S1 ∧ p < 8 ∧ I 35 5 = nI t ∧ TxtC I P t ∧ ∀ I' : IM, Fr uScr I I' → Post (some (.int (painV (cV I) P (I 40) p))) S1 I' L
set_option maxHeartbeats 4000000 in
set_option maxRecDepth 100000 in
theorem c_Ledger_painOf : Con mLedger_painOf 4 0 0 sp_Ledger_painOf := by
  refine con_of_X rfl fun G as S I L Post hs => ?_
  obtain ⟨p, t, P, rfl, rfl, hp, ht, hT, h1⟩ := hs
  refine ⟨0, Nat.le_of_ble_eq_true rfl, ?_⟩
  show X mLedger_painOf G _ S1 I L 0 [.ref 35, .int (nI p)] [] Post
  refine x_aload_n dLedger_painOf_0 rfl ?_
  refine x_getR fl_Ledger_59 rfl dLedger_painOf_1 rfl rfl rfl ?_
  -- at 4: .invokevirtual 88
  refine x_callV_0 c_Texts_giveNothing ok_Texts_giveNothing ml_Ledger_88 dLedger_painOf_4 rfl rfl rfl rfl rfl ?_
  refine ⟨rfl, rfl, fun I1 hF1 hz => ?_⟩
  have f7 := hF1 7 (by decide)
  have f40 := hF1 40 (by decide)
  have f10 := hF1 10 (by decide)
  have f35 := hF1 35 (by decide)
  refine x_aload_n dLedger_painOf_7 rfl ?_
  refine x_getR fl_Ledger_59 rfl dLedger_painOf_8 rfl rfl rfl ?_
  refine x_getR fl_Ledger_93 rfl dLedger_painOf_11 rfl rfl rfl ?_
  refine x_iconst (v := 2) dLedger_painOf_14 rfl ?_
  refine x_aload_n dLedger_painOf_15 rfl ?_
  refine x_getR fl_Ledger_47 rfl dLedger_painOf_16 rfl rfl rfl ?_
  refine x_getR fl_Ledger_111 rfl dLedger_painOf_19 rfl rfl rfl ?_
  refine x_iload_n dLedger_painOf_22 rfl ?_
  refine x_ialdJ dLedger_painOf_23 rfl rfl rfl (by omega) ?_
  -- at 24: .iastore
  rw [f7]
  refine x_iastJ (j := 2) dLedger_painOf_24 rfl rfl (by first | rfl | (simp only [← nI_add, ← pk_mul]; rfl)) (by omega) ?_
  -- at 25: .aload_n 0
  refine x_aload_n dLedger_painOf_25 rfl ?_
  refine x_getR fl_Ledger_59 rfl dLedger_painOf_26 rfl rfl rfl ?_
  refine x_getR fl_Ledger_93 rfl dLedger_painOf_29 rfl rfl rfl ?_
  refine x_iconst (v := 3) dLedger_painOf_32 rfl ?_
  refine x_aload_n dLedger_painOf_33 rfl ?_
  refine x_getR fl_Ledger_28 rfl dLedger_painOf_34 rfl rfl rfl ?_
  refine x_iload_n dLedger_painOf_37 rfl ?_
  refine x_ialdJ dLedger_painOf_38 rfl rfl rfl (by omega) ?_
  -- at 39: .iastore
  simp only [up2_n, up2_s, ne_eq, Nat.reduceEqDiff, not_false_eq_true, f40]
  refine x_iastJ (j := 3) dLedger_painOf_39 rfl rfl (by first | rfl | (simp only [← nI_add, ← pk_mul]; rfl)) (by omega) ?_
  -- at 40: .aload_n 0
  refine x_aload_n dLedger_painOf_40 rfl ?_
  refine x_getR fl_Ledger_59 rfl dLedger_painOf_41 rfl rfl rfl ?_
  refine x_getR fl_Ledger_93 rfl dLedger_painOf_44 rfl rfl rfl ?_
  refine x_iconst (v := 5) dLedger_painOf_47 rfl ?_
  refine x_aload_n dLedger_painOf_48 rfl ?_
  refine x_getR fl_Ledger_47 rfl dLedger_painOf_49 rfl rfl rfl ?_
  refine x_getR fl_Ledger_199 rfl dLedger_painOf_52 rfl rfl rfl ?_
  refine x_iload_n dLedger_painOf_55 rfl ?_
  refine x_ialdJ dLedger_painOf_56 rfl rfl rfl (by omega) ?_
  -- at 57: .iastore
  simp only [up2_n, up2_s, ne_eq, Nat.reduceEqDiff, not_false_eq_true, f10]
  refine x_iastJ (j := 5) dLedger_painOf_57 rfl rfl (by first | rfl | (simp only [← nI_add, ← pk_mul]; rfl)) (by omega) ?_
  refine x_aload_n dLedger_painOf_58 rfl ?_
  refine x_getR fl_Ledger_59 rfl dLedger_painOf_59 rfl rfl rfl ?_
  refine x_aload_n dLedger_painOf_62 rfl ?_
  refine x_getI fl_Ledger_9 rfl dLedger_painOf_63 rfl rfl ?_
  refine x_iconst (v := 2) dLedger_painOf_66 rfl ?_
  -- at 67: .invokevirtual 117
  simp only [up2_n, up2_s, ne_eq, Nat.reduceEqDiff, not_false_eq_true, f35]
  rw [ht]
  have hT2 := hT.fr (I' := up2 (up2 (up2 I1 33 2 (I 7 p)) 33 3 (I 40 p)) 33 5 (I 10 p)) (by simp only [up2_n, up2_s, ne_eq, Nat.reduceEqDiff, not_false_eq_true, hF1 32 (by decide)]) (by simp only [up2_n, up2_s, ne_eq, Nat.reduceEqDiff, not_false_eq_true, hF1 31 (by decide)])
  obtain ⟨a, ha, hb, hab, hc, hwf⟩ := hT2.2 2 (by omega)
  refine x_callV_2 c_Texts_value ok_Texts_value ml_Ledger_117 dLedger_painOf_67 rfl rfl rfl rfl rfl ?_
  refine ⟨t, 2, a, P 2, rfl, rfl, hT.1, by omega, ha, hb, hab, hc, hwf, fun I2 hF2 => ?_⟩
  have eV : valP (up2 (up2 (up2 I1 33 2 (I 7 p)) 33 3 (I 40 p)) 33 5 (I 10 p) 33) (P 2) = valP (nm6 0 0 (cV I 4 p) (I 40 p) 0 (cV I 7 p)) (P 2) := by
    refine valP_congr (h := 0) (o := 1) (fun j hj => ?_) hwf
    simp only [up2_n, up2_s, ne_eq, Nat.reduceEqDiff, not_false_eq_true]
    rcases (show j = 0 ∨ j = 1 ∨ j = 2 ∨ j = 3 ∨ j = 4 ∨ j = 5 by omega) with rfl | rfl | rfl | rfl | rfl | rfl <;> simp [up1, nm6, cV, hz]
  rw [eV]
  refine x_sipush (v := 9999) dLedger_painOf_70 rfl ?_
  -- at 73: .invokestatic 120
  refine x_callSN_2 c_W_bounded ok_W_bounded nw_Ledger_120 dLedger_painOf_73 rfl rfl ?_
  refine ⟨_, _, rfl, ?_⟩
  refine x_ireturn dLedger_painOf_76 rfl rfl ?_
  exact h1 I2 (fun i hi => by
    simp only [List.mem_cons, List.not_mem_nil, or_false, not_or] at hi
    rw [hF2 i (by simp; omega), up2_n _ _ _ (by omega), up2_n _ _ _ (by omega), up2_n _ _ _ (by omega), hF1 i (by simp; omega)])
def sp_Ledger_painOfAll : SpT := fun as S I L Post => ∃ (n t : Nat) (P : Nat → List Int32), as = [.ref 35] ∧ S = S1 ∧ I 4 8 = nI n ∧ n ≤ 8 ∧ I 35 5 = nI t ∧ TxtC I P t ∧ ∀ I' : IM, Fr uScr I I' → Post (some (.int (painA (cV I) P (I 40) n))) S1 I' L
set_option maxHeartbeats 4000000 in
set_option maxRecDepth 100000 in
theorem c_Ledger_painOfAll : Con mLedger_painOfAll 5 0 0 sp_Ledger_painOfAll := by
  refine con_of_X rfl fun G as S I L Post hs => ?_
  obtain ⟨n, t, P, rfl, rfl, hn, hn8, ht, hT, h1⟩ := hs
  refine ⟨2, Nat.le_of_ble_eq_true rfl, ?_⟩
  show X mLedger_painOfAll G _ S1 I L 0 [.ref 35, .null, .null] [] Post
  refine x_iconst (v := 0) dLedger_painOfAll_0 rfl ?_
  refine x_istoren_1 dLedger_painOfAll_1 rfl rfl ?_
  refine x_iconst (v := 0) dLedger_painOfAll_2 rfl ?_
  refine x_istoren_2 dLedger_painOfAll_3 rfl rfl ?_
  -- at 4: .iload_n 2
  have loop : ∀ (k i : Nat) (acc : Int32) (I' : IM), i + k = n → Fr uScr I I' → acc = painA (cV I) P (I 40) i → X mLedger_painOfAll G (5, 0, 0) S1 I' L 4 [.ref 35, .int acc, .int (nI i)] [] Post := by
    intro k
    induction k with
    | zero =>
      intro i acc I' hi hF ha
      obtain rfl : i = n := by omega
      refine x_iload_n dLedger_painOfAll_4 rfl ?_
      refine x_aload_n dLedger_painOfAll_5 rfl ?_
      refine x_getR fl_Ledger_47 rfl dLedger_painOfAll_6 rfl rfl rfl ?_
      refine x_getI fl_Ledger_82 rfl dLedger_painOfAll_9 rfl rfl ?_
      -- at 12: .if_icmp .ge 17
      rw [hF 4 (by decide), hn]
      refine x_icmp_ge (tgt := 29) dLedger_painOfAll_12 (by decide) (fun _ => ?_) (fun h => absurd (Int32.le_refl _) h)
      refine x_iload_n dLedger_painOfAll_29 rfl ?_
      -- at 30: .ireturn
      refine x_ireturn dLedger_painOfAll_30 rfl rfl ?_
      rw [ha]
      exact h1 I' hF
    | succ k ih =>
      intro i acc I' hi hF ha
      refine x_iload_n dLedger_painOfAll_4 rfl ?_
      refine x_aload_n dLedger_painOfAll_5 rfl ?_
      refine x_getR fl_Ledger_47 rfl dLedger_painOfAll_6 rfl rfl rfl ?_
      refine x_getI fl_Ledger_82 rfl dLedger_painOfAll_9 rfl rfl ?_
      -- at 12: .if_icmp .ge 17
      rw [hF 4 (by decide), hn]
      refine x_icmp_ge (tgt := 29) dLedger_painOfAll_12 (by decide) (fun h => absurd h (nI_ge (b := n) (by omega) (by omega))) (fun _ => ?_)
      have eV : cV I' = cV I := cV_fr (hF.wk (by decide))
      have e40 := hF 40 (by decide)
      refine x_iload_n dLedger_painOfAll_15 rfl ?_
      refine x_aload_n dLedger_painOfAll_16 rfl ?_
      refine x_iload_n dLedger_painOfAll_17 rfl ?_
      -- at 18: .invokevirtual 202
      refine x_callV_1 c_Ledger_painOf ok_Ledger_painOf ml_Ledger_202 dLedger_painOfAll_18 rfl rfl rfl rfl rfl ?_
      refine ⟨i, t, P, rfl, rfl, by omega, by rw [hF 35 (by decide)]; exact ht, hT.fr (hF _ (by decide)) (hF _ (by decide)), fun I2 hF2 => ?_⟩
      rw [eV, e40]
      refine x_iadd dLedger_painOfAll_21 ?_
      refine x_istoren_1 dLedger_painOfAll_22 rfl rfl ?_
      refine x_iincp_2 dLedger_painOfAll_23 rfl rfl ?_
      refine x_goto (tgt := 4) dLedger_painOfAll_26 (by decide) ?_
      -- at 4: .iload_n 2
      rw [nI_1]
      refine ih (i + 1) _ I2 (by omega) (hF.tr hF2) ?_
      rw [painA, ha]
  exact loop n 0 0 I (by omega) Fr.rfl rfl
def outV (V : IM) (P : Nat → List Int32) (n nq : Nat) (R : Nat → Nat → Int32) (T : Nat → Int32) (w : Int32) : Int32 := if w = 0 then keptV V n nq R else if w = 1 then worthV V n R nq else painA V P T n
def sp_Ledger_outcome : SpT := fun as S I L Post => ∃ (n nq t : Nat) (w : Int32) (R : Nat → Nat → Int32) (P : Nat → List Int32), as = [.ref 35, .int w] ∧ S = S1 ∧ Rows I n R ∧ I 13 4 = nI nq ∧ nq ≤ 8 ∧ I 35 5 = nI t ∧ TxtC I P t ∧ ∀ I' : IM, Fr uScr I I' → Post (some (.int (outV (cV I) P n nq R (I 40) w))) S1 I' L
set_option maxHeartbeats 4000000 in
set_option maxRecDepth 100000 in
theorem c_Ledger_outcome : Con mLedger_outcome 6 0 0 sp_Ledger_outcome := by
  refine con_of_X rfl fun G as S I L Post hs => ?_
  obtain ⟨n, nq, t, w, R, P, rfl, rfl, hr, hq, hq8, ht, hT, h1⟩ := hs
  refine ⟨0, Nat.le_of_ble_eq_true rfl, ?_⟩
  show X mLedger_outcome G _ S1 I L 0 [.ref 35, .int w] [] Post
  refine x_iload_n dLedger_outcome_0 rfl ?_
  -- at 1: .ifCond .ne 10
  refine x_if_ne (tgt := 11) dLedger_outcome_1 (by decide) (fun c1 => ?_) (fun c1 => ?_)
  · refine x_iload_n dLedger_outcome_11 rfl ?_
    refine x_iconst (v := 1) dLedger_outcome_12 rfl ?_
    -- at 13: .if_icmp .ne 10
    refine x_icmp_ne (tgt := 23) dLedger_outcome_13 (by decide) (fun c2 => ?_) (fun c2 => ?_)
    · refine x_aload_n dLedger_outcome_23 rfl ?_
      -- at 24: .invokevirtual 212
      refine x_callV_0 c_Ledger_painOfAll ok_Ledger_painOfAll ml_Ledger_212 dLedger_outcome_24 rfl rfl rfl rfl rfl ?_
      refine ⟨n, t, P, rfl, rfl, hr.1, hr.2.1, ht, hT, fun I' hF => ?_⟩
      refine x_ireturn dLedger_outcome_27 rfl rfl ?_
      have := h1 I' hF
      rw [outV, if_neg c1, if_neg c2] at this
      exact this
    · refine x_aload_n dLedger_outcome_16 rfl ?_
      -- at 17: .invokevirtual 209
      refine x_callV_0 c_Ledger_worthKept ok_Ledger_worthKept ml_Ledger_209 dLedger_outcome_17 rfl rfl rfl rfl rfl ?_
      refine ⟨n, nq, R, rfl, rfl, hr, hq, hq8, ?_⟩
      refine x_goto (tgt := 27) dLedger_outcome_20 (by decide) ?_
      -- at 27: .ireturn
      refine x_ireturn dLedger_outcome_27 rfl rfl ?_
      have := h1 I Fr.rfl
      rw [outV, if_neg c1, if_pos c2] at this
      exact this
  · refine x_aload_n dLedger_outcome_4 rfl ?_
    -- at 5: .invokevirtual 205
    refine x_callV_0 c_Ledger_keptBits ok_Ledger_keptBits ml_Ledger_205 dLedger_outcome_5 rfl rfl rfl rfl rfl ?_
    refine ⟨n, nq, R, rfl, rfl, hr, hq, hq8, ?_⟩
    refine x_goto (tgt := 27) dLedger_outcome_8 (by decide) ?_
    -- at 27: .ireturn
    refine x_ireturn dLedger_outcome_27 rfl rfl ?_
    have := h1 I Fr.rfl
    rw [outV, if_pos c1] at this
    exact this
def sp_Ledger_fullBits : SpT := fun as S I L Post => ∃ n : Nat, as = [.ref 35] ∧ S = S1 ∧ I 4 8 = nI n ∧ n ≤ 8 ∧ Post (some (.int (fullV (cV I) (I 40) n))) S1 I L
set_option maxHeartbeats 4000000 in
set_option maxRecDepth 100000 in
theorem c_Ledger_fullBits : Con mLedger_fullBits 2 0 0 sp_Ledger_fullBits := by
  refine con_of_X rfl fun G as S I L Post hs => ?_
  obtain ⟨n, rfl, rfl, hn, hn8, h1⟩ := hs
  refine ⟨2, Nat.le_of_ble_eq_true rfl, ?_⟩
  show X mLedger_fullBits G _ S1 I L 0 [.ref 35, .null, .null] [] Post
  refine x_iconst (v := 0) dLedger_fullBits_0 rfl ?_
  refine x_istoren_1 dLedger_fullBits_1 rfl rfl ?_
  refine x_iconst (v := 0) dLedger_fullBits_2 rfl ?_
  refine x_istoren_2 dLedger_fullBits_3 rfl rfl ?_
  -- at 4: .iload_n 2
  have loop : ∀ (k i : Nat) (acc : Int32), i + k = n → acc = fullV (cV I) (I 40) i → X mLedger_fullBits G (2, 0, 0) S1 I L 4 [.ref 35, .int acc, .int (nI i)] [] Post := by
    intro k
    induction k with
    | zero =>
      intro i acc hi ha
      obtain rfl : i = n := by omega
      refine x_iload_n dLedger_fullBits_4 rfl ?_
      refine x_aload_n dLedger_fullBits_5 rfl ?_
      refine x_getR fl_Ledger_47 rfl dLedger_fullBits_6 rfl rfl rfl ?_
      refine x_getI fl_Ledger_82 rfl dLedger_fullBits_9 rfl rfl ?_
      -- at 12: .if_icmp .ge 33
      rw [hn]
      refine x_icmp_ge (tgt := 45) dLedger_fullBits_12 (by decide) (fun _ => ?_) (fun h => absurd (Int32.le_refl _) h)
      refine x_iload_n dLedger_fullBits_45 rfl ?_
      -- at 46: .ireturn
      refine x_ireturn dLedger_fullBits_46 rfl rfl ?_
      rw [ha]
      exact h1
    | succ k ih =>
      intro i acc hi ha
      refine x_iload_n dLedger_fullBits_4 rfl ?_
      refine x_aload_n dLedger_fullBits_5 rfl ?_
      refine x_getR fl_Ledger_47 rfl dLedger_fullBits_6 rfl rfl rfl ?_
      refine x_getI fl_Ledger_82 rfl dLedger_fullBits_9 rfl rfl ?_
      -- at 12: .if_icmp .ge 33
      rw [hn]
      refine x_icmp_ge (tgt := 45) dLedger_fullBits_12 (by decide) (fun h => absurd h (nI_ge (b := n) (by omega) (by omega))) (fun _ => ?_)
      refine x_aload_n dLedger_fullBits_15 rfl ?_
      refine x_getR fl_Ledger_28 rfl dLedger_fullBits_16 rfl rfl rfl ?_
      refine x_iload_n dLedger_fullBits_19 rfl ?_
      refine x_ialdJ dLedger_fullBits_20 rfl rfl rfl (by omega) ?_
      refine x_aload_n dLedger_fullBits_21 rfl ?_
      refine x_getR fl_Ledger_47 rfl dLedger_fullBits_22 rfl rfl rfl ?_
      refine x_getR fl_Ledger_187 rfl dLedger_fullBits_25 rfl rfl rfl ?_
      refine x_iload_n dLedger_fullBits_28 rfl ?_
      refine x_ialdJ dLedger_fullBits_29 rfl rfl rfl (by omega) ?_
      -- at 30: .if_icmp .ne 9
      refine x_icmp_ne (tgt := 39) dLedger_fullBits_30 (by decide) (fun c1 => ?_) (fun c1 => ?_)
      · refine x_iincp_2 dLedger_fullBits_39 rfl rfl ?_
        refine x_goto (tgt := 4) dLedger_fullBits_42 (by decide) ?_
        -- at 4: .iload_n 2
        rw [nI_1]
        refine ih (i + 1) _ (by omega) ?_
        rw [fullV, bs, if_neg (by simpa [cV] using c1), ha]
        rfl
      · refine x_iload_n dLedger_fullBits_33 rfl ?_
        refine x_iconst (v := 1) dLedger_fullBits_34 rfl ?_
        refine x_iload_n dLedger_fullBits_35 rfl ?_
        refine x_ishl dLedger_fullBits_36 ?_
        refine x_ior dLedger_fullBits_37 ?_
        refine x_istoren_1 dLedger_fullBits_38 rfl rfl ?_
        refine x_iincp_2 dLedger_fullBits_39 rfl rfl ?_
        refine x_goto (tgt := 4) dLedger_fullBits_42 (by decide) ?_
        -- at 4: .iload_n 2
        rw [nI_1]
        refine ih (i + 1) _ (by omega) ?_
        rw [fullV, bs, if_pos (by simpa [cV] using c1), ha]
        rfl
  exact loop n 0 0 (by omega) rfl
