/-! small methods: numbers and PEOPLE -/
def bPost (c : Prop) (S : Shp) (I : IM) (L : LM) (Post : PostT) : Prop := (c → Post (some (.int 1)) S I L) ∧ (¬ c → Post (some (.int 0)) S I L)
def sp_W_within : SpT := fun as S I L Post => ∃ v lo hi : Int32, as = [.int v, .int lo, .int hi] ∧ bPost (lo ≤ v ∧ v ≤ hi) S I L Post
set_option maxHeartbeats 4000000 in
set_option maxRecDepth 100000 in
theorem c_W_within : Con mW_within 2 0 0 sp_W_within := by
  refine con_of_X rfl fun G as S I L Post hs => ?_
  obtain ⟨v, lo, hi, rfl, h1, h2⟩ := hs
  refine ⟨0, Nat.le_of_ble_eq_true rfl, ?_⟩
  show X mW_within G _ S I L 0 [.int v, .int lo, .int hi] [] Post
  refine x_iload_n dW_within_0 rfl ?_
  refine x_iload_n dW_within_1 rfl ?_
  -- at 2: .if_icmp .gt 12
  refine x_icmp_gt (tgt := 14) dW_within_2 (by decide) (fun c1 => ?_) (fun c1 => ?_)
  · refine x_iconst (v := 0) dW_within_14 rfl ?_
    -- at 15: .ireturn
    refine x_ireturn dW_within_15 rfl rfl ?_
    exact h2 (fun q => absurd c1 (Int32.not_lt.mpr q.1))
  · refine x_iload_n dW_within_5 rfl ?_
    refine x_iload_n dW_within_6 rfl ?_
    -- at 7: .if_icmp .gt 7
    refine x_icmp_gt (tgt := 14) dW_within_7 (by decide) (fun c2 => ?_) (fun c2 => ?_)
    · refine x_iconst (v := 0) dW_within_14 rfl ?_
      -- at 15: .ireturn
      refine x_ireturn dW_within_15 rfl rfl ?_
      exact h2 (fun q => absurd c2 (Int32.not_lt.mpr q.2))
    · refine x_iconst (v := 1) dW_within_10 rfl ?_
      refine x_goto (tgt := 15) dW_within_11 (by decide) ?_
      -- at 15: .ireturn
      refine x_ireturn dW_within_15 rfl rfl ?_
      exact h1 ⟨Int32.not_lt.mp c1, Int32.not_lt.mp c2⟩
def sp_W_isByte : SpT := fun as S I L Post => ∃ v : Int32, as = [.int v] ∧ bPost (0 ≤ v ∧ v ≤ 255) S I L Post
set_option maxHeartbeats 4000000 in
set_option maxRecDepth 100000 in
theorem c_W_isByte : Con mW_isByte 3 0 0 sp_W_isByte := by
  refine con_of_X rfl fun G as S I L Post hs => ?_
  obtain ⟨v, rfl, h1, h2⟩ := hs
  refine ⟨0, Nat.le_of_ble_eq_true rfl, ?_⟩
  show X mW_isByte G _ S I L 0 [.int v] [] Post
  refine x_iload_n dW_isByte_0 rfl ?_
  refine x_iconst (v := 0) dW_isByte_1 rfl ?_
  refine x_sipush (v := 255) dW_isByte_2 rfl ?_
  -- at 5: .invokestatic 101
  refine x_callS_3 c_W_within ok_W_within ml_W_101 dW_isByte_5 rfl rfl ?_
  refine ⟨v, 0, 255, rfl, fun q => ?_, fun q => ?_⟩
  · refine x_ireturn dW_isByte_8 rfl rfl ?_
    exact h1 q
  · refine x_ireturn dW_isByte_8 rfl rfl ?_
    exact h2 q
def rem (x y : Int32) : Int32 := x - x / y * y
abbrev isHowP (h : Int32) : Prop := (0 ≤ h ∧ h ≤ 599) ∧ rem (h / 10) 10 < 6 ∧ 0 < rem h 10
def sp_W_isHow : SpT := fun as S I L Post => ∃ v : Int32, as = [.int v] ∧ bPost (isHowP v) S I L Post
set_option maxHeartbeats 4000000 in
set_option maxRecDepth 100000 in
theorem c_W_isHow : Con mW_isHow 3 0 0 sp_W_isHow := by
  refine con_of_X rfl fun G as S I L Post hs => ?_
  obtain ⟨v, rfl, h1, h2⟩ := hs
  refine ⟨0, Nat.le_of_ble_eq_true rfl, ?_⟩
  show X mW_isHow G _ S I L 0 [.int v] [] Post
  refine x_iload_n dW_isHow_0 rfl ?_
  refine x_iconst (v := 0) dW_isHow_1 rfl ?_
  refine x_sipush (v := 599) dW_isHow_2 rfl ?_
  -- at 5: .invokestatic 101
  refine x_callS_3 c_W_within ok_W_within ml_W_101 dW_isHow_5 rfl rfl ?_
  refine ⟨v, 0, 599, rfl, fun q => ?_, fun q => ?_⟩
  · refine x_if_eq (tgt := 34) dW_isHow_8 (by decide) (fun h => absurd h (by decide)) (fun _ => ?_)
    refine x_iload_n dW_isHow_11 rfl ?_
    refine x_bipush (v := 10) dW_isHow_12 rfl ?_
    refine x_idiv dW_isHow_14 (by decide) ?_
    refine x_bipush (v := 10) dW_isHow_15 rfl ?_
    refine x_irem dW_isHow_17 (by decide) ?_
    refine x_bipush (v := 6) dW_isHow_18 rfl ?_
    -- at 20: .if_icmp .ge 14
    refine x_icmp_ge (tgt := 34) dW_isHow_20 (by decide) (fun c1 => ?_) (fun c1 => ?_)
    · refine x_iconst (v := 0) dW_isHow_34 rfl ?_
      -- at 35: .ireturn
      refine x_ireturn dW_isHow_35 rfl rfl ?_
      exact h2 (fun z => absurd z.2.1 (Int32.not_lt.mpr c1))
    · refine x_iload_n dW_isHow_23 rfl ?_
      refine x_bipush (v := 10) dW_isHow_24 rfl ?_
      refine x_irem dW_isHow_26 (by decide) ?_
      -- at 27: .ifCond .le 7
      refine x_if_le (tgt := 34) dW_isHow_27 (by decide) (fun c2 => ?_) (fun c2 => ?_)
      · refine x_iconst (v := 0) dW_isHow_34 rfl ?_
        -- at 35: .ireturn
        refine x_ireturn dW_isHow_35 rfl rfl ?_
        exact h2 (fun z => absurd z.2.2 (Int32.not_lt.mpr c2))
      · refine x_iconst (v := 1) dW_isHow_30 rfl ?_
        refine x_goto (tgt := 35) dW_isHow_31 (by decide) ?_
        -- at 35: .ireturn
        refine x_ireturn dW_isHow_35 rfl rfl ?_
        exact h1 ⟨q, Int32.not_le.mp c1, Int32.not_le.mp c2⟩
  · refine x_if_eq (tgt := 34) dW_isHow_8 (by decide) (fun _ => ?_) (fun h => absurd (by decide) h)
    refine x_iconst (v := 0) dW_isHow_34 rfl ?_
    -- at 35: .ireturn
    refine x_ireturn dW_isHow_35 rfl rfl ?_
    exact h2 (fun z => q z.1)
def imin (x y : Int32) : Int32 := if y < x then y else x
def imax (x y : Int32) : Int32 := if x < y then y else x
def sp_W_bounded : SpT := fun as S I L Post => ∃ v m : Int32, as = [.int v, .int m] ∧ Post (some (.int (imax 0 (imin v m)))) S I L
set_option maxHeartbeats 4000000 in
set_option maxRecDepth 100000 in
theorem c_W_bounded : Con mW_bounded 3 0 0 sp_W_bounded := by
  refine con_of_X rfl fun G as S I L Post hs => ?_
  obtain ⟨v, m, rfl, h1⟩ := hs
  refine ⟨0, Nat.le_of_ble_eq_true rfl, ?_⟩
  show X mW_bounded G _ S I L 0 [.int v, .int m] [] Post
  refine x_iconst (v := 0) dW_bounded_0 rfl ?_
  refine x_iload_n dW_bounded_1 rfl ?_
  refine x_iload_n dW_bounded_2 rfl ?_
  -- at 3: .invokestatic 315
  refine x_mmin dW_bounded_3 ml_W_315 st_min it_Math co_min rfl rfl ?_
  refine x_mmax dW_bounded_6 ml_W_266 st_max it_Math co_max rfl rfl ?_
  refine x_ireturn dW_bounded_9 rfl rfl ?_
  exact h1
def sp_Folk_has : SpT := fun as S I L Post => ∃ p : Int32, as = [.ref 4, .int p] ∧ S = S1 ∧ bPost (0 ≤ p ∧ p ≤ I 4 8 - 1) S I L Post
set_option maxHeartbeats 4000000 in
set_option maxRecDepth 100000 in
theorem c_Folk_has : Con mFolk_has 3 0 0 sp_Folk_has := by
  refine con_of_X rfl fun G as S I L Post hs => ?_
  obtain ⟨p, rfl, rfl, h1, h2⟩ := hs
  refine ⟨0, Nat.le_of_ble_eq_true rfl, ?_⟩
  show X mFolk_has G _ S1 I L 0 [.ref 4, .int p] [] Post
  refine x_iload_n dFolk_has_0 rfl ?_
  refine x_iconst (v := 0) dFolk_has_1 rfl ?_
  refine x_aload_n dFolk_has_2 rfl ?_
  refine x_getI fl_Folk_36 rfl dFolk_has_3 rfl rfl ?_
  refine x_iconst (v := 1) dFolk_has_6 rfl ?_
  refine x_isub dFolk_has_7 ?_
  -- at 8: .invokestatic 40
  refine x_callSN_3 c_W_within ok_W_within nw_Folk_40 dFolk_has_8 rfl rfl ?_
  refine ⟨p, 0, _, rfl, fun q => ?_, fun q => ?_⟩
  · refine x_ireturn dFolk_has_11 rfl rfl ?_
    exact h1 q
  · refine x_ireturn dFolk_has_11 rfl rfl ?_
    exact h2 q
def sp_Folk_canDo : SpT := fun as S I L Post => ∃ (p : Nat) (w : Int32), as = [.ref 4, .int (nI p), .int w] ∧ S = S1 ∧ p < 8 ∧ bPost ((I 9 p >>> (w &&& 31)) &&& 1 = 1) S I L Post
set_option maxHeartbeats 4000000 in
set_option maxRecDepth 100000 in
theorem c_Folk_canDo : Con mFolk_canDo 2 0 0 sp_Folk_canDo := by
  refine con_of_X rfl fun G as S I L Post hs => ?_
  obtain ⟨p, w, rfl, rfl, hp, h1, h2⟩ := hs
  refine ⟨0, Nat.le_of_ble_eq_true rfl, ?_⟩
  show X mFolk_canDo G _ S1 I L 0 [.ref 4, .int (nI p), .int w] [] Post
  refine x_aload_n dFolk_canDo_0 rfl ?_
  refine x_getR fl_Folk_24 rfl dFolk_canDo_1 rfl rfl rfl ?_
  refine x_iload_n dFolk_canDo_4 rfl ?_
  refine x_ialdJ dFolk_canDo_5 rfl rfl rfl (by omega) ?_
  refine x_iload_n dFolk_canDo_6 rfl ?_
  refine x_ishr dFolk_canDo_7 ?_
  refine x_iconst (v := 1) dFolk_canDo_8 rfl ?_
  refine x_iand dFolk_canDo_9 ?_
  refine x_iconst (v := 1) dFolk_canDo_10 rfl ?_
  -- at 11: .if_icmp .ne 7
  refine x_icmp_ne (tgt := 18) dFolk_canDo_11 (by decide) (fun c1 => ?_) (fun c1 => ?_)
  · refine x_iconst (v := 0) dFolk_canDo_18 rfl ?_
    -- at 19: .ireturn
    refine x_ireturn dFolk_canDo_19 rfl rfl ?_
    exact h2 c1
  · refine x_iconst (v := 1) dFolk_canDo_14 rfl ?_
    refine x_goto (tgt := 19) dFolk_canDo_15 (by decide) ?_
    -- at 19: .ireturn
    refine x_ireturn dFolk_canDo_19 rfl rfl ?_
    exact h1 c1
/-- where one starts -/
def startS (E : IM) (p : Nat) : Int32 := if E 9 p = -1 then E 3 p else E 9 p
def cStart (I : IM) (p : Nat) : Int32 := if I 12 p = -1 then I 6 p else I 12 p
def sp_Folk_startOf : SpT := fun as S I L Post => ∃ p : Nat, as = [.ref 4, .int (nI p)] ∧ S = S1 ∧ p < 8 ∧ Post (some (.int (cStart I p))) S I L
set_option maxHeartbeats 4000000 in
set_option maxRecDepth 100000 in
theorem c_Folk_startOf : Con mFolk_startOf 2 0 0 sp_Folk_startOf := by
  refine con_of_X rfl fun G as S I L Post hs => ?_
  obtain ⟨p, rfl, rfl, hp, h1⟩ := hs
  refine ⟨0, Nat.le_of_ble_eq_true rfl, ?_⟩
  show X mFolk_startOf G _ S1 I L 0 [.ref 4, .int (nI p)] [] Post
  refine x_aload_n dFolk_startOf_0 rfl ?_
  refine x_getR fl_Folk_33 rfl dFolk_startOf_1 rfl rfl rfl ?_
  refine x_iload_n dFolk_startOf_4 rfl ?_
  refine x_ialdJ dFolk_startOf_5 rfl rfl rfl (by omega) ?_
  refine x_iconst (v := -1) dFolk_startOf_6 rfl ?_
  -- at 7: .if_icmp .ne 12
  refine x_icmp_ne (tgt := 19) dFolk_startOf_7 (by decide) (fun c1 => ?_) (fun c1 => ?_)
  · refine x_aload_n dFolk_startOf_19 rfl ?_
    refine x_getR fl_Folk_33 rfl dFolk_startOf_20 rfl rfl rfl ?_
    refine x_iload_n dFolk_startOf_23 rfl ?_
    refine x_ialdJ dFolk_startOf_24 rfl rfl rfl (by omega) ?_
    -- at 25: .ireturn
    refine x_ireturn dFolk_startOf_25 rfl rfl ?_
    rw [cStart, if_neg c1] at h1
    exact h1
  · refine x_aload_n dFolk_startOf_10 rfl ?_
    refine x_getR fl_Folk_15 rfl dFolk_startOf_11 rfl rfl rfl ?_
    refine x_iload_n dFolk_startOf_14 rfl ?_
    refine x_ialdJ dFolk_startOf_15 rfl rfl rfl (by omega) ?_
    refine x_goto (tgt := 25) dFolk_startOf_16 (by decide) ?_
    -- at 25: .ireturn
    refine x_ireturn dFolk_startOf_25 rfl rfl ?_
    rw [cStart, if_pos c1] at h1
    exact h1
/-- a kind taken for another -/
abbrev isU (k w : Int32) : Prop := w = 0 ∨ k = w ∨ (w = 1 ∧ (k = 3 ∨ k = 5))
set_option maxHeartbeats 4000000 in
theorem isA_m1 {G : WG} {I : IM} {L : LM} {Post : PostT} {d : Nat} {w i : Int32} {a0 a1 : Value} (h2 : Post (some (.int 0)) S1 I L) : X mFolk_isA G (d, 0, 0) S1 I L 10 [a0, a1, .int w, .int (-1), .int i] [] Post := by
  refine x_iload dFolk_isA_10 rfl ?_
  refine x_bipush (v := 6) dFolk_isA_12 rfl ?_
  -- at 14: .if_icmp .ge 26
  refine x_icmp_ge (tgt := 40) dFolk_isA_14 (by decide) (fun c1 => ?_) (fun c1 => ?_)
  · refine x_iconst (v := 0) dFolk_isA_40 rfl ?_
    -- at 41: .ireturn
    refine x_ireturn dFolk_isA_41 rfl rfl ?_
    exact h2
  · refine x_iload_n dFolk_isA_17 rfl ?_
    -- at 18: .ifCond .lt 22
    refine x_if_lt (tgt := 40) dFolk_isA_18 (by decide) (fun _ => ?_) (fun h => absurd (by decide) h)
    refine x_iconst (v := 0) dFolk_isA_40 rfl ?_
    -- at 41: .ireturn
    refine x_ireturn dFolk_isA_41 rfl rfl ?_
    exact h2
set_option maxHeartbeats 4000000 in
theorem isA_st {G : WG} {I : IM} {L : LM} {Post : PostT} {d : Nat} {w k k2 i : Int32} {a0 a1 : Value} (hk : ¬ k < 0) (hi : ¬ 6 ≤ i) (hv : vp_in k 6) (hk2 : kaL.getD k.toNatClampNeg 0 = k2) (h1 : k = w → Post (some (.int 1)) S1 I L) (h2 : ¬ k = w → X mFolk_isA G (d, 0, 0) S1 I L 10 [a0, a1, .int w, .int k2, .int (i + 1)] [] Post) : X mFolk_isA G (d, 0, 0) S1 I L 10 [a0, a1, .int w, .int k, .int i] [] Post := by
  refine x_iload dFolk_isA_10 rfl ?_
  refine x_bipush (v := 6) dFolk_isA_12 rfl ?_
  -- at 14: .if_icmp .ge 26
  refine x_icmp_ge (tgt := 40) dFolk_isA_14 (by decide) (fun h => absurd h hi) (fun _ => ?_)
  refine x_iload_n dFolk_isA_17 rfl ?_
  -- at 18: .ifCond .lt 22
  refine x_if_lt (tgt := 40) dFolk_isA_18 (by decide) (fun h => absurd h hk) (fun _ => ?_)
  refine x_iload_n dFolk_isA_21 rfl ?_
  refine x_iload_n dFolk_isA_22 rfl ?_
  -- at 23: .if_icmp .ne 5
  refine x_icmp_ne (tgt := 28) dFolk_isA_23 (by decide) (fun c1 => ?_) (fun c1 => ?_)
  · refine x_getsKA dFolk_isA_28 (by decide) ?_
    refine x_iload_n dFolk_isA_31 rfl ?_
    -- at 32: .iaload
    refine x_ialdKA dFolk_isA_32 hv hk2 ?_
    refine x_istoren_3 dFolk_isA_33 rfl rfl ?_
    refine x_iincp_4 dFolk_isA_34 rfl rfl ?_
    refine x_goto (tgt := 10) dFolk_isA_37 (by decide) ?_
    -- at 10: .iload 4
    exact h2 c1
  · refine x_iconst (v := 1) dFolk_isA_26 rfl ?_
    -- at 27: .ireturn
    refine x_ireturn dFolk_isA_27 rfl rfl ?_
    exact h1 c1
def sp_Folk_isA : SpT := fun as S I L Post => ∃ (p k : Nat) (w : Int32), as = [.ref 4, .int (nI p), .int w] ∧ S = S1 ∧ p < 8 ∧ I 5 p = nI k ∧ k < 6 ∧ ¬ w = -1 ∧ bPost (isU (nI k) w) S I L Post
set_option maxHeartbeats 4000000 in
set_option maxRecDepth 100000 in
theorem c_Folk_isA : Con mFolk_isA 2 0 0 sp_Folk_isA := by
  refine con_of_X rfl fun G as S I L Post hs => ?_
  obtain ⟨p, k, w, rfl, rfl, hp, hk, hk6, hw, h1, h2⟩ := hs
  refine ⟨2, Nat.le_of_ble_eq_true rfl, ?_⟩
  show X mFolk_isA G _ S1 I L 0 [.ref 4, .int (nI p), .int w, .null, .null] [] Post
  refine x_aload_n dFolk_isA_0 rfl ?_
  refine x_getR fl_Folk_9 rfl dFolk_isA_1 rfl rfl rfl ?_
  refine x_iload_n dFolk_isA_4 rfl ?_
  -- at 5: .iaload
  refine x_ialdJ dFolk_isA_5 rfl rfl rfl (by omega) ?_
  -- at 6: .istore_n 3
  rw [hk]
  refine x_istoren_3 dFolk_isA_6 rfl rfl ?_
  refine x_iconst (v := 0) dFolk_isA_7 rfl ?_
  refine x_istore_4 dFolk_isA_8 rfl rfl ?_
  -- at 10: .iload 4
  have e0 : ∀ i : Int32, ¬ 6 ≤ i → (0 = w → Post (some (.int 1)) S1 I L) → (¬ 0 = w → Post (some (.int 0)) S1 I L) → X mFolk_isA G (2, 0, 0) S1 I L 10 [.ref 4, .int (nI p), .int w, .int 0, .int i] [] Post := fun i hi a b =>
    isA_st (k2 := -1) (by decide) hi (by unfold vp_in; decide) (by decide) a (fun q => isA_m1 (b q))
  have e1 : ∀ i : Int32, ¬ 6 ≤ i → ¬ 6 ≤ i + 1 → (1 = w ∨ 0 = w → Post (some (.int 1)) S1 I L) → (¬ (1 = w ∨ 0 = w) → Post (some (.int 0)) S1 I L) → X mFolk_isA G (2, 0, 0) S1 I L 10 [.ref 4, .int (nI p), .int w, .int 1, .int i] [] Post := fun i hi hi2 a b =>
    isA_st (k2 := 0) (by decide) hi (by unfold vp_in; decide) (by decide) (fun q => a (Or.inl q)) (fun q => e0 _ hi2 (fun z => a (Or.inr z)) (fun z => b (fun y => y.elim q z)))
  rcases (show k = 0 ∨ k = 1 ∨ k = 2 ∨ k = 3 ∨ k = 4 ∨ k = 5 by omega) with rfl | rfl | rfl | rfl | rfl | rfl
  · exact e0 0 (by decide) (fun q => h1 (Or.inl q.symm)) (fun q => h2 (fun z => by rcases z with z | z | ⟨z, z2⟩ <;> first | exact q z.symm | exact q z | (rcases z2 with z2 | z2 <;> exact absurd z2 (by decide))))
  · exact e1 0 (by decide) (by decide) (fun q => h1 (q.elim (fun z => Or.inr (Or.inl z)) (fun z => Or.inl z.symm))) (fun q => h2 (fun z => by rcases z with z | z | ⟨z, z2⟩ <;> first | exact q (Or.inr z.symm) | exact q (Or.inl z) | (rcases z2 with z2 | z2 <;> exact absurd z2 (by decide))))
  · exact isA_st (k := 2) (k2 := 0) (by decide) (by decide) (by unfold vp_in; decide) (by decide) (fun q => h1 (Or.inr (Or.inl q))) (fun q => e0 _ (by decide) (fun z => h1 (Or.inl z.symm)) (fun z => h2 (fun y => by rcases y with y | y | ⟨y, y2⟩ <;> first | exact z y.symm | exact q y | (rcases y2 with y2 | y2 <;> exact absurd y2 (by decide)))))
  · exact isA_st (k := 3) (k2 := 1) (by decide) (by decide) (by unfold vp_in; decide) (by decide) (fun q => h1 (Or.inr (Or.inl q))) (fun q => e1 _ (by decide) (by decide) (fun z => h1 (z.elim (fun y => Or.inr (Or.inr ⟨y.symm, Or.inl rfl⟩)) (fun y => Or.inl y.symm))) (fun z => h2 (fun y => by rcases y with y | y | ⟨y, y2⟩ <;> first | exact z (Or.inr y.symm) | exact q y | exact z (Or.inl y.symm))))
  · exact isA_st (k := 4) (k2 := 0) (by decide) (by decide) (by unfold vp_in; decide) (by decide) (fun q => h1 (Or.inr (Or.inl q))) (fun q => e0 _ (by decide) (fun z => h1 (Or.inl z.symm)) (fun z => h2 (fun y => by rcases y with y | y | ⟨y, y2⟩ <;> first | exact z y.symm | exact q y | (rcases y2 with y2 | y2 <;> exact absurd y2 (by decide)))))
  · exact isA_st (k := 5) (k2 := 1) (by decide) (by decide) (by unfold vp_in; decide) (by decide) (fun q => h1 (Or.inr (Or.inl q))) (fun q => e1 _ (by decide) (by decide) (fun z => h1 (z.elim (fun y => Or.inr (Or.inr ⟨y.symm, Or.inr rfl⟩)) (fun y => Or.inl y.symm))) (fun z => h2 (fun y => by rcases y with y | y | ⟨y, y2⟩ <;> first | exact z (Or.inr y.symm) | exact q y | exact z (Or.inl y.symm))))
def sp_Folk_isBound : SpT := fun as S I L Post => ∃ p : Nat, as = [.ref 4, .int (nI p)] ∧ S = S1 ∧ p < 8 ∧ bPost (¬ I 5 p = 4) S I L Post
set_option maxHeartbeats 4000000 in
set_option maxRecDepth 100000 in
theorem c_Folk_isBound : Con mFolk_isBound 2 0 0 sp_Folk_isBound := by
  refine con_of_X rfl fun G as S I L Post hs => ?_
  obtain ⟨p, rfl, rfl, hp, h1, h2⟩ := hs
  refine ⟨0, Nat.le_of_ble_eq_true rfl, ?_⟩
  show X mFolk_isBound G _ S1 I L 0 [.ref 4, .int (nI p)] [] Post
  refine x_aload_n dFolk_isBound_0 rfl ?_
  refine x_getR fl_Folk_9 rfl dFolk_isBound_1 rfl rfl rfl ?_
  refine x_iload_n dFolk_isBound_4 rfl ?_
  refine x_ialdJ dFolk_isBound_5 rfl rfl rfl (by omega) ?_
  refine x_iconst (v := 4) dFolk_isBound_6 rfl ?_
  -- at 7: .if_icmp .eq 7
  refine x_icmp_eq (tgt := 14) dFolk_isBound_7 (by decide) (fun c1 => ?_) (fun c1 => ?_)
  · refine x_iconst (v := 0) dFolk_isBound_14 rfl ?_
    -- at 15: .ireturn
    refine x_ireturn dFolk_isBound_15 rfl rfl ?_
    exact h2 (fun q => q c1)
  · refine x_iconst (v := 1) dFolk_isBound_10 rfl ?_
    refine x_goto (tgt := 15) dFolk_isBound_11 (by decide) ?_
    -- at 15: .ireturn
    refine x_ireturn dFolk_isBound_15 rfl rfl ?_
    exact h1 c1
/-- how well one of a kind hears -/
def hrK (k mo lawful vol : Int32) : Int32 := if k = 5 ∧ mo < vol then 0 else if k = 2 then lawful / 2 else lawful
def sp_Folk_hearingOf : SpT := fun as S I L Post => ∃ (p : Nat) (lawful vol : Int32), as = [.ref 4, .int (nI p), .int lawful, .int vol] ∧ S = S1 ∧ p < 8 ∧ Post (some (.int (hrK (I 5 p) (I 8 p) lawful vol))) S I L
set_option maxHeartbeats 4000000 in
set_option maxRecDepth 100000 in
theorem c_Folk_hearingOf : Con mFolk_hearingOf 2 0 0 sp_Folk_hearingOf := by
  refine con_of_X rfl fun G as S I L Post hs => ?_
  obtain ⟨p, lawful, vol, rfl, rfl, hp, h1⟩ := hs
  refine ⟨0, Nat.le_of_ble_eq_true rfl, ?_⟩
  show X mFolk_hearingOf G _ S1 I L 0 [.ref 4, .int (nI p), .int lawful, .int vol] [] Post
  have tail : ¬ (I 5 p = 5 ∧ I 8 p < vol) → X mFolk_hearingOf G (2, 0, 0) S1 I L 22 [.ref 4, .int (nI p), .int lawful, .int vol] [] Post := by
    intro hn
    rw [hrK, if_neg hn] at h1
    refine x_aload_n dFolk_hearingOf_22 rfl ?_
    refine x_getR fl_Folk_9 rfl dFolk_hearingOf_23 rfl rfl rfl ?_
    refine x_iload_n dFolk_hearingOf_26 rfl ?_
    refine x_ialdJ dFolk_hearingOf_27 rfl rfl rfl (by omega) ?_
    refine x_iconst (v := 2) dFolk_hearingOf_28 rfl ?_
    -- at 29: .if_icmp .ne 9
    refine x_icmp_ne (tgt := 38) dFolk_hearingOf_29 (by decide) (fun c2 => ?_) (fun c2 => ?_)
    · refine x_iload_n dFolk_hearingOf_38 rfl ?_
      -- at 39: .ireturn
      refine x_ireturn dFolk_hearingOf_39 rfl rfl ?_
      rw [if_neg c2] at h1
      exact h1
    · refine x_iload_n dFolk_hearingOf_32 rfl ?_
      refine x_iconst (v := 2) dFolk_hearingOf_33 rfl ?_
      refine x_idiv dFolk_hearingOf_34 (by decide) ?_
      refine x_goto (tgt := 39) dFolk_hearingOf_35 (by decide) ?_
      -- at 39: .ireturn
      refine x_ireturn dFolk_hearingOf_39 rfl rfl ?_
      rw [if_pos c2] at h1
      exact h1
  refine x_aload_n dFolk_hearingOf_0 rfl ?_
  refine x_getR fl_Folk_9 rfl dFolk_hearingOf_1 rfl rfl rfl ?_
  refine x_iload_n dFolk_hearingOf_4 rfl ?_
  refine x_ialdJ dFolk_hearingOf_5 rfl rfl rfl (by omega) ?_
  refine x_iconst (v := 5) dFolk_hearingOf_6 rfl ?_
  -- at 7: .if_icmp .ne 15
  refine x_icmp_ne (tgt := 22) dFolk_hearingOf_7 (by decide) (fun c1 => ?_) (fun c1 => ?_)
  · exact tail (fun q => c1 q.1)
  · refine x_iload_n dFolk_hearingOf_10 rfl ?_
    refine x_aload_n dFolk_hearingOf_11 rfl ?_
    refine x_getR fl_Folk_21 rfl dFolk_hearingOf_12 rfl rfl rfl ?_
    refine x_iload_n dFolk_hearingOf_15 rfl ?_
    refine x_ialdJ dFolk_hearingOf_16 rfl rfl rfl (by omega) ?_
    -- at 17: .if_icmp .le 5
    refine x_icmp_le (tgt := 22) dFolk_hearingOf_17 (by decide) (fun c2 => ?_) (fun c2 => ?_)
    · exact tail (fun q => absurd q.2 (Int32.not_lt.mpr c2))
    · refine x_iconst (v := 0) dFolk_hearingOf_20 rfl ?_
      -- at 21: .ireturn
      refine x_ireturn dFolk_hearingOf_21 rfl rfl ?_
      rw [hrK, if_pos ⟨c1, Int32.not_le.mp c2⟩] at h1
      exact h1
