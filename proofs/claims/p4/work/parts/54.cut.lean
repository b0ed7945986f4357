/-! texts: the class cuts THE TAPE into tokens -/
def sp_Reader_isLetter : SpT := fun as S I L Post => ∃ b : Int32, as = [.int b] ∧ bPost (isLet b) S I L Post
set_option maxHeartbeats 4000000 in
set_option maxRecDepth 100000 in
theorem c_Reader_isLetter : Con mReader_isLetter 3 0 0 sp_Reader_isLetter := by
  refine con_of_X rfl fun G as S I L Post hs => ?_
  obtain ⟨b, rfl, h1, h2⟩ := hs
  refine ⟨0, Nat.le_of_ble_eq_true rfl, ?_⟩
  show X mReader_isLetter G _ S I L 0 [.int b] [] Post
  refine x_iload_n dReader_isLetter_0 rfl ?_
  refine x_bipush (v := 97) dReader_isLetter_1 rfl ?_
  refine x_bipush (v := 122) dReader_isLetter_3 rfl ?_
  -- at 5: .invokestatic 126
  refine x_callSN_3 c_W_within ok_W_within nw_Reader_126 dReader_isLetter_5 rfl rfl ?_
  refine ⟨_, _, _, rfl, fun q => ?_, fun q => ?_⟩
  · refine x_ireturn dReader_isLetter_8 rfl rfl ?_
    exact h1 q
  · refine x_ireturn dReader_isLetter_8 rfl rfl ?_
    exact h2 q
def sp_Reader_isDigit : SpT := fun as S I L Post => ∃ b : Int32, as = [.int b] ∧ bPost (isDig b) S I L Post
set_option maxHeartbeats 4000000 in
set_option maxRecDepth 100000 in
theorem c_Reader_isDigit : Con mReader_isDigit 3 0 0 sp_Reader_isDigit := by
  refine con_of_X rfl fun G as S I L Post hs => ?_
  obtain ⟨b, rfl, h1, h2⟩ := hs
  refine ⟨0, Nat.le_of_ble_eq_true rfl, ?_⟩
  show X mReader_isDigit G _ S I L 0 [.int b] [] Post
  refine x_iload_n dReader_isDigit_0 rfl ?_
  refine x_bipush (v := 48) dReader_isDigit_1 rfl ?_
  refine x_bipush (v := 57) dReader_isDigit_3 rfl ?_
  -- at 5: .invokestatic 126
  refine x_callSN_3 c_W_within ok_W_within nw_Reader_126 dReader_isDigit_5 rfl rfl ?_
  refine ⟨_, _, _, rfl, fun q => ?_, fun q => ?_⟩
  · refine x_ireturn dReader_isDigit_8 rfl rfl ?_
    exact h1 q
  · refine x_ireturn dReader_isDigit_8 rfl rfl ?_
    exact h2 q
def sp_Reader_isSign : SpT := fun as S I L Post => ∃ b : Int32, as = [.int b] ∧ bPost (isSig b) S I L Post
set_option maxHeartbeats 4000000 in
set_option maxRecDepth 100000 in
theorem c_Reader_isSign : Con mReader_isSign 2 0 0 sp_Reader_isSign := by
  refine con_of_X rfl fun G as S I L Post hs => ?_
  obtain ⟨b, rfl, h1, h2⟩ := hs
  refine ⟨0, Nat.le_of_ble_eq_true rfl, ?_⟩
  show X mReader_isSign G _ S I L 0 [.int b] [] Post
  refine x_iload_n dReader_isSign_0 rfl ?_
  -- at 1: .tableswitch 105 40 61 #[103, 103, 103, 103, 105, 103, 105, 105, 105, 105, 105, 105, 105, 105, 105, 105, 105, 105, 105, 103, 103, 103]
  have yes : isSig b → X mReader_isSign G (2, 0, 0) S I L 104 [.int b] [] Post := by
    intro h
    refine x_iconst (v := 1) dReader_isSign_104 rfl ?_
    -- at 105: .ireturn
    refine x_ireturn dReader_isSign_105 rfl rfl ?_
    exact h1 h
  have no : ¬ isSig b → X mReader_isSign G (2, 0, 0) S I L 106 [.int b] [] Post := by
    intro h
    refine x_iconst (v := 0) dReader_isSign_106 rfl ?_
    -- at 107: .ireturn
    refine x_ireturn dReader_isSign_107 rfl rfl ?_
    exact h2 h
  by_cases hr : b.toInt < 40 ∨ (61 : Int) < b.toInt
  · refine x_tableOut (tgt := 106) dReader_isSign_1 hr (by decide) ?_
    refine no ?_
    rintro (e | e | e | e | e | e | e | e) <;> rw [e] at hr <;> exact absurd hr (by decide)
  · have hb : ∃ k, k ≤ 61 ∧ b = nI k := by
      refine nI_of2 (M := 61) (n := 61) (by decide) (fun z => hr (Or.inl ?_)) (Int32.le_iff_toInt_le.mpr ?_)
      · have := Int32.lt_iff_toInt_lt.mp z
        have e0 : (0 : Int32).toInt = 0 := by decide
        omega
      · have e1 : (61 : Int32).toInt = 61 := by decide
        omega
    obtain ⟨k, hk, rfl⟩ := hb
    rw [nI_toInt (by omega)] at hr
    rcases (show k = 40 ∨ k = 41 ∨ k = 42 ∨ k = 43 ∨ k = 44 ∨ k = 45 ∨ k = 46 ∨ k = 47 ∨ k = 48 ∨ k = 49 ∨ k = 50 ∨ k = 51 ∨ k = 52 ∨ k = 53 ∨ k = 54 ∨ k = 55 ∨ k = 56 ∨ k = 57 ∨ k = 58 ∨ k = 59 ∨ k = 60 ∨ k = 61 by omega) with rfl | rfl | rfl | rfl | rfl | rfl | rfl | rfl | rfl | rfl | rfl | rfl | rfl | rfl | rfl | rfl | rfl | rfl | rfl | rfl | rfl | rfl
    all_goals first
      | (refine x_tableIn (tgt := 104) dReader_isSign_1 (by decide) (by decide) rfl (by decide) ?_; exact yes (by decide))
      | (refine x_tableIn (tgt := 106) dReader_isSign_1 (by decide) (by decide) rfl (by decide) ?_; exact no (by decide))
def sp_Reader_lettersEnd : SpT := fun as S I L Post => ∃ a z : Nat, as = [.ref 23, .int (nI a)] ∧ S = S1 ∧ I 23 1 = nI z ∧ z ≤ 160 ∧ a ≤ z ∧ Post (some (.int (nI (letE (I 24) z (z - a) a)))) S1 I L
set_option maxHeartbeats 4000000 in
set_option maxRecDepth 100000 in
theorem c_Reader_lettersEnd : Con mReader_lettersEnd 4 0 0 sp_Reader_lettersEnd := by
  refine con_of_X rfl fun G as S I L Post hs => ?_
  obtain ⟨a, z, rfl, rfl, hz, hz2, ha, h1⟩ := hs
  refine ⟨1, Nat.le_of_ble_eq_true rfl, ?_⟩
  show X mReader_lettersEnd G _ S1 I L 0 [.ref 23, .int (nI a), .null] [] Post
  refine x_iload_n dReader_lettersEnd_0 rfl ?_
  refine x_istoren_2 dReader_lettersEnd_1 rfl rfl ?_
  -- at 2: .iload_n 2
  have loop : ∀ (k i : Nat), i + k = z → letE (I 24) z (z - a) a = letE (I 24) z k i → X mReader_lettersEnd G (4, 0, 0) S1 I L 2 [.ref 23, .int (nI a), .int (nI i)] [] Post := by
    intro k
    induction k with
    | zero =>
      intro i hi he
      obtain rfl : i = z := by omega
      refine x_iload_n dReader_lettersEnd_2 rfl ?_
      refine x_aload_n dReader_lettersEnd_3 rfl ?_
      refine x_getI fl_Reader_15 rfl dReader_lettersEnd_4 rfl rfl ?_
      -- at 7: .if_icmp .ge 21
      rw [hz]
      refine x_icmp_ge (tgt := 28) dReader_lettersEnd_7 (by decide) (fun _ => ?_) (fun h => absurd (Int32.le_refl _) h)
      refine x_iload_n dReader_lettersEnd_28 rfl ?_
      -- at 29: .ireturn
      refine x_ireturn dReader_lettersEnd_29 rfl rfl ?_
      rw [he] at h1
      exact h1
    | succ k ih =>
      intro i hi he
      rw [letE] at he
      refine x_iload_n dReader_lettersEnd_2 rfl ?_
      refine x_aload_n dReader_lettersEnd_3 rfl ?_
      refine x_getI fl_Reader_15 rfl dReader_lettersEnd_4 rfl rfl ?_
      -- at 7: .if_icmp .ge 21
      rw [hz]
      refine x_icmp_ge (tgt := 28) dReader_lettersEnd_7 (by decide) (fun h => absurd h (nI_ge (b := z) (by omega) (by omega))) (fun _ => ?_)
      refine x_aload_n dReader_lettersEnd_10 rfl ?_
      refine x_getR fl_Reader_9 rfl dReader_lettersEnd_11 rfl rfl rfl ?_
      refine x_iload_n dReader_lettersEnd_14 rfl ?_
      refine x_ialdJ (j := i) dReader_lettersEnd_15 rfl rfl (by first | rfl | (simp only [← nI_add, ← pk_mul]; rfl)) (by omega) ?_
      -- at 16: .invokestatic 54
      refine x_callS_1 c_Reader_isLetter ok_Reader_isLetter ml_Reader_54 dReader_lettersEnd_16 rfl rfl ?_
      refine ⟨_, rfl, fun q => ?_, fun q => ?_⟩
      · rw [if_pos ⟨by omega, q⟩] at he
        refine x_if_eq (tgt := 28) dReader_lettersEnd_19 (by decide) (fun h => absurd h (by decide)) (fun _ => ?_)
        refine x_iincp_2 dReader_lettersEnd_22 rfl rfl ?_
        refine x_goto (tgt := 2) dReader_lettersEnd_25 (by decide) ?_
        -- at 2: .iload_n 2
        rw [nI_1]
        exact ih (i + 1) (by omega) he
      · rw [if_neg (fun y => q y.2)] at he
        refine x_if_eq (tgt := 28) dReader_lettersEnd_19 (by decide) (fun _ => ?_) (fun h => absurd (by decide) h)
        refine x_iload_n dReader_lettersEnd_28 rfl ?_
        -- at 29: .ireturn
        refine x_ireturn dReader_lettersEnd_29 rfl rfl ?_
        rw [he] at h1
        exact h1
  exact loop (z - a) a (by omega) rfl
def sp_Reader_digitsEnd : SpT := fun as S I L Post => ∃ a z : Nat, as = [.ref 23, .int (nI a)] ∧ S = S1 ∧ I 23 1 = nI z ∧ z ≤ 160 ∧ a ≤ z ∧ Post (some (.int (nI (digE (I 24) z (z - a) a)))) S1 I L
set_option maxHeartbeats 4000000 in
set_option maxRecDepth 100000 in
theorem c_Reader_digitsEnd : Con mReader_digitsEnd 4 0 0 sp_Reader_digitsEnd := by
  refine con_of_X rfl fun G as S I L Post hs => ?_
  obtain ⟨a, z, rfl, rfl, hz, hz2, ha, h1⟩ := hs
  refine ⟨1, Nat.le_of_ble_eq_true rfl, ?_⟩
  show X mReader_digitsEnd G _ S1 I L 0 [.ref 23, .int (nI a), .null] [] Post
  refine x_iload_n dReader_digitsEnd_0 rfl ?_
  refine x_istoren_2 dReader_digitsEnd_1 rfl rfl ?_
  -- at 2: .iload_n 2
  have loop : ∀ (k i : Nat), i + k = z → digE (I 24) z (z - a) a = digE (I 24) z k i → X mReader_digitsEnd G (4, 0, 0) S1 I L 2 [.ref 23, .int (nI a), .int (nI i)] [] Post := by
    intro k
    induction k with
    | zero =>
      intro i hi he
      obtain rfl : i = z := by omega
      refine x_iload_n dReader_digitsEnd_2 rfl ?_
      refine x_aload_n dReader_digitsEnd_3 rfl ?_
      refine x_getI fl_Reader_15 rfl dReader_digitsEnd_4 rfl rfl ?_
      -- at 7: .if_icmp .ge 21
      rw [hz]
      refine x_icmp_ge (tgt := 28) dReader_digitsEnd_7 (by decide) (fun _ => ?_) (fun h => absurd (Int32.le_refl _) h)
      refine x_iload_n dReader_digitsEnd_28 rfl ?_
      -- at 29: .ireturn
      refine x_ireturn dReader_digitsEnd_29 rfl rfl ?_
      rw [he] at h1
      exact h1
    | succ k ih =>
      intro i hi he
      rw [digE] at he
      refine x_iload_n dReader_digitsEnd_2 rfl ?_
      refine x_aload_n dReader_digitsEnd_3 rfl ?_
      refine x_getI fl_Reader_15 rfl dReader_digitsEnd_4 rfl rfl ?_
      -- at 7: .if_icmp .ge 21
      rw [hz]
      refine x_icmp_ge (tgt := 28) dReader_digitsEnd_7 (by decide) (fun h => absurd h (nI_ge (b := z) (by omega) (by omega))) (fun _ => ?_)
      refine x_aload_n dReader_digitsEnd_10 rfl ?_
      refine x_getR fl_Reader_9 rfl dReader_digitsEnd_11 rfl rfl rfl ?_
      refine x_iload_n dReader_digitsEnd_14 rfl ?_
      refine x_ialdJ (j := i) dReader_digitsEnd_15 rfl rfl (by first | rfl | (simp only [← nI_add, ← pk_mul]; rfl)) (by omega) ?_
      -- at 16: .invokestatic 65
      refine x_callS_1 c_Reader_isDigit ok_Reader_isDigit ml_Reader_65 dReader_digitsEnd_16 rfl rfl ?_
      refine ⟨_, rfl, fun q => ?_, fun q => ?_⟩
      · rw [if_pos ⟨by omega, q⟩] at he
        refine x_if_eq (tgt := 28) dReader_digitsEnd_19 (by decide) (fun h => absurd h (by decide)) (fun _ => ?_)
        refine x_iincp_2 dReader_digitsEnd_22 rfl rfl ?_
        refine x_goto (tgt := 2) dReader_digitsEnd_25 (by decide) ?_
        -- at 2: .iload_n 2
        rw [nI_1]
        exact ih (i + 1) (by omega) he
      · rw [if_neg (fun y => q y.2)] at he
        refine x_if_eq (tgt := 28) dReader_digitsEnd_19 (by decide) (fun _ => ?_) (fun h => absurd (by decide) h)
        refine x_iload_n dReader_digitsEnd_28 rfl ?_
        -- at 29: .ireturn
        refine x_ireturn dReader_digitsEnd_29 rfl rfl ?_
        rw [he] at h1
        exact h1
  exact loop (z - a) a (by omega) rfl
/-- one token more -/
def ptk (I : IM) (n : Nat) (s p v : Int32) : IM := up2 (up2 (up2 (up2 I 25 n s) 26 n p) 27 n v) 23 5 (nI n + 1)
def sp_Reader_putToken : SpT := fun as S I L Post => ∃ (n : Nat) (s p v : Int32), as = [.ref 23, .int s, .int p, .int v] ∧ S = S1 ∧ I 23 5 = nI n ∧ n ≤ 160 ∧ Post none S1 (ptk I n s p v) L
set_option maxHeartbeats 4000000 in
set_option maxRecDepth 100000 in
theorem c_Reader_putToken : Con mReader_putToken 2 0 0 sp_Reader_putToken := by
  refine con_of_X rfl fun G as S I L Post hs => ?_
  obtain ⟨n, s, p, v, rfl, rfl, hn, h160, h1⟩ := hs
  refine ⟨0, Nat.le_of_ble_eq_true rfl, ?_⟩
  show X mReader_putToken G _ S1 I L 0 [.ref 23, .int s, .int p, .int v] [] Post
  refine x_aload_n dReader_putToken_0 rfl ?_
  refine x_getI fl_Reader_28 rfl dReader_putToken_1 rfl rfl ?_
  refine x_sipush (v := 160) dReader_putToken_4 rfl ?_
  -- at 7: .if_icmp .gt 43
  rw [hn]
  refine x_icmp_gt (tgt := 50) dReader_putToken_7 (by decide) (fun h => absurd h (Int32.not_lt.mpr (nI_le (b := 160) h160 (by omega)))) (fun _ => ?_)
  refine x_aload_n dReader_putToken_10 rfl ?_
  refine x_getR fl_Reader_19 rfl dReader_putToken_11 rfl rfl rfl ?_
  refine x_aload_n dReader_putToken_14 rfl ?_
  refine x_getI fl_Reader_28 rfl dReader_putToken_15 rfl rfl ?_
  -- at 18: .iload_n 1
  rw [hn]
  refine x_iload_n dReader_putToken_18 rfl ?_
  refine x_iastJ (j := n) dReader_putToken_19 rfl rfl (by first | rfl | (simp only [← nI_add, ← pk_mul]; rfl)) (by omega) ?_
  refine x_aload_n dReader_putToken_20 rfl ?_
  refine x_getR fl_Reader_22 rfl dReader_putToken_21 rfl rfl rfl ?_
  refine x_aload_n dReader_putToken_24 rfl ?_
  refine x_getI fl_Reader_28 rfl dReader_putToken_25 rfl rfl ?_
  -- at 28: .iload_n 2
  simp only [up2_n, up2_s, ne_eq, Nat.reduceEqDiff, not_false_eq_true, hn]
  refine x_iload_n dReader_putToken_28 rfl ?_
  refine x_iastJ (j := n) dReader_putToken_29 rfl rfl (by first | rfl | (simp only [← nI_add, ← pk_mul]; rfl)) (by omega) ?_
  refine x_aload_n dReader_putToken_30 rfl ?_
  refine x_getR fl_Reader_25 rfl dReader_putToken_31 rfl rfl rfl ?_
  refine x_aload_n dReader_putToken_34 rfl ?_
  refine x_getI fl_Reader_28 rfl dReader_putToken_35 rfl rfl ?_
  -- at 38: .iload_n 3
  simp only [up2_n, up2_s, ne_eq, Nat.reduceEqDiff, not_false_eq_true, hn]
  refine x_iload_n dReader_putToken_38 rfl ?_
  refine x_iastJ (j := n) dReader_putToken_39 rfl rfl (by first | rfl | (simp only [← nI_add, ← pk_mul]; rfl)) (by omega) ?_
  refine x_aload_n dReader_putToken_40 rfl ?_
  refine x_dup dReader_putToken_41 rfl ?_
  refine x_getI fl_Reader_28 rfl dReader_putToken_42 rfl rfl ?_
  refine x_iconst (v := 1) dReader_putToken_45 rfl ?_
  refine x_iadd dReader_putToken_46 ?_
  refine x_putI fl_Reader_28 rfl dReader_putToken_47 (by decide) rfl rfl rfl rfl ?_
  -- at 50: .return_
  simp only [up2_n, up2_s, ne_eq, Nat.reduceEqDiff, not_false_eq_true, hn]
  refine x_return dReader_putToken_50 rfl ?_
  exact h1
def sp_Reader_putNumber : SpT := fun as S I L Post => ∃ a e n : Nat, as = [.ref 23, .int (nI a), .int (nI e)] ∧ S = S1 ∧ I 23 5 = nI n ∧ n ≤ 160 ∧ a ≤ e ∧ e ≤ 160 ∧
  Post none S1 (if 4 < e - a then ptk I n 1 (nI a) 0 else ptk I n 2 (nI a) (numV (I 24) (e - a) a)) L
set_option maxHeartbeats 4000000 in
set_option maxRecDepth 100000 in
theorem c_Reader_putNumber : Con mReader_putNumber 3 0 0 sp_Reader_putNumber := by
  refine con_of_X rfl fun G as S I L Post hs => ?_
  obtain ⟨a, e, n, rfl, rfl, hn, h160, hae, he, h1⟩ := hs
  refine ⟨2, Nat.le_of_ble_eq_true rfl, ?_⟩
  show X mReader_putNumber G _ S1 I L 0 [.ref 23, .int (nI a), .int (nI e), .null, .null] [] Post
  refine x_iload_n dReader_putNumber_0 rfl ?_
  refine x_iload_n dReader_putNumber_1 rfl ?_
  refine x_isub dReader_putNumber_2 ?_
  -- at 3: .iconst 4
  refine x_eqi (y := nI (e - a)) (pk_sub hae) ?_
  refine x_iconst (v := 4) dReader_putNumber_3 rfl ?_
  -- at 4: .if_icmp .le 11
  by_cases h4 : 4 < e - a
  · rw [if_pos h4] at h1
    refine x_icmp_le (tgt := 15) dReader_putNumber_4 (by decide) (fun h => absurd h (nI_ge (a := 4) h4 (by omega))) (fun _ => ?_)
    refine x_aload_n dReader_putNumber_7 rfl ?_
    refine x_iconst (v := 1) dReader_putNumber_8 rfl ?_
    refine x_iload_n dReader_putNumber_9 rfl ?_
    refine x_iconst (v := 0) dReader_putNumber_10 rfl ?_
    -- at 11: .invokevirtual 77
    refine x_callV_3 c_Reader_putToken ok_Reader_putToken ml_Reader_77 dReader_putNumber_11 rfl rfl rfl rfl rfl ?_
    refine ⟨n, _, _, _, rfl, rfl, hn, h160, ?_⟩
    refine x_return dReader_putNumber_14 rfl ?_
    exact h1
  · rw [if_neg h4] at h1
    refine x_icmp_le (tgt := 15) dReader_putNumber_4 (by decide) (fun _ => ?_) (fun h => absurd (nI_le (b := 4) (by omega) (by omega)) h)
    refine x_iconst (v := 0) dReader_putNumber_15 rfl ?_
    refine x_istoren_3 dReader_putNumber_16 rfl rfl ?_
    refine x_iload_n dReader_putNumber_17 rfl ?_
    refine x_istore_4 dReader_putNumber_18 rfl rfl ?_
    -- at 20: .iload 4
    have loop : ∀ (k i : Nat) (acc : Int32), i + k = e - a → acc = numV (I 24) i a → X mReader_putNumber G (3, 0, 0) S1 I L 20 [.ref 23, .int (nI a), .int (nI e), .int acc, .int (nI (a + i))] [] Post := by
      intro k
      induction k with
      | zero =>
        intro i acc hi hacc
        refine x_iload dReader_putNumber_20 rfl ?_
        refine x_iload_n dReader_putNumber_22 rfl ?_
        -- at 23: .if_icmp .ge 25
        refine x_icmp_ge (tgt := 48) dReader_putNumber_23 (by decide) (fun _ => ?_) (fun h => absurd (nI_le (by omega) (by omega)) h)
        refine x_aload_n dReader_putNumber_48 rfl ?_
        refine x_iconst (v := 2) dReader_putNumber_49 rfl ?_
        refine x_iload_n dReader_putNumber_50 rfl ?_
        refine x_iload_n dReader_putNumber_51 rfl ?_
        -- at 52: .invokevirtual 77
        refine x_callV_3 c_Reader_putToken ok_Reader_putToken ml_Reader_77 dReader_putNumber_52 rfl rfl rfl rfl rfl ?_
        refine ⟨n, _, _, _, rfl, rfl, hn, h160, ?_⟩
        refine x_return dReader_putNumber_55 rfl ?_
        obtain rfl : i = e - a := by omega
        rw [hacc]
        exact h1
      | succ k ih =>
        intro i acc hi hacc
        refine x_iload dReader_putNumber_20 rfl ?_
        refine x_iload_n dReader_putNumber_22 rfl ?_
        -- at 23: .if_icmp .ge 25
        refine x_icmp_ge (tgt := 48) dReader_putNumber_23 (by decide) (fun h => absurd h (nI_ge (b := e) (by omega) (by omega))) (fun _ => ?_)
        refine x_iload_n dReader_putNumber_26 rfl ?_
        refine x_bipush (v := 10) dReader_putNumber_27 rfl ?_
        refine x_imul dReader_putNumber_29 ?_
        refine x_aload_n dReader_putNumber_30 rfl ?_
        refine x_getR fl_Reader_9 rfl dReader_putNumber_31 rfl rfl rfl ?_
        refine x_iload dReader_putNumber_34 rfl ?_
        refine x_ialdJ (j := a + i) dReader_putNumber_36 rfl rfl (by first | rfl | (simp only [← nI_add, ← pk_mul]; rfl)) (by omega) ?_
        refine x_iadd dReader_putNumber_37 ?_
        refine x_bipush (v := 48) dReader_putNumber_38 rfl ?_
        refine x_isub dReader_putNumber_40 ?_
        refine x_istoren_3 dReader_putNumber_41 rfl rfl ?_
        refine x_iincp_4 dReader_putNumber_42 rfl rfl ?_
        refine x_goto (tgt := 20) dReader_putNumber_45 (by decide) ?_
        -- at 20: .iload 4
        rw [nI_1]
        refine ih (i + 1) _ (by omega) ?_
        rw [numV, hacc]
    exact loop (e - a) 0 0 (by omega) rfl
/-- a word spells a string constant -/
theorem word_eq {f : Nat → Int32} {a e q : Nat} (hq : q < nStr) (hl : stL.getD q 0 = e - a) (h : ∀ i, i < e - a → (stB.getD q []).getD i 0 = f (a + i)) : wordAt f a e = stB.getD q [] := by
  have hlen : (stB.getD q []).length = stL.getD q 0 := (show ∀ q, q < nStr → (stB.getD q []).length = stL.getD q 0 by decide) q hq
  apply List.ext_getElem
  · rw [show (wordAt f a e).length = e - a by simp [wordAt], hlen, hl]
  · intro i h1 h2
    simp [wordAt] at h1
    have := h i (by omega)
    rw [List.getD_eq_getElem?_getD, List.getElem?_eq_getElem h2] at this
    simp [wordAt]
    exact this.symm
theorem word_ne1 {f : Nat → Int32} {a e q : Nat} (hq : q < nStr) (hl : ¬ stL.getD q 0 = e - a) : ¬ wordAt f a e = stB.getD q [] := by
  intro z
  have hlen : (stB.getD q []).length = stL.getD q 0 := (show ∀ q, q < nStr → (stB.getD q []).length = stL.getD q 0 by decide) q hq
  have h1 : (wordAt f a e).length = e - a := by simp [wordAt]
  rw [z, hlen] at h1
  exact hl h1
theorem word_ne2 {f : Nat → Int32} {a e q i : Nat} (hi : i < e - a) (h : ¬ (stB.getD q []).getD i 0 = f (a + i)) : ¬ wordAt f a e = stB.getD q [] := by
  intro z
  apply h
  rw [← z]
  simp [wordAt, List.getD_eq_getElem?_getD, hi]
def sp_Reader_spells : SpT := fun as S I L Post => ∃ q a e : Nat, as = [.ref 23, .ref (1000000 + q), .int (nI a), .int (nI e)] ∧ S = S1 ∧ q < nStr ∧ a ≤ e ∧ e ≤ 160 ∧ bPost (wordAt (I 24) a e = stB.getD q []) S1 I L Post
set_option maxHeartbeats 4000000 in
set_option maxRecDepth 100000 in
theorem c_Reader_spells : Con mReader_spells 7 0 0 sp_Reader_spells := by
  refine con_of_X rfl fun G as S I L Post hs => ?_
  obtain ⟨q, a, e, rfl, rfl, hq, hae, he, h1, h2⟩ := hs
  have h75 := len_ok q hq
  refine ⟨1, Nat.le_of_ble_eq_true rfl, ?_⟩
  show X mReader_spells G _ S1 I L 0 [.ref 23, .ref (1000000 + q), .int (nI a), .int (nI e), .null] [] Post
  refine x_aload_n dReader_spells_0 rfl ?_
  -- at 1: .invokevirtual 116
  refine x_callT (As := []) (rest := []) c_String_length ok_String_length ml_Reader_116 dReader_spells_1 rfl rfl rfl hq rfl rfl ?_
  refine ⟨q, rfl, hq, ?_⟩
  refine x_iload_n dReader_spells_4 rfl ?_
  refine x_iload_n dReader_spells_5 rfl ?_
  -- at 6: .isub
  refine (x_isub dReader_spells_6 ?_)
  refine x_eqi (y := nI (e - a)) (pk_sub hae) ?_
  by_cases hl : stL.getD q 0 = e - a
  · refine x_icmp_eq (tgt := 12) dReader_spells_7 (by decide) (fun _ => ?_) (fun h => absurd (congrArg nI hl) h)
    refine x_iload_n dReader_spells_12 rfl ?_
    refine x_istore_4 dReader_spells_13 rfl rfl ?_
    -- at 15: .iload 4
    have loop : ∀ (k i : Nat), i + k = e - a → (∀ j, j < i → (stB.getD q []).getD j 0 = I 24 (a + j)) → X mReader_spells G (7, 0, 0) S1 I L 15 [.ref 23, .ref (1000000 + q), .int (nI a), .int (nI e), .int (nI (a + i))] [] Post := by
      intro k
      induction k with
      | zero =>
        intro i hi hall
        refine x_iload dReader_spells_15 rfl ?_
        refine x_iload_n dReader_spells_17 rfl ?_
        -- at 18: .if_icmp .ge 29
        refine x_icmp_ge (tgt := 47) dReader_spells_18 (by decide) (fun _ => ?_) (fun h => absurd (nI_le (by omega) (by omega)) h)
        refine x_iconst (v := 1) dReader_spells_47 rfl ?_
        -- at 48: .ireturn
        refine x_ireturn dReader_spells_48 rfl rfl ?_
        exact h1 (word_eq hq hl (fun j hj => hall j (by omega)))
      | succ k ih =>
        intro i hi hall
        refine x_iload dReader_spells_15 rfl ?_
        refine x_iload_n dReader_spells_17 rfl ?_
        -- at 18: .if_icmp .ge 29
        refine x_icmp_ge (tgt := 47) dReader_spells_18 (by decide) (fun h => absurd h (nI_ge (b := e) (by omega) (by omega))) (fun _ => ?_)
        refine x_aload_n dReader_spells_21 rfl ?_
        refine x_iload dReader_spells_22 rfl ?_
        refine x_iload_n dReader_spells_24 rfl ?_
        refine x_isub dReader_spells_25 ?_
        -- at 26: .invokevirtual 122
        refine x_eqi (y := nI i) (by rw [pk_sub (by omega)]; congr 1; omega) ?_
        refine x_callT (As := [.int (nI i)]) (rest := []) c_String_charAt ok_String_charAt ml_Reader_122 dReader_spells_26 rfl rfl rfl hq rfl rfl ?_
        refine ⟨q, i, rfl, hq, by omega, ?_⟩
        refine x_aload_n dReader_spells_29 rfl ?_
        refine x_getR fl_Reader_9 rfl dReader_spells_30 rfl rfl rfl ?_
        refine x_iload dReader_spells_33 rfl ?_
        refine x_ialdJ (j := a + i) dReader_spells_35 rfl rfl (by first | rfl | (simp only [← nI_add, ← pk_mul]; rfl)) (by omega) ?_
        -- at 36: .if_icmp .eq 5
        refine x_icmp_eq (tgt := 41) dReader_spells_36 (by decide) (fun d1 => ?_) (fun d1 => ?_)
        · refine x_iincp_4 dReader_spells_41 rfl rfl ?_
          refine x_goto (tgt := 15) dReader_spells_44 (by decide) ?_
          -- at 15: .iload 4
          rw [nI_1]
          refine ih (i + 1) (by omega) (fun j hj => ?_)
          by_cases y : j = i
          · subst y; exact d1
          · exact hall j (by omega)
        · refine x_iconst (v := 0) dReader_spells_39 rfl ?_
          -- at 40: .ireturn
          refine x_ireturn dReader_spells_40 rfl rfl ?_
          exact h2 (word_ne2 (i := i) (by omega) d1)
    exact loop (e - a) 0 (by omega) (fun j hj => absurd hj (Nat.not_lt_zero j))
  · refine x_icmp_eq (tgt := 12) dReader_spells_7 (by decide) (fun h => absurd h (fun z => hl ((nI_eq (by omega) (by omega)).mp z))) (fun _ => ?_)
    refine x_iconst (v := 0) dReader_spells_10 rfl ?_
    -- at 11: .ireturn
    refine x_ireturn dReader_spells_11 rfl rfl ?_
    exact h2 (word_ne1 hq hl)
