section
-- 83.s5
/-! the class's reader while the class is being made: 59 cells -/
def S5 : Shp := (59, kd S1, rr S1)
def sp_Reader_lettersEnd5 : SpT := fun as S I L Post => ∃ a z : Nat, as = [.ref 23, .int (nI a)] ∧ S = S5 ∧ I 23 1 = nI z ∧ z ≤ 160 ∧ a ≤ z ∧ Post (some (.int (nI (letE (I 24) z (z - a) a)))) S5 I L
set_option maxHeartbeats 4000000 in
set_option maxRecDepth 100000 in
theorem c_Reader_lettersEnd5 : Con mReader_lettersEnd 4 0 0 sp_Reader_lettersEnd5 := by
  refine con_of_X rfl fun G as S I L Post hs => ?_
  obtain ⟨a, z, rfl, rfl, hz, hz2, ha, h1⟩ := hs
  refine ⟨1, Nat.le_of_ble_eq_true rfl, ?_⟩
  show X mReader_lettersEnd G _ S5 I L 0 [.ref 23, .int (nI a), .null] [] Post
  refine x_iload_n dReader_lettersEnd_0 rfl ?_
  refine x_istoren_2 dReader_lettersEnd_1 rfl rfl ?_
  -- at 2: .iload_n 2
  have loop : ∀ (k i : Nat), i + k = z → letE (I 24) z (z - a) a = letE (I 24) z k i → X mReader_lettersEnd G (4, 0, 0) S5 I L 2 [.ref 23, .int (nI a), .int (nI i)] [] Post := by
    intro k
    induction k with
    | zero =>
      intro i hi he
      obtain rfl : i = z := by omega
      refine x_iload_n dReader_lettersEnd_2 rfl ?_
      refine x_aload_n dReader_lettersEnd_3 rfl ?_
      refine x_getI fl_Reader_15 rfl dReader_lettersEnd_4 rfl rfl ?_
      -- at 7: .if_icmp .ge 21
      rw [hz]
      refine x_icmp_ge (tgt := 28) dReader_lettersEnd_7 (by decide) (fun _ => ?_) (fun h => absurd (Int32.le_refl _) h)
      refine x_iload_n dReader_lettersEnd_28 rfl ?_
      -- at 29: .ireturn
      refine x_ireturn dReader_lettersEnd_29 rfl rfl ?_
      rw [he] at h1
      exact h1
    | succ k ih =>
      intro i hi he
      rw [letE] at he
      refine x_iload_n dReader_lettersEnd_2 rfl ?_
      refine x_aload_n dReader_lettersEnd_3 rfl ?_
      refine x_getI fl_Reader_15 rfl dReader_lettersEnd_4 rfl rfl ?_
      -- at 7: .if_icmp .ge 21
      rw [hz]
      refine x_icmp_ge (tgt := 28) dReader_lettersEnd_7 (by decide) (fun h => absurd h (nI_ge (b := z) (by omega) (by omega))) (fun _ => ?_)
      refine x_aload_n dReader_lettersEnd_10 rfl ?_
      refine x_getR fl_Reader_9 rfl dReader_lettersEnd_11 rfl rfl rfl ?_
      refine x_iload_n dReader_lettersEnd_14 rfl ?_
      refine x_ialdJ (j := i) dReader_lettersEnd_15 rfl rfl (by first | rfl | (simp only [← nI_add, ← pk_mul]; rfl)) (by omega) ?_
      -- at 16: .invokestatic 54
      refine x_callS_1 c_Reader_isLetter ok_Reader_isLetter ml_Reader_54 dReader_lettersEnd_16 rfl rfl ?_
      refine ⟨_, rfl, fun q => ?_, fun q => ?_⟩
      · rw [if_pos ⟨by omega, q⟩] at he
        refine x_if_eq (tgt := 28) dReader_lettersEnd_19 (by decide) (fun h => absurd h (by decide)) (fun _ => ?_)
        refine x_iincp_2 dReader_lettersEnd_22 rfl rfl ?_
        refine x_goto (tgt := 2) dReader_lettersEnd_25 (by decide) ?_
        -- at 2: .iload_n 2
        rw [nI_1]
        exact ih (i + 1) (by omega) he
      · rw [if_neg (fun y => q y.2)] at he
        refine x_if_eq (tgt := 28) dReader_lettersEnd_19 (by decide) (fun _ => ?_) (fun h => absurd (by decide) h)
        refine x_iload_n dReader_lettersEnd_28 rfl ?_
        -- at 29: .ireturn
        refine x_ireturn dReader_lettersEnd_29 rfl rfl ?_
        rw [he] at h1
        exact h1
  exact loop (z - a) a (by omega) rfl
def sp_Reader_digitsEnd5 : SpT := fun as S I L Post => ∃ a z : Nat, as = [.ref 23, .int (nI a)] ∧ S = S5 ∧ I 23 1 = nI z ∧ z ≤ 160 ∧ a ≤ z ∧ Post (some (.int (nI (digE (I 24) z (z - a) a)))) S5 I L
set_option maxHeartbeats 4000000 in
set_option maxRecDepth 100000 in
theorem c_Reader_digitsEnd5 : Con mReader_digitsEnd 4 0 0 sp_Reader_digitsEnd5 := by
  refine con_of_X rfl fun G as S I L Post hs => ?_
  obtain ⟨a, z, rfl, rfl, hz, hz2, ha, h1⟩ := hs
  refine ⟨1, Nat.le_of_ble_eq_true rfl, ?_⟩
  show X mReader_digitsEnd G _ S5 I L 0 [.ref 23, .int (nI a), .null] [] Post
  refine x_iload_n dReader_digitsEnd_0 rfl ?_
  refine x_istoren_2 dReader_digitsEnd_1 rfl rfl ?_
  -- at 2: .iload_n 2
  have loop : ∀ (k i : Nat), i + k = z → digE (I 24) z (z - a) a = digE (I 24) z k i → X mReader_digitsEnd G (4, 0, 0) S5 I L 2 [.ref 23, .int (nI a), .int (nI i)] [] Post := by
    intro k
    induction k with
    | zero =>
      intro i hi he
      obtain rfl : i = z := by omega
      refine x_iload_n dReader_digitsEnd_2 rfl ?_
      refine x_aload_n dReader_digitsEnd_3 rfl ?_
      refine x_getI fl_Reader_15 rfl dReader_digitsEnd_4 rfl rfl ?_
      -- at 7: .if_icmp .ge 21
      rw [hz]
      refine x_icmp_ge (tgt := 28) dReader_digitsEnd_7 (by decide) (fun _ => ?_) (fun h => absurd (Int32.le_refl _) h)
      refine x_iload_n dReader_digitsEnd_28 rfl ?_
      -- at 29: .ireturn
      refine x_ireturn dReader_digitsEnd_29 rfl rfl ?_
      rw [he] at h1
      exact h1
    | succ k ih =>
      intro i hi he
      rw [digE] at he
      refine x_iload_n dReader_digitsEnd_2 rfl ?_
      refine x_aload_n dReader_digitsEnd_3 rfl ?_
      refine x_getI fl_Reader_15 rfl dReader_digitsEnd_4 rfl rfl ?_
      -- at 7: .if_icmp .ge 21
      rw [hz]
      refine x_icmp_ge (tgt := 28) dReader_digitsEnd_7 (by decide) (fun h => absurd h (nI_ge (b := z) (by omega) (by omega))) (fun _ => ?_)
      refine x_aload_n dReader_digitsEnd_10 rfl ?_
      refine x_getR fl_Reader_9 rfl dReader_digitsEnd_11 rfl rfl rfl ?_
      refine x_iload_n dReader_digitsEnd_14 rfl ?_
      refine x_ialdJ (j := i) dReader_digitsEnd_15 rfl rfl (by first | rfl | (simp only [← nI_add, ← pk_mul]; rfl)) (by omega) ?_
      -- at 16: .invokestatic 65
      refine x_callS_1 c_Reader_isDigit ok_Reader_isDigit ml_Reader_65 dReader_digitsEnd_16 rfl rfl ?_
      refine ⟨_, rfl, fun q => ?_, fun q => ?_⟩
      · rw [if_pos ⟨by omega, q⟩] at he
        refine x_if_eq (tgt := 28) dReader_digitsEnd_19 (by decide) (fun h => absurd h (by decide)) (fun _ => ?_)
        refine x_iincp_2 dReader_digitsEnd_22 rfl rfl ?_
        refine x_goto (tgt := 2) dReader_digitsEnd_25 (by decide) ?_
        -- at 2: .iload_n 2
        rw [nI_1]
        exact ih (i + 1) (by omega) he
      · rw [if_neg (fun y => q y.2)] at he
        refine x_if_eq (tgt := 28) dReader_digitsEnd_19 (by decide) (fun _ => ?_) (fun h => absurd (by decide) h)
        refine x_iload_n dReader_digitsEnd_28 rfl ?_
        -- at 29: .ireturn
        refine x_ireturn dReader_digitsEnd_29 rfl rfl ?_
        rw [he] at h1
        exact h1
  exact loop (z - a) a (by omega) rfl
def sp_Reader_putToken5 : SpT := fun as S I L Post => ∃ (n : Nat) (s p v : Int32), as = [.ref 23, .int s, .int p, .int v] ∧ S = S5 ∧ I 23 5 = nI n ∧ n ≤ 160 ∧ Post none S5 (ptk I n s p v) L
set_option maxHeartbeats 4000000 in
set_option maxRecDepth 100000 in
theorem c_Reader_putToken5 : Con mReader_putToken 2 0 0 sp_Reader_putToken5 := by
  refine con_of_X rfl fun G as S I L Post hs => ?_
  obtain ⟨n, s, p, v, rfl, rfl, hn, h160, h1⟩ := hs
  refine ⟨0, Nat.le_of_ble_eq_true rfl, ?_⟩
  show X mReader_putToken G _ S5 I L 0 [.ref 23, .int s, .int p, .int v] [] Post
  refine x_aload_n dReader_putToken_0 rfl ?_
  refine x_getI fl_Reader_28 rfl dReader_putToken_1 rfl rfl ?_
  refine x_sipush (v := 160) dReader_putToken_4 rfl ?_
  -- at 7: .if_icmp .gt 43
  rw [hn]
  refine x_icmp_gt (tgt := 50) dReader_putToken_7 (by decide) (fun h => absurd h (Int32.not_lt.mpr (nI_le (b := 160) h160 (by omega)))) (fun _ => ?_)
  refine x_aload_n dReader_putToken_10 rfl ?_
  refine x_getR fl_Reader_19 rfl dReader_putToken_11 rfl rfl rfl ?_
  refine x_aload_n dReader_putToken_14 rfl ?_
  refine x_getI fl_Reader_28 rfl dReader_putToken_15 rfl rfl ?_
  -- at 18: .iload_n 1
  rw [hn]
  refine x_iload_n dReader_putToken_18 rfl ?_
  refine x_iastJ (j := n) dReader_putToken_19 rfl rfl (by first | rfl | (simp only [← nI_add, ← pk_mul]; rfl)) (by omega) ?_
  refine x_aload_n dReader_putToken_20 rfl ?_
  refine x_getR fl_Reader_22 rfl dReader_putToken_21 rfl rfl rfl ?_
  refine x_aload_n dReader_putToken_24 rfl ?_
  refine x_getI fl_Reader_28 rfl dReader_putToken_25 rfl rfl ?_
  -- at 28: .iload_n 2
  simp only [up2_n, up2_s, ne_eq, Nat.reduceEqDiff, not_false_eq_true, hn]
  refine x_iload_n dReader_putToken_28 rfl ?_
  refine x_iastJ (j := n) dReader_putToken_29 rfl rfl (by first | rfl | (simp only [← nI_add, ← pk_mul]; rfl)) (by omega) ?_
  refine x_aload_n dReader_putToken_30 rfl ?_
  refine x_getR fl_Reader_25 rfl dReader_putToken_31 rfl rfl rfl ?_
  refine x_aload_n dReader_putToken_34 rfl ?_
  refine x_getI fl_Reader_28 rfl dReader_putToken_35 rfl rfl ?_
  -- at 38: .iload_n 3
  simp only [up2_n, up2_s, ne_eq, Nat.reduceEqDiff, not_false_eq_true, hn]
  refine x_iload_n dReader_putToken_38 rfl ?_
  refine x_iastJ (j := n) dReader_putToken_39 rfl rfl (by first | rfl | (simp only [← nI_add, ← pk_mul]; rfl)) (by omega) ?_
  refine x_aload_n dReader_putToken_40 rfl ?_
  refine x_dup dReader_putToken_41 rfl ?_
  refine x_getI fl_Reader_28 rfl dReader_putToken_42 rfl rfl ?_
  refine x_iconst (v := 1) dReader_putToken_45 rfl ?_
  refine x_iadd dReader_putToken_46 ?_
  refine x_putI fl_Reader_28 rfl dReader_putToken_47 (by decide) rfl rfl rfl rfl ?_
  -- at 50: .return_
  simp only [up2_n, up2_s, ne_eq, Nat.reduceEqDiff, not_false_eq_true, hn]
  refine x_return dReader_putToken_50 rfl ?_
  exact h1
def sp_Reader_putNumber5 : SpT := fun as S I L Post => ∃ a e n : Nat, as = [.ref 23, .int (nI a), .int (nI e)] ∧ S = S5 ∧ I 23 5 = nI n ∧ n ≤ 160 ∧ a ≤ e ∧ e ≤ 160 ∧
  Post none S5 (if 4 < e - a then ptk I n 1 (nI a) 0 else ptk I n 2 (nI a) (numV (I 24) (e - a) a)) L
set_option maxHeartbeats 4000000 in
set_option maxRecDepth 100000 in
theorem c_Reader_putNumber5 : Con mReader_putNumber 3 0 0 sp_Reader_putNumber5 := by
  refine con_of_X rfl fun G as S I L Post hs => ?_
  obtain ⟨a, e, n, rfl, rfl, hn, h160, hae, he, h1⟩ := hs
  refine ⟨2, Nat.le_of_ble_eq_true rfl, ?_⟩
  show X mReader_putNumber G _ S5 I L 0 [.ref 23, .int (nI a), .int (nI e), .null, .null] [] Post
  refine x_iload_n dReader_putNumber_0 rfl ?_
  refine x_iload_n dReader_putNumber_1 rfl ?_
  refine x_isub dReader_putNumber_2 ?_
  -- at 3: .iconst 4
  refine x_eqi (y := nI (e - a)) (pk_sub hae) ?_
  refine x_iconst (v := 4) dReader_putNumber_3 rfl ?_
  -- at 4: .if_icmp .le 11
  by_cases h4 : 4 < e - a
  · rw [if_pos h4] at h1
    refine x_icmp_le (tgt := 15) dReader_putNumber_4 (by decide) (fun h => absurd h (nI_ge (a := 4) h4 (by omega))) (fun _ => ?_)
    refine x_aload_n dReader_putNumber_7 rfl ?_
    refine x_iconst (v := 1) dReader_putNumber_8 rfl ?_
    refine x_iload_n dReader_putNumber_9 rfl ?_
    refine x_iconst (v := 0) dReader_putNumber_10 rfl ?_
    -- at 11: .invokevirtual 77
    refine x_callV_3 c_Reader_putToken5 ok_Reader_putToken ml_Reader_77 dReader_putNumber_11 rfl rfl rfl rfl rfl ?_
    refine ⟨n, _, _, _, rfl, rfl, hn, h160, ?_⟩
    refine x_return dReader_putNumber_14 rfl ?_
    exact h1
  · rw [if_neg h4] at h1
    refine x_icmp_le (tgt := 15) dReader_putNumber_4 (by decide) (fun _ => ?_) (fun h => absurd (nI_le (b := 4) (by omega) (by omega)) h)
    refine x_iconst (v := 0) dReader_putNumber_15 rfl ?_
    refine x_istoren_3 dReader_putNumber_16 rfl rfl ?_
    refine x_iload_n dReader_putNumber_17 rfl ?_
    refine x_istore_4 dReader_putNumber_18 rfl rfl ?_
    -- at 20: .iload 4
    have loop : ∀ (k i : Nat) (acc : Int32), i + k = e - a → acc = numV (I 24) i a → X mReader_putNumber G (3, 0, 0) S5 I L 20 [.ref 23, .int (nI a), .int (nI e), .int acc, .int (nI (a + i))] [] Post := by
      intro k
      induction k with
      | zero =>
        intro i acc hi hacc
        refine x_iload dReader_putNumber_20 rfl ?_
        refine x_iload_n dReader_putNumber_22 rfl ?_
        -- at 23: .if_icmp .ge 25
        refine x_icmp_ge (tgt := 48) dReader_putNumber_23 (by decide) (fun _ => ?_) (fun h => absurd (nI_le (by omega) (by omega)) h)
        refine x_aload_n dReader_putNumber_48 rfl ?_
        refine x_iconst (v := 2) dReader_putNumber_49 rfl ?_
        refine x_iload_n dReader_putNumber_50 rfl ?_
        refine x_iload_n dReader_putNumber_51 rfl ?_
        -- at 52: .invokevirtual 77
        refine x_callV_3 c_Reader_putToken5 ok_Reader_putToken ml_Reader_77 dReader_putNumber_52 rfl rfl rfl rfl rfl ?_
        refine ⟨n, _, _, _, rfl, rfl, hn, h160, ?_⟩
        refine x_return dReader_putNumber_55 rfl ?_
        obtain rfl : i = e - a := by omega
        rw [hacc]
        exact h1
      | succ k ih =>
        intro i acc hi hacc
        refine x_iload dReader_putNumber_20 rfl ?_
        refine x_iload_n dReader_putNumber_22 rfl ?_
        -- at 23: .if_icmp .ge 25
        refine x_icmp_ge (tgt := 48) dReader_putNumber_23 (by decide) (fun h => absurd h (nI_ge (b := e) (by omega) (by omega))) (fun _ => ?_)
        refine x_iload_n dReader_putNumber_26 rfl ?_
        refine x_bipush (v := 10) dReader_putNumber_27 rfl ?_
        refine x_imul dReader_putNumber_29 ?_
        refine x_aload_n dReader_putNumber_30 rfl ?_
        refine x_getR fl_Reader_9 rfl dReader_putNumber_31 rfl rfl rfl ?_
        refine x_iload dReader_putNumber_34 rfl ?_
        refine x_ialdJ (j := a + i) dReader_putNumber_36 rfl rfl (by first | rfl | (simp only [← nI_add, ← pk_mul]; rfl)) (by omega) ?_
        refine x_iadd dReader_putNumber_37 ?_
        refine x_bipush (v := 48) dReader_putNumber_38 rfl ?_
        refine x_isub dReader_putNumber_40 ?_
        refine x_istoren_3 dReader_putNumber_41 rfl rfl ?_
        refine x_iincp_4 dReader_putNumber_42 rfl rfl ?_
        refine x_goto (tgt := 20) dReader_putNumber_45 (by decide) ?_
        -- at 20: .iload 4
        rw [nI_1]
        refine ih (i + 1) _ (by omega) ?_
        rw [numV, hacc]
    exact loop (e - a) 0 0 (by omega) rfl
def sp_Reader_spells5 : SpT := fun as S I L Post => ∃ q a e : Nat, as = [.ref 23, .ref (1000000 + q), .int (nI a), .int (nI e)] ∧ S = S5 ∧ q < nStr ∧ a ≤ e ∧ e ≤ 160 ∧ bPost (wordAt (I 24) a e = stB.getD q []) S5 I L Post
set_option maxHeartbeats 4000000 in
set_option maxRecDepth 100000 in
theorem c_Reader_spells5 : Con mReader_spells 7 0 0 sp_Reader_spells5 := by
  refine con_of_X rfl fun G as S I L Post hs => ?_
  obtain ⟨q, a, e, rfl, rfl, hq, hae, he, h1, h2⟩ := hs
  have h75 := len_ok q hq
  refine ⟨1, Nat.le_of_ble_eq_true rfl, ?_⟩
  show X mReader_spells G _ S5 I L 0 [.ref 23, .ref (1000000 + q), .int (nI a), .int (nI e), .null] [] Post
  refine x_aload_n dReader_spells_0 rfl ?_
  -- at 1: .invokevirtual 116
  refine x_callT (As := []) (rest := []) c_String_length ok_String_length ml_Reader_116 dReader_spells_1 rfl rfl rfl hq rfl rfl ?_
  refine ⟨q, rfl, hq, ?_⟩
  refine x_iload_n dReader_spells_4 rfl ?_
  refine x_iload_n dReader_spells_5 rfl ?_
  -- at 6: .isub
  refine (x_isub dReader_spells_6 ?_)
  refine x_eqi (y := nI (e - a)) (pk_sub hae) ?_
  by_cases hl : stL.getD q 0 = e - a
  · refine x_icmp_eq (tgt := 12) dReader_spells_7 (by decide) (fun _ => ?_) (fun h => absurd (congrArg nI hl) h)
    refine x_iload_n dReader_spells_12 rfl ?_
    refine x_istore_4 dReader_spells_13 rfl rfl ?_
    -- at 15: .iload 4
    have loop : ∀ (k i : Nat), i + k = e - a → (∀ j, j < i → (stB.getD q []).getD j 0 = I 24 (a + j)) → X mReader_spells G (7, 0, 0) S5 I L 15 [.ref 23, .ref (1000000 + q), .int (nI a), .int (nI e), .int (nI (a + i))] [] Post := by
      intro k
      induction k with
      | zero =>
        intro i hi hall
        refine x_iload dReader_spells_15 rfl ?_
        refine x_iload_n dReader_spells_17 rfl ?_
        -- at 18: .if_icmp .ge 29
        refine x_icmp_ge (tgt := 47) dReader_spells_18 (by decide) (fun _ => ?_) (fun h => absurd (nI_le (by omega) (by omega)) h)
        refine x_iconst (v := 1) dReader_spells_47 rfl ?_
        -- at 48: .ireturn
        refine x_ireturn dReader_spells_48 rfl rfl ?_
        exact h1 (word_eq hq hl (fun j hj => hall j (by omega)))
      | succ k ih =>
        intro i hi hall
        refine x_iload dReader_spells_15 rfl ?_
        refine x_iload_n dReader_spells_17 rfl ?_
        -- at 18: .if_icmp .ge 29
        refine x_icmp_ge (tgt := 47) dReader_spells_18 (by decide) (fun h => absurd h (nI_ge (b := e) (by omega) (by omega))) (fun _ => ?_)
        refine x_aload_n dReader_spells_21 rfl ?_
        refine x_iload dReader_spells_22 rfl ?_
        refine x_iload_n dReader_spells_24 rfl ?_
        refine x_isub dReader_spells_25 ?_
        -- at 26: .invokevirtual 122
        refine x_eqi (y := nI i) (by rw [pk_sub (by omega)]; congr 1; omega) ?_
        refine x_callT (As := [.int (nI i)]) (rest := []) c_String_charAt ok_String_charAt ml_Reader_122 dReader_spells_26 rfl rfl rfl hq rfl rfl ?_
        refine ⟨q, i, rfl, hq, by omega, ?_⟩
        refine x_aload_n dReader_spells_29 rfl ?_
        refine x_getR fl_Reader_9 rfl dReader_spells_30 rfl rfl rfl ?_
        refine x_iload dReader_spells_33 rfl ?_
        refine x_ialdJ (j := a + i) dReader_spells_35 rfl rfl (by first | rfl | (simp only [← nI_add, ← pk_mul]; rfl)) (by omega) ?_
        -- at 36: .if_icmp .eq 5
        refine x_icmp_eq (tgt := 41) dReader_spells_36 (by decide) (fun d1 => ?_) (fun d1 => ?_)
        · refine x_iincp_4 dReader_spells_41 rfl rfl ?_
          refine x_goto (tgt := 15) dReader_spells_44 (by decide) ?_
          -- at 15: .iload 4
          rw [nI_1]
          refine ih (i + 1) (by omega) (fun j hj => ?_)
          by_cases y : j = i
          · subst y; exact d1
          · exact hall j (by omega)
        · refine x_iconst (v := 0) dReader_spells_39 rfl ?_
          -- at 40: .ireturn
          refine x_ireturn dReader_spells_40 rfl rfl ?_
          exact h2 (word_ne2 (i := i) (by omega) d1)
    exact loop (e - a) 0 (by omega) (fun j hj => absurd hj (Nat.not_lt_zero j))
  · refine x_icmp_eq (tgt := 12) dReader_spells_7 (by decide) (fun h => absurd h (fun z => hl ((nI_eq (by omega) (by omega)).mp z))) (fun _ => ?_)
    refine x_iconst (v := 0) dReader_spells_10 rfl ?_
    -- at 11: .ireturn
    refine x_ireturn dReader_spells_11 rfl rfl ?_
    exact h2 (word_ne1 hq hl)
def sp_Reader_nameAt5 : SpT := fun as S I L Post => ∃ a e : Nat, as = [.ref 23, .int (nI a), .int (nI e)] ∧ S = S5 ∧ a ≤ e ∧ e ≤ 160 ∧ Post (some (.int (if wordAt (I 24) a e = stB.getD 1 [] then 0 else if wordAt (I 24) a e = stB.getD 2 [] then 1 else if wordAt (I 24) a e = stB.getD 3 [] then 2 else if wordAt (I 24) a e = stB.getD 4 [] then 3 else if wordAt (I 24) a e = stB.getD 5 [] then 4 else if wordAt (I 24) a e = stB.getD 6 [] then 5 else -1))) S5 I L
set_option maxHeartbeats 4000000 in
set_option maxRecDepth 100000 in
theorem c_Reader_nameAt5 : Con mReader_nameAt 8 0 0 sp_Reader_nameAt5 := by
  refine con_of_X rfl fun G as S I L Post hs => ?_
  obtain ⟨a, e, rfl, rfl, hae, he, h1⟩ := hs
  refine ⟨0, Nat.le_of_ble_eq_true rfl, ?_⟩
  show X mReader_nameAt G _ S5 I L 0 [.ref 23, .int (nI a), .int (nI e)] [] Post
  refine x_aload_n dReader_nameAt_0 rfl ?_
  refine x_ldcS (i := 1) dReader_nameAt_1 rfl rfl rfl ?_
  refine x_iload_n dReader_nameAt_3 rfl ?_
  refine x_iload_n dReader_nameAt_4 rfl ?_
  -- at 5: .invokevirtual 90
  refine x_callV_3 c_Reader_spells5 ok_Reader_spells ml_Reader_90 dReader_nameAt_5 rfl rfl rfl rfl rfl ?_
  refine ⟨1, a, e, rfl, rfl, by decide, hae, he, fun w => ?_, fun w => ?_⟩
  · rw [if_pos w] at h1
    refine x_if_eq (tgt := 13) dReader_nameAt_8 (by decide) (fun h => absurd h (by decide)) (fun _ => ?_)
    refine x_iconst (v := 0) dReader_nameAt_11 rfl ?_
    -- at 12: .ireturn
    refine x_ireturn dReader_nameAt_12 rfl rfl ?_
    exact h1
  · rw [if_neg w] at h1
    refine x_if_eq (tgt := 13) dReader_nameAt_8 (by decide) (fun _ => ?_) (fun h => absurd (by decide) h)
    refine x_aload_n dReader_nameAt_13 rfl ?_
    refine x_ldcS (i := 2) dReader_nameAt_14 rfl rfl rfl ?_
    refine x_iload_n dReader_nameAt_16 rfl ?_
    refine x_iload_n dReader_nameAt_17 rfl ?_
    -- at 18: .invokevirtual 90
    refine x_callV_3 c_Reader_spells5 ok_Reader_spells ml_Reader_90 dReader_nameAt_18 rfl rfl rfl rfl rfl ?_
    refine ⟨2, a, e, rfl, rfl, by decide, hae, he, fun w => ?_, fun w => ?_⟩
    · rw [if_pos w] at h1
      refine x_if_eq (tgt := 26) dReader_nameAt_21 (by decide) (fun h => absurd h (by decide)) (fun _ => ?_)
      refine x_iconst (v := 1) dReader_nameAt_24 rfl ?_
      -- at 25: .ireturn
      refine x_ireturn dReader_nameAt_25 rfl rfl ?_
      exact h1
    · rw [if_neg w] at h1
      refine x_if_eq (tgt := 26) dReader_nameAt_21 (by decide) (fun _ => ?_) (fun h => absurd (by decide) h)
      refine x_aload_n dReader_nameAt_26 rfl ?_
      refine x_ldcS (i := 3) dReader_nameAt_27 rfl rfl rfl ?_
      refine x_iload_n dReader_nameAt_29 rfl ?_
      refine x_iload_n dReader_nameAt_30 rfl ?_
      -- at 31: .invokevirtual 90
      refine x_callV_3 c_Reader_spells5 ok_Reader_spells ml_Reader_90 dReader_nameAt_31 rfl rfl rfl rfl rfl ?_
      refine ⟨3, a, e, rfl, rfl, by decide, hae, he, fun w => ?_, fun w => ?_⟩
      · rw [if_pos w] at h1
        refine x_if_eq (tgt := 39) dReader_nameAt_34 (by decide) (fun h => absurd h (by decide)) (fun _ => ?_)
        refine x_iconst (v := 2) dReader_nameAt_37 rfl ?_
        -- at 38: .ireturn
        refine x_ireturn dReader_nameAt_38 rfl rfl ?_
        exact h1
      · rw [if_neg w] at h1
        refine x_if_eq (tgt := 39) dReader_nameAt_34 (by decide) (fun _ => ?_) (fun h => absurd (by decide) h)
        refine x_aload_n dReader_nameAt_39 rfl ?_
        refine x_ldcS (i := 4) dReader_nameAt_40 rfl rfl rfl ?_
        refine x_iload_n dReader_nameAt_42 rfl ?_
        refine x_iload_n dReader_nameAt_43 rfl ?_
        -- at 44: .invokevirtual 90
        refine x_callV_3 c_Reader_spells5 ok_Reader_spells ml_Reader_90 dReader_nameAt_44 rfl rfl rfl rfl rfl ?_
        refine ⟨4, a, e, rfl, rfl, by decide, hae, he, fun w => ?_, fun w => ?_⟩
        · rw [if_pos w] at h1
          refine x_if_eq (tgt := 52) dReader_nameAt_47 (by decide) (fun h => absurd h (by decide)) (fun _ => ?_)
          refine x_iconst (v := 3) dReader_nameAt_50 rfl ?_
          -- at 51: .ireturn
          refine x_ireturn dReader_nameAt_51 rfl rfl ?_
          exact h1
        · rw [if_neg w] at h1
          refine x_if_eq (tgt := 52) dReader_nameAt_47 (by decide) (fun _ => ?_) (fun h => absurd (by decide) h)
          refine x_aload_n dReader_nameAt_52 rfl ?_
          refine x_ldcS (i := 5) dReader_nameAt_53 rfl rfl rfl ?_
          refine x_iload_n dReader_nameAt_55 rfl ?_
          refine x_iload_n dReader_nameAt_56 rfl ?_
          -- at 57: .invokevirtual 90
          refine x_callV_3 c_Reader_spells5 ok_Reader_spells ml_Reader_90 dReader_nameAt_57 rfl rfl rfl rfl rfl ?_
          refine ⟨5, a, e, rfl, rfl, by decide, hae, he, fun w => ?_, fun w => ?_⟩
          · rw [if_pos w] at h1
            refine x_if_eq (tgt := 65) dReader_nameAt_60 (by decide) (fun h => absurd h (by decide)) (fun _ => ?_)
            refine x_iconst (v := 4) dReader_nameAt_63 rfl ?_
            -- at 64: .ireturn
            refine x_ireturn dReader_nameAt_64 rfl rfl ?_
            exact h1
          · rw [if_neg w] at h1
            refine x_if_eq (tgt := 65) dReader_nameAt_60 (by decide) (fun _ => ?_) (fun h => absurd (by decide) h)
            refine x_aload_n dReader_nameAt_65 rfl ?_
            refine x_ldcS (i := 6) dReader_nameAt_66 rfl rfl rfl ?_
            refine x_iload_n dReader_nameAt_68 rfl ?_
            refine x_iload_n dReader_nameAt_69 rfl ?_
            -- at 70: .invokevirtual 90
            refine x_callV_3 c_Reader_spells5 ok_Reader_spells ml_Reader_90 dReader_nameAt_70 rfl rfl rfl rfl rfl ?_
            refine ⟨6, a, e, rfl, rfl, by decide, hae, he, fun w => ?_, fun w => ?_⟩
            · rw [if_pos w] at h1
              refine x_if_eq (tgt := 78) dReader_nameAt_73 (by decide) (fun h => absurd h (by decide)) (fun _ => ?_)
              refine x_iconst (v := 5) dReader_nameAt_76 rfl ?_
              -- at 77: .ireturn
              refine x_ireturn dReader_nameAt_77 rfl rfl ?_
              exact h1
            · rw [if_neg w] at h1
              refine x_if_eq (tgt := 78) dReader_nameAt_73 (by decide) (fun _ => ?_) (fun h => absurd (by decide) h)
              refine x_iconst (v := -1) dReader_nameAt_78 rfl ?_
              -- at 79: .ireturn
              refine x_ireturn dReader_nameAt_79 rfl rfl ?_
              exact h1
def sp_Reader_keyAt5 : SpT := fun as S I L Post => ∃ a e : Nat, as = [.ref 23, .int (nI a), .int (nI e)] ∧ S = S5 ∧ a ≤ e ∧ e ≤ 160 ∧ Post (some (.int (if wordAt (I 24) a e = stB.getD 7 [] then 4 else if wordAt (I 24) a e = stB.getD 8 [] then 5 else if wordAt (I 24) a e = stB.getD 9 [] then 6 else if wordAt (I 24) a e = stB.getD 10 [] then 7 else if wordAt (I 24) a e = stB.getD 11 [] then 8 else if wordAt (I 24) a e = stB.getD 12 [] then 9 else 1))) S5 I L
set_option maxHeartbeats 4000000 in
set_option maxRecDepth 100000 in
theorem c_Reader_keyAt5 : Con mReader_keyAt 8 0 0 sp_Reader_keyAt5 := by
  refine con_of_X rfl fun G as S I L Post hs => ?_
  obtain ⟨a, e, rfl, rfl, hae, he, h1⟩ := hs
  refine ⟨0, Nat.le_of_ble_eq_true rfl, ?_⟩
  show X mReader_keyAt G _ S5 I L 0 [.ref 23, .int (nI a), .int (nI e)] [] Post
  refine x_aload_n dReader_keyAt_0 rfl ?_
  refine x_ldcS (i := 7) dReader_keyAt_1 rfl rfl rfl ?_
  refine x_iload_n dReader_keyAt_3 rfl ?_
  refine x_iload_n dReader_keyAt_4 rfl ?_
  -- at 5: .invokevirtual 90
  refine x_callV_3 c_Reader_spells5 ok_Reader_spells ml_Reader_90 dReader_keyAt_5 rfl rfl rfl rfl rfl ?_
  refine ⟨7, a, e, rfl, rfl, by decide, hae, he, fun w => ?_, fun w => ?_⟩
  · rw [if_pos w] at h1
    refine x_if_eq (tgt := 13) dReader_keyAt_8 (by decide) (fun h => absurd h (by decide)) (fun _ => ?_)
    refine x_iconst (v := 4) dReader_keyAt_11 rfl ?_
    -- at 12: .ireturn
    refine x_ireturn dReader_keyAt_12 rfl rfl ?_
    exact h1
  · rw [if_neg w] at h1
    refine x_if_eq (tgt := 13) dReader_keyAt_8 (by decide) (fun _ => ?_) (fun h => absurd (by decide) h)
    refine x_aload_n dReader_keyAt_13 rfl ?_
    refine x_ldcS (i := 8) dReader_keyAt_14 rfl rfl rfl ?_
    refine x_iload_n dReader_keyAt_16 rfl ?_
    refine x_iload_n dReader_keyAt_17 rfl ?_
    -- at 18: .invokevirtual 90
    refine x_callV_3 c_Reader_spells5 ok_Reader_spells ml_Reader_90 dReader_keyAt_18 rfl rfl rfl rfl rfl ?_
    refine ⟨8, a, e, rfl, rfl, by decide, hae, he, fun w => ?_, fun w => ?_⟩
    · rw [if_pos w] at h1
      refine x_if_eq (tgt := 26) dReader_keyAt_21 (by decide) (fun h => absurd h (by decide)) (fun _ => ?_)
      refine x_iconst (v := 5) dReader_keyAt_24 rfl ?_
      -- at 25: .ireturn
      refine x_ireturn dReader_keyAt_25 rfl rfl ?_
      exact h1
    · rw [if_neg w] at h1
      refine x_if_eq (tgt := 26) dReader_keyAt_21 (by decide) (fun _ => ?_) (fun h => absurd (by decide) h)
      refine x_aload_n dReader_keyAt_26 rfl ?_
      refine x_ldcS (i := 9) dReader_keyAt_27 rfl rfl rfl ?_
      refine x_iload_n dReader_keyAt_29 rfl ?_
      refine x_iload_n dReader_keyAt_30 rfl ?_
      -- at 31: .invokevirtual 90
      refine x_callV_3 c_Reader_spells5 ok_Reader_spells ml_Reader_90 dReader_keyAt_31 rfl rfl rfl rfl rfl ?_
      refine ⟨9, a, e, rfl, rfl, by decide, hae, he, fun w => ?_, fun w => ?_⟩
      · rw [if_pos w] at h1
        refine x_if_eq (tgt := 40) dReader_keyAt_34 (by decide) (fun h => absurd h (by decide)) (fun _ => ?_)
        refine x_bipush (v := 6) dReader_keyAt_37 rfl ?_
        -- at 39: .ireturn
        refine x_ireturn dReader_keyAt_39 rfl rfl ?_
        exact h1
      · rw [if_neg w] at h1
        refine x_if_eq (tgt := 40) dReader_keyAt_34 (by decide) (fun _ => ?_) (fun h => absurd (by decide) h)
        refine x_aload_n dReader_keyAt_40 rfl ?_
        refine x_ldcS (i := 10) dReader_keyAt_41 rfl rfl rfl ?_
        refine x_iload_n dReader_keyAt_43 rfl ?_
        refine x_iload_n dReader_keyAt_44 rfl ?_
        -- at 45: .invokevirtual 90
        refine x_callV_3 c_Reader_spells5 ok_Reader_spells ml_Reader_90 dReader_keyAt_45 rfl rfl rfl rfl rfl ?_
        refine ⟨10, a, e, rfl, rfl, by decide, hae, he, fun w => ?_, fun w => ?_⟩
        · rw [if_pos w] at h1
          refine x_if_eq (tgt := 54) dReader_keyAt_48 (by decide) (fun h => absurd h (by decide)) (fun _ => ?_)
          refine x_bipush (v := 7) dReader_keyAt_51 rfl ?_
          -- at 53: .ireturn
          refine x_ireturn dReader_keyAt_53 rfl rfl ?_
          exact h1
        · rw [if_neg w] at h1
          refine x_if_eq (tgt := 54) dReader_keyAt_48 (by decide) (fun _ => ?_) (fun h => absurd (by decide) h)
          refine x_aload_n dReader_keyAt_54 rfl ?_
          refine x_ldcS (i := 11) dReader_keyAt_55 rfl rfl rfl ?_
          refine x_iload_n dReader_keyAt_57 rfl ?_
          refine x_iload_n dReader_keyAt_58 rfl ?_
          -- at 59: .invokevirtual 90
          refine x_callV_3 c_Reader_spells5 ok_Reader_spells ml_Reader_90 dReader_keyAt_59 rfl rfl rfl rfl rfl ?_
          refine ⟨11, a, e, rfl, rfl, by decide, hae, he, fun w => ?_, fun w => ?_⟩
          · rw [if_pos w] at h1
            refine x_if_eq (tgt := 68) dReader_keyAt_62 (by decide) (fun h => absurd h (by decide)) (fun _ => ?_)
            refine x_bipush (v := 8) dReader_keyAt_65 rfl ?_
            -- at 67: .ireturn
            refine x_ireturn dReader_keyAt_67 rfl rfl ?_
            exact h1
          · rw [if_neg w] at h1
            refine x_if_eq (tgt := 68) dReader_keyAt_62 (by decide) (fun _ => ?_) (fun h => absurd (by decide) h)
            refine x_aload_n dReader_keyAt_68 rfl ?_
            refine x_ldcS (i := 12) dReader_keyAt_69 rfl rfl rfl ?_
            refine x_iload_n dReader_keyAt_71 rfl ?_
            refine x_iload_n dReader_keyAt_72 rfl ?_
            -- at 73: .invokevirtual 90
            refine x_callV_3 c_Reader_spells5 ok_Reader_spells ml_Reader_90 dReader_keyAt_73 rfl rfl rfl rfl rfl ?_
            refine ⟨12, a, e, rfl, rfl, by decide, hae, he, fun w => ?_, fun w => ?_⟩
            · rw [if_pos w] at h1
              refine x_if_eq (tgt := 82) dReader_keyAt_76 (by decide) (fun h => absurd h (by decide)) (fun _ => ?_)
              refine x_bipush (v := 9) dReader_keyAt_79 rfl ?_
              -- at 81: .ireturn
              refine x_ireturn dReader_keyAt_81 rfl rfl ?_
              exact h1
            · rw [if_neg w] at h1
              refine x_if_eq (tgt := 82) dReader_keyAt_76 (by decide) (fun _ => ?_) (fun h => absurd (by decide) h)
              refine x_iconst (v := 1) dReader_keyAt_82 rfl ?_
              -- at 83: .ireturn
              refine x_ireturn dReader_keyAt_83 rfl rfl ?_
              exact h1
def sp_Reader_putWord5 : SpT := fun as S I L Post => ∃ a e n : Nat, as = [.ref 23, .int (nI a), .int (nI e)] ∧ S = S5 ∧ I 23 5 = nI n ∧ n ≤ 160 ∧ a ≤ e ∧ e ≤ 160 ∧ Post none S5 (ptk I n (kindW (wordAt (I 24) a e)).1 (nI a) (kindW (wordAt (I 24) a e)).2) L
set_option maxHeartbeats 4000000 in
set_option maxRecDepth 100000 in
theorem c_Reader_putWord5 : Con mReader_putWord 9 0 0 sp_Reader_putWord5 := by
  refine con_of_X rfl fun G as S I L Post hs => ?_
  obtain ⟨a, e, n, rfl, rfl, hn, h160, hae, he, h1⟩ := hs
  refine ⟨1, Nat.le_of_ble_eq_true rfl, ?_⟩
  show X mReader_putWord G _ S5 I L 0 [.ref 23, .int (nI a), .int (nI e), .null] [] Post
  refine x_aload_n dReader_putWord_0 rfl ?_
  refine x_iload_n dReader_putWord_1 rfl ?_
  refine x_iload_n dReader_putWord_2 rfl ?_
  -- at 3: .invokevirtual 81
  refine x_callV_2 c_Reader_nameAt5 ok_Reader_nameAt ml_Reader_81 dReader_putWord_3 rfl rfl rfl rfl rfl ?_
  refine ⟨a, e, rfl, rfl, hae, he, ?_⟩
  rw [kindW_name]
  by_cases h3 : (kindW (wordAt (I 24) a e)).1 = 3
  · rw [if_pos h3]
    refine x_istoren_3 dReader_putWord_6 rfl rfl ?_
    refine x_iload_n dReader_putWord_7 rfl ?_
    refine x_iconst (v := -1) dReader_putWord_8 rfl ?_
    -- at 9: .if_icmp .eq 13
    refine x_icmp_eq (tgt := 22) dReader_putWord_9 (by decide) (fun h => absurd h (name_nn h3)) (fun _ => ?_)
    refine x_aload_n dReader_putWord_12 rfl ?_
    refine x_iconst (v := 3) dReader_putWord_13 rfl ?_
    refine x_iload_n dReader_putWord_14 rfl ?_
    refine x_iload_n dReader_putWord_15 rfl ?_
    -- at 16: .invokevirtual 77
    refine x_callV_3 c_Reader_putToken5 ok_Reader_putToken ml_Reader_77 dReader_putWord_16 rfl rfl rfl rfl rfl ?_
    refine ⟨n, _, _, _, rfl, rfl, hn, h160, ?_⟩
    refine x_goto (tgt := 34) dReader_putWord_19 (by decide) ?_
    -- at 34: .return_
    refine x_return dReader_putWord_34 rfl ?_
    rw [← h3]
    exact h1
  · rw [if_neg h3]
    obtain ⟨k1, k2⟩ := kindW_key _ h3
    refine x_istoren_3 dReader_putWord_6 rfl rfl ?_
    refine x_iload_n dReader_putWord_7 rfl ?_
    refine x_iconst (v := -1) dReader_putWord_8 rfl ?_
    -- at 9: .if_icmp .eq 13
    refine x_icmp_eq (tgt := 22) dReader_putWord_9 (by decide) (fun _ => ?_) (fun h => absurd rfl h)
    refine x_aload_n dReader_putWord_22 rfl ?_
    refine x_aload_n dReader_putWord_23 rfl ?_
    refine x_iload_n dReader_putWord_24 rfl ?_
    refine x_iload_n dReader_putWord_25 rfl ?_
    -- at 26: .invokevirtual 85
    refine x_callV_2 c_Reader_keyAt5 ok_Reader_keyAt ml_Reader_85 dReader_putWord_26 rfl rfl rfl rfl rfl ?_
    refine ⟨a, e, rfl, rfl, hae, he, ?_⟩
    rw [k1]
    refine x_iload_n dReader_putWord_29 rfl ?_
    refine x_iconst (v := 0) dReader_putWord_30 rfl ?_
    -- at 31: .invokevirtual 77
    refine x_callV_3 c_Reader_putToken5 ok_Reader_putToken ml_Reader_77 dReader_putWord_31 rfl rfl rfl rfl rfl ?_
    refine ⟨n, _, _, _, rfl, rfl, hn, h160, ?_⟩
    -- at 34: .return_
    refine x_return dReader_putWord_34 rfl ?_
    rw [k2] at h1
    exact h1
def sp_Reader_cut5 : SpT := fun as S I L Post => ∃ z : Nat, as = [.ref 23] ∧ S = S5 ∧ I 23 1 = nI z ∧ z ≤ 160 ∧
  ∀ I' : IM, Fr rScr I I' → (∀ j, j ≠ 5 → I' 23 j = I 23 j) → Tin I' (tokS (I 24) z 0) → Post none S5 I' L
set_option maxHeartbeats 4000000 in
set_option maxRecDepth 100000 in
theorem c_Reader_cut5 : Con mReader_cut 10 0 0 sp_Reader_cut5 := by
  refine con_of_X rfl fun G as S I L Post hs => ?_
  obtain ⟨z, rfl, rfl, hz, hz2, h1⟩ := hs
  refine ⟨4, Nat.le_of_ble_eq_true rfl, ?_⟩
  show X mReader_cut G _ S5 I L 0 [.ref 23, .null, .null, .null, .null] [] Post
  refine x_aload_n dReader_cut_0 rfl ?_
  refine x_iconst (v := 0) dReader_cut_1 rfl ?_
  refine x_putI fl_Reader_28 rfl dReader_cut_2 (by decide) rfl rfl rfl rfl ?_
  refine x_iconst (v := 0) dReader_cut_5 rfl ?_
  refine x_istoren_1 dReader_cut_6 rfl rfl ?_
  refine x_iconst (v := 0) dReader_cut_7 rfl ?_
  refine x_istoren_2 dReader_cut_8 rfl rfl ?_
  -- at 9: .iload_n 2
  have fin : ∀ (i at0 : Nat) (I' : IM) (D : List Tok) (a3 a4 : Value), at0 = z → Fr rScr I I' → (∀ j, j ≠ 5 → I' 23 j = I 23 j) → I' 23 5 = nI D.length → D.length ≤ at0 → Tin I' D → D ++ tokS (I 24) z at0 = tokS (I 24) z 0 →
      X mReader_cut G (10, 0, 0) S5 I' L 123 [.ref 23, .int (nI at0), .int (nI i), a3, a4] [] Post := by
    intro i at0 I' D a3 a4 hat hF hs h5 hD hT hE
    have hz' : I' 23 1 = nI z := (hs 1 (by omega)).trans hz
    refine x_aload_n dReader_cut_123 rfl ?_
    refine x_iconst (v := 0) dReader_cut_124 rfl ?_
    refine x_aload_n dReader_cut_125 rfl ?_
    refine x_getI fl_Reader_15 rfl dReader_cut_126 rfl rfl ?_
    -- at 129: .iconst 0
    rw [hz']
    refine x_iconst (v := 0) dReader_cut_129 rfl ?_
    -- at 130: .invokevirtual 77
    refine x_callV_3 c_Reader_putToken5 ok_Reader_putToken ml_Reader_77 dReader_cut_130 rfl rfl rfl rfl rfl ?_
    refine ⟨D.length, 0, nI z, 0, rfl, rfl, h5, by omega, ?_⟩
    refine x_return dReader_cut_133 rfl ?_
    refine h1 _ (fun k hk => ?_) (fun j hj => ?_) ?_
    · simp only [List.mem_cons, List.not_mem_nil, or_false, not_or] at hk
      rw [ptk_o _ _ _ _ _ ⟨hk.1, hk.2.1, hk.2.2.1, hk.2.2.2⟩]
      exact hF k (by simp [hk])
    · rw [ptk_s _ _ _ _ _ hj]
      exact hs j hj
    · rw [← hE, hat, tokS_end (by omega)]
      exact Tin_put hT rfl
  have loop : ∀ (k i at0 : Nat) (I' : IM) (D : List Tok) (a3 a4 : Value), i + k = 160 → i ≤ at0 → at0 ≤ z → Fr rScr I I' → (∀ j, j ≠ 5 → I' 23 j = I 23 j) → I' 23 5 = nI D.length → D.length ≤ at0 → Tin I' D → D ++ tokS (I 24) z at0 = tokS (I 24) z 0 →
      X mReader_cut G (10, 0, 0) S5 I' L 9 [.ref 23, .int (nI at0), .int (nI i), a3, a4] [] Post := by
    intro k
    induction k with
    | zero =>
      intro i at0 I' D a3 a4 hi hia haz hF hs h5 hD hT hE
      obtain rfl : i = 160 := by omega
      refine x_iload_n dReader_cut_9 rfl ?_
      refine x_sipush (v := 160) dReader_cut_10 rfl ?_
      -- at 13: .if_icmp .ge 110
      refine x_icmp_ge (tgt := 123) dReader_cut_13 (by decide) (fun _ => ?_) (fun h => absurd (Int32.le_refl _) h)
      exact fin 160 at0 I' D a3 a4 (by omega) hF hs h5 hD hT hE
    | succ k ih =>
      intro i at0 I' D a3 a4 hi hia haz hF hs h5 hD hT hE
      have hz' : I' 23 1 = nI z := (hs 1 (by omega)).trans hz
      have e24 : I' 24 = I 24 := hF 24 (by decide)
      refine x_iload_n dReader_cut_9 rfl ?_
      refine x_sipush (v := 160) dReader_cut_10 rfl ?_
      -- at 13: .if_icmp .ge 110
      refine x_icmp_ge (tgt := 123) dReader_cut_13 (by decide) (fun h => absurd h (nI_ge (b := 160) (by omega) (by omega))) (fun _ => ?_)
      refine x_iload_n dReader_cut_16 rfl ?_
      refine x_aload_n dReader_cut_17 rfl ?_
      refine x_getI fl_Reader_15 rfl dReader_cut_18 rfl rfl ?_
      -- at 21: .if_icmp .ge 102
      rw [hz']
      by_cases hlt : at0 < z
      · refine x_icmp_ge (tgt := 123) dReader_cut_21 (by decide) (fun h => absurd h (nI_ge (b := z) hlt (by omega))) (fun _ => ?_)
        have next : ∀ (e : Nat) (I2 : IM) (D2 : List Tok) (b : Int32), at0 < e → e ≤ z → Fr rScr I I2 → (∀ j, j ≠ 5 → I2 23 j = I 23 j) → I2 23 5 = nI D2.length → D2.length ≤ D.length + 1 → Tin I2 D2 → D2 ++ tokS (I 24) z e = tokS (I 24) z 0 →
            X mReader_cut G (10, 0, 0) S5 I2 L 114 [.ref 23, .int (nI at0), .int (nI i), .int b, .int (nI e)] [] Post := by
          intro e I2 D2 b h0 h2 hF2 hs2 h52 hD2 hT2 hE2
          refine x_iload dReader_cut_114 rfl ?_
          refine x_istoren_1 dReader_cut_116 rfl rfl ?_
          refine x_iincp_2 dReader_cut_117 rfl rfl ?_
          refine x_goto (tgt := 9) dReader_cut_120 (by decide) ?_
          -- at 9: .iload_n 2
          rw [nI_1]
          exact ih (i + 1) e I2 D2 _ _ (by omega) (by omega) h2 hF2 hs2 h52 (by omega) hT2 hE2
        have put : ∀ (e : Nat) (s v b : Int32), at0 < e → e ≤ z → tokS (I 24) z at0 = (s, at0, v) :: tokS (I 24) z e → X mReader_cut G (10, 0, 0) S5 (ptk I' D.length s (nI at0) v) L 114 [.ref 23, .int (nI at0), .int (nI i), .int b, .int (nI e)] [] Post := by
          intro e s v b h0 h2 hE2
          refine next e _ (D ++ [(s, at0, v)]) b h0 h2 (fun k hk => ?_) (fun j hj => ?_) ?_ (by simp) (Tin_put hT rfl) ?_
          · simp only [List.mem_cons, List.not_mem_nil, or_false, not_or] at hk
            rw [ptk_o _ _ _ _ _ ⟨hk.1, hk.2.1, hk.2.2.1, hk.2.2.2⟩]
            exact hF k (by simp [hk])
          · rw [ptk_s _ _ _ _ _ hj]
            exact hs j hj
          · rw [ptk_5]
            simp
          · rw [← hE, hE2, List.append_assoc]
            rfl
        refine x_aload_n dReader_cut_24 rfl ?_
        refine x_getR fl_Reader_9 rfl dReader_cut_25 rfl rfl rfl ?_
        refine x_iload_n dReader_cut_28 rfl ?_
        refine x_ialdJ (j := at0) dReader_cut_29 rfl rfl (by first | rfl | (simp only [← nI_add, ← pk_mul]; rfl)) (by omega) ?_
        refine x_istoren_3 dReader_cut_30 rfl rfl ?_
        refine x_iload_n dReader_cut_31 rfl ?_
        refine x_iconst (v := 1) dReader_cut_32 rfl ?_
        refine x_iadd dReader_cut_33 ?_
        refine x_istore_4 dReader_cut_34 rfl rfl ?_
        refine x_iload_n dReader_cut_36 rfl ?_
        -- at 37: .invokestatic 54
        rw [e24]
        refine x_callS_1 c_Reader_isLetter ok_Reader_isLetter ml_Reader_54 dReader_cut_37 rfl rfl ?_
        refine ⟨_, rfl, fun q => ?_, fun q => ?_⟩
        · have hnb := let_nb q
          have hE2 : tokS (I 24) z at0 = ((kindW (wordAt (I 24) at0 (letE (I 24) z (z - at0) at0))).1, at0, (kindW (wordAt (I 24) at0 (letE (I 24) z (z - at0) at0))).2) :: tokS (I 24) z (letE (I 24) z (z - at0) at0) := by
            rw [tokS_tok hlt hnb, tokAt, if_pos q]
          have he1 := letE_gt hlt q
          have he2 := (letE_ge (I 24) z (z - at0) at0).2 haz
          refine x_if_eq (tgt := 60) dReader_cut_40 (by decide) (fun h => absurd h (by decide)) (fun _ => ?_)
          refine x_aload_n dReader_cut_43 rfl ?_
          refine x_iload_n dReader_cut_44 rfl ?_
          -- at 45: .invokevirtual 57
          refine x_callV_1 c_Reader_lettersEnd5 ok_Reader_lettersEnd ml_Reader_57 dReader_cut_45 rfl rfl rfl rfl rfl ?_
          refine ⟨at0, z, rfl, rfl, hz', hz2, haz, ?_⟩
          rw [e24]
          refine x_istore_4 dReader_cut_48 rfl rfl ?_
          refine x_aload_n dReader_cut_50 rfl ?_
          refine x_iload_n dReader_cut_51 rfl ?_
          refine x_iload dReader_cut_52 rfl ?_
          -- at 54: .invokevirtual 61
          refine x_callV_2 c_Reader_putWord5 ok_Reader_putWord ml_Reader_61 dReader_cut_54 rfl rfl rfl rfl rfl ?_
          refine ⟨at0, letE (I 24) z (z - at0) at0, D.length, rfl, rfl, h5, by omega, by omega, by omega, ?_⟩
          rw [e24]
          refine x_goto (tgt := 114) dReader_cut_57 (by decide) ?_
          -- at 114: .iload 4
          exact put _ _ _ _ he1 he2 hE2
        · refine x_if_eq (tgt := 60) dReader_cut_40 (by decide) (fun _ => ?_) (fun h => absurd (by decide) h)
          refine x_iload_n dReader_cut_60 rfl ?_
          -- at 61: .invokestatic 65
          refine x_callS_1 c_Reader_isDigit ok_Reader_isDigit ml_Reader_65 dReader_cut_61 rfl rfl ?_
          refine ⟨_, rfl, fun q2 => ?_, fun q2 => ?_⟩
          · have hnb := dig_nb q2
            have he1 := digE_gt hlt q2
            have he2 := (digE_ge (I 24) z (z - at0) at0).2 haz
            refine x_if_eq (tgt := 84) dReader_cut_64 (by decide) (fun h => absurd h (by decide)) (fun _ => ?_)
            refine x_aload_n dReader_cut_67 rfl ?_
            refine x_iload_n dReader_cut_68 rfl ?_
            -- at 69: .invokevirtual 68
            refine x_callV_1 c_Reader_digitsEnd5 ok_Reader_digitsEnd ml_Reader_68 dReader_cut_69 rfl rfl rfl rfl rfl ?_
            refine ⟨at0, z, rfl, rfl, hz', hz2, haz, ?_⟩
            rw [e24]
            refine x_istore_4 dReader_cut_72 rfl rfl ?_
            refine x_aload_n dReader_cut_74 rfl ?_
            refine x_iload_n dReader_cut_75 rfl ?_
            refine x_iload dReader_cut_76 rfl ?_
            -- at 78: .invokevirtual 71
            refine x_callV_2 c_Reader_putNumber5 ok_Reader_putNumber ml_Reader_71 dReader_cut_78 rfl rfl rfl rfl rfl ?_
            refine ⟨at0, digE (I 24) z (z - at0) at0, D.length, rfl, rfl, h5, by omega, by omega, by omega, ?_⟩
            rw [e24]
            have hE0 : tokS (I 24) z at0 = _ := tokS_tok hlt hnb
            rw [tokAt, if_neg q, if_pos q2] at hE0
            by_cases h4 : 4 < digE (I 24) z (z - at0) at0 - at0
            · rw [if_pos h4]
              rw [if_pos h4] at hE0
              refine x_goto (tgt := 114) dReader_cut_81 (by decide) ?_
              -- at 114: .iload 4
              exact put _ _ _ _ he1 he2 hE0
            · rw [if_neg h4]
              rw [if_neg h4] at hE0
              refine x_goto (tgt := 114) dReader_cut_81 (by decide) ?_
              -- at 114: .iload 4
              exact put _ _ _ _ he1 he2 hE0
          · refine x_if_eq (tgt := 84) dReader_cut_64 (by decide) (fun _ => ?_) (fun h => absurd (by decide) h)
            have bla : isBla (I 24 at0) → X mReader_cut G (10, 0, 0) S5 I' L 114 [.ref 23, .int (nI at0), .int (nI i), .int (I 24 at0), .int (nI at0 + 1)] [] Post := by
              intro hb
              rw [nI_1]
              exact next (at0 + 1) I' D _ (by omega) (by omega) hF hs h5 (by omega) hT (by rw [← hE, tokS_bla hlt hb])
            refine x_iload_n dReader_cut_84 rfl ?_
            refine x_bipush (v := 32) dReader_cut_85 rfl ?_
            -- at 87: .if_icmp .eq 27
            refine x_icmp_eq (tgt := 114) dReader_cut_87 (by decide) (fun c1 => ?_) (fun c1 => ?_)
            · exact bla (Or.inl c1)
            · refine x_iload_n dReader_cut_90 rfl ?_
              refine x_bipush (v := 10) dReader_cut_91 rfl ?_
              -- at 93: .if_icmp .eq 21
              refine x_icmp_eq (tgt := 114) dReader_cut_93 (by decide) (fun c2 => ?_) (fun c2 => ?_)
              · exact bla (Or.inr c2)
              · have hnb : ¬ isBla (I 24 at0) := fun y => y.elim c1 c2
                have hE0 : tokS (I 24) z at0 = _ := tokS_tok hlt hnb
                rw [tokAt, if_neg q, if_neg q2] at hE0
                refine x_aload_n dReader_cut_96 rfl ?_
                refine x_iload_n dReader_cut_97 rfl ?_
                -- at 98: .invokestatic 74
                refine x_callS_1 c_Reader_isSign ok_Reader_isSign ml_Reader_74 dReader_cut_98 rfl rfl ?_
                refine ⟨_, rfl, fun g => ?_, fun g => ?_⟩
                · rw [if_pos g] at hE0
                  refine x_if_eq (tgt := 108) dReader_cut_101 (by decide) (fun h => absurd h (by decide)) (fun _ => ?_)
                  refine x_iload_n dReader_cut_104 rfl ?_
                  refine x_goto (tgt := 109) dReader_cut_105 (by decide) ?_
                  refine x_iload_n dReader_cut_109 rfl ?_
                  refine x_iconst (v := 0) dReader_cut_110 rfl ?_
                  -- at 111: .invokevirtual 77
                  refine x_callV_3 c_Reader_putToken5 ok_Reader_putToken ml_Reader_77 dReader_cut_111 rfl rfl rfl rfl rfl ?_
                  refine ⟨D.length, _, _, _, rfl, rfl, h5, by omega, ?_⟩
                  rw [nI_1]
                  exact put _ _ _ _ (by omega) (by omega) hE0
                · rw [if_neg g] at hE0
                  refine x_if_eq (tgt := 108) dReader_cut_101 (by decide) (fun _ => ?_) (fun h => absurd (by decide) h)
                  refine x_iconst (v := 1) dReader_cut_108 rfl ?_
                  refine x_iload_n dReader_cut_109 rfl ?_
                  refine x_iconst (v := 0) dReader_cut_110 rfl ?_
                  -- at 111: .invokevirtual 77
                  refine x_callV_3 c_Reader_putToken5 ok_Reader_putToken ml_Reader_77 dReader_cut_111 rfl rfl rfl rfl rfl ?_
                  refine ⟨D.length, _, _, _, rfl, rfl, h5, by omega, ?_⟩
                  rw [nI_1]
                  exact put _ _ _ _ (by omega) (by omega) hE0
      · refine x_icmp_ge (tgt := 123) dReader_cut_21 (by decide) (fun _ => ?_) (fun h => absurd (nI_le (by omega) (by omega)) h)
        exact fin i at0 I' D a3 a4 (by omega) hF hs h5 hD hT hE
  refine loop 160 0 0 _ [] _ _ rfl (Nat.le_refl _) (Nat.zero_le _) (Fr.rfl.up (by decide) _ _) (fun j hj => by rw [up2_s, up1_n _ _ hj]) (by rw [up2_s, up1_s]; rfl) (Nat.le_refl _) (fun k hk => absurd hk (Nat.not_lt_zero k)) rfl
def sp_Reader_passes5 : SpT := fun as S I L Post => ∃ (T : List Tok) (i u : Nat) (w : Int32), as = [.ref 23, .int w] ∧ S = S5 ∧ PS I T i u ∧ (ts T i = w → Post (some (.int 1)) S5 (up2 I 23 6 (nI (i + 1))) L) ∧ (¬ ts T i = w → Post (some (.int 0)) S5 I L)
set_option maxHeartbeats 4000000 in
set_option maxRecDepth 100000 in
theorem c_Reader_passes5 : Con mReader_passes 2 0 0 sp_Reader_passes5 := by
  refine con_of_X rfl fun G as S I L Post hs => ?_
  obtain ⟨T, i, u, w, rfl, rfl, hP, h1, h2⟩ := hs
  have e6 := hP.2.1
  have hi : i < 161 := by have := hP.2.2.2.2.1; have := hP.2.2.2.2.2.2; omega
  refine ⟨0, Nat.le_of_ble_eq_true rfl, ?_⟩
  show X mReader_passes G _ S5 I L 0 [.ref 23, .int w] [] Post
  refine x_aload_n dReader_passes_0 rfl ?_
  refine x_getR fl_Reader_19 rfl dReader_passes_1 rfl rfl rfl ?_
  refine x_aload_n dReader_passes_4 rfl ?_
  refine x_getI fl_Reader_31 rfl dReader_passes_5 rfl rfl ?_
  -- at 8: .iaload
  rw [e6]
  refine x_ialdJ (j := i) dReader_passes_8 rfl rfl (by first | rfl | (simp only [← nI_add, ← pk_mul]; rfl)) (by omega) ?_
  -- at 9: .iload_n 1
  rw [hP.s25]
  refine x_iload_n dReader_passes_9 rfl ?_
  -- at 10: .if_icmp .eq 5
  refine x_icmp_eq (tgt := 15) dReader_passes_10 (by decide) (fun c1 => ?_) (fun c1 => ?_)
  · refine x_aload_n dReader_passes_15 rfl ?_
    refine x_dup dReader_passes_16 rfl ?_
    refine x_getI fl_Reader_31 rfl dReader_passes_17 rfl rfl ?_
    -- at 20: .iconst 1
    rw [e6]
    refine x_iconst (v := 1) dReader_passes_20 rfl ?_
    refine x_iadd dReader_passes_21 ?_
    refine x_putI fl_Reader_31 rfl dReader_passes_22 (by decide) rfl rfl rfl rfl ?_
    refine x_iconst (v := 1) dReader_passes_25 rfl ?_
    -- at 26: .ireturn
    rw [nI_1]
    refine x_ireturn dReader_passes_26 rfl rfl ?_
    exact h1 c1
  · refine x_iconst (v := 0) dReader_passes_13 rfl ?_
    -- at 14: .ireturn
    refine x_ireturn dReader_passes_14 rfl rfl ?_
    exact h2 c1
def sp_Reader_step5 : SpT := fun as S I L Post => ∃ (u : Nat) (x : Int32), as = [.ref 23, .int x] ∧ S = S5 ∧ I 23 9 = nI u ∧ u < 160 ∧ Post none S5 (stU I u x) L
set_option maxHeartbeats 4000000 in
set_option maxRecDepth 100000 in
theorem c_Reader_step5 : Con mReader_step 2 0 0 sp_Reader_step5 := by
  refine con_of_X rfl fun G as S I L Post hs => ?_
  obtain ⟨u, x, rfl, rfl, hu, h160, h1⟩ := hs
  refine ⟨0, Nat.le_of_ble_eq_true rfl, ?_⟩
  show X mReader_step G _ S5 I L 0 [.ref 23, .int x] [] Post
  refine x_aload_n dReader_step_0 rfl ?_
  refine x_getI fl_Reader_40 rfl dReader_step_1 rfl rfl ?_
  refine x_sipush (v := 160) dReader_step_4 rfl ?_
  -- at 7: .if_icmp .ge 23
  rw [hu]
  refine x_icmp_ge (tgt := 30) dReader_step_7 (by decide) (fun h => absurd h (nI_ge (b := 160) h160 (by omega))) (fun _ => ?_)
  refine x_aload_n dReader_step_10 rfl ?_
  refine x_getR fl_Reader_34 rfl dReader_step_11 rfl rfl rfl ?_
  refine x_aload_n dReader_step_14 rfl ?_
  refine x_getI fl_Reader_40 rfl dReader_step_15 rfl rfl ?_
  -- at 18: .iload_n 1
  rw [hu]
  refine x_iload_n dReader_step_18 rfl ?_
  refine x_iastJ (j := u) dReader_step_19 rfl rfl (by first | rfl | (simp only [← nI_add, ← pk_mul]; rfl)) (by omega) ?_
  refine x_aload_n dReader_step_20 rfl ?_
  refine x_dup dReader_step_21 rfl ?_
  refine x_getI fl_Reader_40 rfl dReader_step_22 rfl rfl ?_
  -- at 25: .iconst 1
  simp only [up2_n, up2_s, ne_eq, Nat.reduceEqDiff, not_false_eq_true, hu]
  refine x_iconst (v := 1) dReader_step_25 rfl ?_
  refine x_iadd dReader_step_26 ?_
  refine x_putI fl_Reader_40 rfl dReader_step_27 (by decide) rfl rfl rfl rfl ?_
  -- at 30: .return_
  refine x_return dReader_step_30 rfl ?_
  exact h1
def sp_Reader_did5 : SpT := fun as S I L Post => ∃ (u : Nat) (x : Int32), as = [.ref 23, .int x] ∧ S = S5 ∧ I 23 9 = nI u ∧ u < 160 ∧ Post (some (.int 1)) S5 (stU I u (20000 + x)) L
set_option maxHeartbeats 4000000 in
set_option maxRecDepth 100000 in
theorem c_Reader_did5 : Con mReader_did 3 0 0 sp_Reader_did5 := by
  refine con_of_X rfl fun G as S I L Post hs => ?_
  obtain ⟨u, x, rfl, rfl, hu, h160, h1⟩ := hs
  refine ⟨0, Nat.le_of_ble_eq_true rfl, ?_⟩
  show X mReader_did G _ S5 I L 0 [.ref 23, .int x] [] Post
  refine x_aload_n dReader_did_0 rfl ?_
  refine x_sipush (v := 20000) dReader_did_1 rfl ?_
  refine x_iload_n dReader_did_4 rfl ?_
  refine x_iadd dReader_did_5 ?_
  -- at 6: .invokevirtual 139
  refine x_callV_1 c_Reader_step5 ok_Reader_step ml_Reader_139 dReader_did_6 rfl rfl rfl rfl rfl ?_
  refine ⟨u, _, rfl, rfl, hu, h160, ?_⟩
  refine x_iconst (v := 1) dReader_did_9 rfl ?_
  -- at 10: .ireturn
  refine x_ireturn dReader_did_10 rfl rfl ?_
  exact h1
def sp_Reader_opens5 : SpT := fun as S I L Post => ∃ (T : List Tok) (i u op : Nat) (w : Int32), as = [.ref 23, .int w, .int (nI op)] ∧ S = S5 ∧ op ≤ 5 ∧ PS I T i u ∧ (op < 5 ∧ ts T i = w → Post (some (.int 1)) S5 (up2 I 23 6 (nI (i + 1))) L) ∧ (¬ (op < 5 ∧ ts T i = w) → Post (some (.int 0)) S5 I L)
set_option maxHeartbeats 4000000 in
set_option maxRecDepth 100000 in
theorem c_Reader_opens5 : Con mReader_opens 3 0 0 sp_Reader_opens5 := by
  refine con_of_X rfl fun G as S I L Post hs => ?_
  obtain ⟨T, i, u, op, w, rfl, rfl, hop, hP, h1, h2⟩ := hs
  refine ⟨0, Nat.le_of_ble_eq_true rfl, ?_⟩
  show X mReader_opens G _ S5 I L 0 [.ref 23, .int w, .int (nI op)] [] Post
  refine x_iload_n dReader_opens_0 rfl ?_
  refine x_iconst (v := 5) dReader_opens_1 rfl ?_
  -- at 2: .if_icmp .ge 15
  by_cases h5 : op < 5
  · refine x_icmp_ge (tgt := 17) dReader_opens_2 (by decide) (fun h => absurd h (nI_ge (b := 5) h5 (by omega))) (fun _ => ?_)
    refine x_aload_n dReader_opens_5 rfl ?_
    refine x_iload_n dReader_opens_6 rfl ?_
    -- at 7: .invokevirtual 46
    refine x_callV_1 c_Reader_passes5 ok_Reader_passes ml_Reader_46 dReader_opens_7 rfl rfl rfl rfl rfl ?_
    refine ⟨T, i, u, w, rfl, rfl, hP, fun q => ?_, fun q => ?_⟩
    · refine x_if_eq (tgt := 17) dReader_opens_10 (by decide) (fun h => absurd h (by decide)) (fun _ => ?_)
      refine x_iconst (v := 1) dReader_opens_13 rfl ?_
      refine x_goto (tgt := 18) dReader_opens_14 (by decide) ?_
      -- at 18: .ireturn
      refine x_ireturn dReader_opens_18 rfl rfl ?_
      exact h1 ⟨h5, q⟩
    · refine x_if_eq (tgt := 17) dReader_opens_10 (by decide) (fun _ => ?_) (fun h => absurd (by decide) h)
      refine x_iconst (v := 0) dReader_opens_17 rfl ?_
      -- at 18: .ireturn
      refine x_ireturn dReader_opens_18 rfl rfl ?_
      exact h2 (fun z => q z.2)
  · refine x_icmp_ge (tgt := 17) dReader_opens_2 (by decide) (fun _ => ?_) (fun h => absurd (nI_le (a := 5) (by omega) (by omega)) h)
    refine x_iconst (v := 0) dReader_opens_17 rfl ?_
    -- at 18: .ireturn
    refine x_ireturn dReader_opens_18 rfl rfl ?_
    exact h2 (fun z => h5 z.1)
def sp_lev5 (l op : Nat) : SpT := fun as S I L Post => ∃ (T : List Tok) (i u : Nat), as = [.ref 23, .int (nI l), .int (nI op)] ∧ S = S5 ∧ PS I T i u ∧
  (∀ (I' : IM) (j : Nat) (C : List Int32), PSok I u I' j C → LevOk T l op i j C → Post (some (.int 1)) S5 I' L) ∧ (∀ (I' : IM) (j : Nat), PSno I I' j → LevNo T l op i j → Post (some (.int 0)) S5 I' L)
def sp_negn5 (op : Nat) : SpT := fun as S I L Post => ∃ (T : List Tok) (i u : Nat), as = [.ref 23, .int (nI op)] ∧ S = S5 ∧ PS I T i u ∧
  (∀ (I' : IM) (j : Nat) (C : List Int32), PSok I u I' j C → LevOk T 2 op i j C → Post (some (.int 1)) S5 I' L) ∧ (∀ (I' : IM) (j : Nat), PSno I I' j → LevNo T 2 op i j → Post (some (.int 0)) S5 I' L)
def sp_onen5 (op : Nat) : SpT := fun as S I L Post => ∃ (T : List Tok) (i u : Nat), as = [.ref 23, .int (nI op)] ∧ S = S5 ∧ PS I T i u ∧
  (∀ (I' : IM) (j : Nat) (C : List Int32), PSok I u I' j C → OneOk T op i j C → Post (some (.int 1)) S5 I' L) ∧ (∀ (I' : IM) (j : Nat), PSno I I' j → OneNo T op i j → Post (some (.int 0)) S5 I' L)
set_option maxHeartbeats 4000000 in
set_option maxRecDepth 100000 in
theorem c_lev_bin5 {l op d : Nat} (hl : isBin l) (hd : 3 ≤ d) (h : Con mReader_level d 0 0 (sp_lev5 (l + 1) op)) : Con mReader_level (d + 1) 0 0 (sp_lev5 l op) := by
  refine con_of_X rfl fun G as S I L Post hs => ?_
  obtain ⟨T, i, u, rfl, rfl, hP, h1, h2⟩ := hs
  refine ⟨2, Nat.le_of_ble_eq_true rfl, ?_⟩
  show X mReader_level G (d + 1, 0, 0) S5 I L 0 [.ref 23, .int (nI l), .int (nI op), .null, .null] [] Post
  have hui := hP.2.2.2.1
  have h161 := hP.2.2.2.2.2.2
  refine x_iload_n dReader_level_0 rfl ?_
  refine x_iconst (v := 2) dReader_level_1 rfl ?_
  -- at 2: .if_icmp .ne 9
  refine x_icmp_ne (tgt := 11) dReader_level_2 (by decide) (fun _ => ?_) (fun h => absurd h (by rcases hl with rfl | rfl | rfl | rfl <;> decide))
  refine x_iload_n dReader_level_11 rfl ?_
  refine x_iconst (v := 5) dReader_level_12 rfl ?_
  -- at 13: .if_icmp .lt 9
  refine x_icmp_lt (tgt := 22) dReader_level_13 (by decide) (fun _ => ?_) (fun h => absurd (by rcases hl with rfl | rfl | rfl | rfl <;> decide) h)
  refine x_aload_n dReader_level_22 rfl ?_
  refine x_iload_n dReader_level_23 rfl ?_
  refine x_iconst (v := 1) dReader_level_24 rfl ?_
  refine x_iadd dReader_level_25 ?_
  -- at 26: .iload_n 2
  rw [nI_1]
  refine x_iload_n dReader_level_26 rfl ?_
  -- at 27: .invokevirtual 50
  refine x_callV_2 h ok_Reader_level ml_Reader_50 dReader_level_27 (ble_of (Nat.le_refl _)) rfl rfl rfl rfl ?_
  refine ⟨T, i, u, rfl, rfl, hP, fun I1 j C k1 k2 => ?_, fun I1 j k1 k2 => ?_⟩
  · refine x_if_ne (tgt := 35) dReader_level_30 (by decide) (fun _ => ?_) (fun h => absurd h (by decide))
    refine x_iconst (v := 0) dReader_level_35 rfl ?_
    refine x_istoren_3 dReader_level_36 rfl rfl ?_
    -- at 37: .iload_n 3
    have loop : ∀ (k n j : Nat) (I' : IM) (C : List Int32) (a4 : Value), n + k = 160 → i + n ≤ j → PSok I u I' j C → BinIn T l op i j C →
        X mReader_level G (d + 1, 0, 0) S5 I' L 37 [.ref 23, .int (nI l), .int (nI op), .int (nI n), a4] [] Post := by
      intro k
      induction k with
      | zero =>
        intro n j I' C a4 hn hj k1 k2
        obtain rfl : n = 160 := by omega
        refine x_iload_n dReader_level_37 rfl ?_
        refine x_sipush (v := 160) dReader_level_38 rfl ?_
        -- at 41: .if_icmp .ge 69
        refine x_icmp_ge (tgt := 110) dReader_level_41 (by decide) (fun _ => ?_) (fun h => absurd (Int32.le_refl _) h)
        refine x_iconst (v := 1) dReader_level_110 rfl ?_
        -- at 111: .ireturn
        refine x_ireturn dReader_level_111 rfl rfl ?_
        have hjT := k2.2.1
        refine h1 I' j C k1 (bin_done hl k2 (fun z => ?_))
        have := hP.2.2.2.2.2.1.2.1 j hjT (enc_sgn z).2
        omega
      | succ k ih =>
        intro n j I' C a4 hn hj k1 k2
        have hjT := k2.2.1
        have hPj : PS I' T j (u + C.length) := PSok.ps hP k1 (by have := k2.1; omega) hjT
        refine x_iload_n dReader_level_37 rfl ?_
        refine x_sipush (v := 160) dReader_level_38 rfl ?_
        -- at 41: .if_icmp .ge 69
        refine x_icmp_ge (tgt := 110) dReader_level_41 (by decide) (fun h => absurd h (nI_ge (b := 160) (by omega) (by omega))) (fun _ => ?_)
        refine x_iload_n dReader_level_44 rfl ?_
        refine x_aload_n dReader_level_45 rfl ?_
        refine x_getR fl_Reader_19 rfl dReader_level_46 rfl rfl rfl ?_
        refine x_aload_n dReader_level_49 rfl ?_
        refine x_getI fl_Reader_31 rfl dReader_level_50 rfl rfl ?_
        -- at 53: .iaload
        rw [k1.2.1]
        refine x_ialdJ (j := j) dReader_level_53 rfl rfl (by first | rfl | (simp only [← nI_add, ← pk_mul]; rfl)) (by omega) ?_
        -- at 54: .invokestatic 136
        rw [hPj.s25]
        refine x_callS_2 c_Reader_joins ok_Reader_joins ml_Reader_136 dReader_level_54 (ble_of (by omega)) rfl ?_
        refine ⟨l, _, rfl, hl, fun q => ?_, fun q => ?_⟩
        · obtain ⟨q1, q2⟩ := enc_sgn q
          have hj1 := hPj.more q2
          refine x_if_eq (tgt := 110) dReader_level_57 (by decide) (fun h => absurd h (by decide)) (fun _ => ?_)
          refine x_aload_n dReader_level_60 rfl ?_
          refine x_getR fl_Reader_19 rfl dReader_level_61 rfl rfl rfl ?_
          refine x_aload_n dReader_level_64 rfl ?_
          refine x_getI fl_Reader_31 rfl dReader_level_65 rfl rfl ?_
          -- at 68: .iaload
          rw [k1.2.1]
          refine x_ialdJ (j := j) dReader_level_68 rfl rfl (by first | rfl | (simp only [← nI_add, ← pk_mul]; rfl)) (by omega) ?_
          -- at 69: .istore 4
          rw [hPj.s25]
          refine x_istore_4 dReader_level_69 rfl rfl ?_
          refine x_aload_n dReader_level_71 rfl ?_
          refine x_dup dReader_level_72 rfl ?_
          refine x_getI fl_Reader_31 rfl dReader_level_73 rfl rfl ?_
          -- at 76: .iconst 1
          rw [k1.2.1]
          refine x_iconst (v := 1) dReader_level_76 rfl ?_
          refine x_iadd dReader_level_77 ?_
          -- at 78: .putfield 31
          rw [nI_1]
          refine x_putI fl_Reader_31 rfl dReader_level_78 (by decide) rfl rfl rfl rfl ?_
          refine x_aload_n dReader_level_81 rfl ?_
          refine x_iload_n dReader_level_82 rfl ?_
          refine x_iconst (v := 1) dReader_level_83 rfl ?_
          refine x_iadd dReader_level_84 ?_
          -- at 85: .iload_n 2
          rw [nI_1]
          refine x_iload_n dReader_level_85 rfl ?_
          -- at 86: .invokevirtual 50
          refine x_callV_2 h ok_Reader_level ml_Reader_50 dReader_level_86 (ble_of (Nat.le_refl _)) rfl rfl rfl rfl ?_
          refine ⟨T, j + 1, u + C.length, rfl, rfl, hPj.nx hj1, fun I3 j2 D k3 k4 => ?_, fun I3 j2 k3 k4 => ?_⟩
          · refine x_if_ne (tgt := 94) dReader_level_89 (by decide) (fun _ => ?_) (fun h => absurd h (by decide))
            refine x_aload_n dReader_level_94 rfl ?_
            refine x_sipush (v := 20000) dReader_level_95 rfl ?_
            refine x_iload dReader_level_98 rfl ?_
            refine x_iadd dReader_level_100 ?_
            -- at 101: .invokevirtual 139
            refine x_callV_1 c_Reader_step5 ok_Reader_step ml_Reader_139 dReader_level_101 (ble_of (by omega)) rfl rfl rfl rfl ?_
            have k5 : PSok I u I3 j2 (C ++ D) := (k1.nx (j + 1)).tr k3
            have hj2 := k4.2.1
            have hj3 := k4.1
            have hj4 := k2.1
            refine ⟨u + (C ++ D).length, _, rfl, rfl, k5.2.2.1, by rw [List.length_append]; omega, ?_⟩
            refine x_iincp_3 dReader_level_104 rfl rfl ?_
            refine x_goto (tgt := 37) dReader_level_107 (by decide) ?_
            -- at 37: .iload_n 3
            rw [nI_1]
            have k6 := k5.stp rfl (20000 + ts T j)
            rw [q1] at k6
            exact ih (n + 1) j2 _ _ _ (by omega) (by omega) k6 (bin_step hl k2 q k4)
          · refine x_if_ne (tgt := 94) dReader_level_89 (by decide) (fun h => absurd (by decide) h) (fun _ => ?_)
            refine x_iconst (v := 0) dReader_level_92 rfl ?_
            -- at 93: .ireturn
            refine x_ireturn dReader_level_93 rfl rfl ?_
            exact h2 I3 j2 ⟨((k1.1.nx _).tr k3.1), k3.2⟩ (bin_fail hl k2 q k4)
        · refine x_if_eq (tgt := 110) dReader_level_57 (by decide) (fun _ => ?_) (fun h => absurd (by decide) h)
          refine x_iconst (v := 1) dReader_level_110 rfl ?_
          -- at 111: .ireturn
          refine x_ireturn dReader_level_111 rfl rfl ?_
          exact h1 I' j C k1 (bin_done hl k2 q)
    exact loop 160 0 j I1 C _ rfl (by have := k2.1; omega) k1 (bin_init hl k2)
  · refine x_if_ne (tgt := 35) dReader_level_30 (by decide) (fun h => absurd (by decide) h) (fun _ => ?_)
    refine x_iconst (v := 0) dReader_level_33 rfl ?_
    -- at 34: .ireturn
    refine x_ireturn dReader_level_34 rfl rfl ?_
    exact h2 I1 j k1 (bin_no hl k2)
set_option maxHeartbeats 4000000 in
set_option maxRecDepth 100000 in
theorem c_lev_25 {op d : Nat} (h : Con mReader_negation d 0 0 (sp_negn5 op)) : Con mReader_level (d + 1) 0 0 (sp_lev5 2 op) := by
  refine con_of_X rfl fun G as S I L Post hs => ?_
  obtain ⟨T, i, u, rfl, rfl, hP, h1, h2⟩ := hs
  refine ⟨2, Nat.le_of_ble_eq_true rfl, ?_⟩
  show X mReader_level G (d + 1, 0, 0) S5 I L 0 [.ref 23, .int (nI 2), .int (nI op), .null, .null] [] Post
  refine x_iload_n dReader_level_0 rfl ?_
  refine x_iconst (v := 2) dReader_level_1 rfl ?_
  -- at 2: .if_icmp .ne 9
  refine x_icmp_ne (tgt := 11) dReader_level_2 (by decide) (fun h => absurd rfl h) (fun _ => ?_)
  refine x_aload_n dReader_level_5 rfl ?_
  refine x_iload_n dReader_level_6 rfl ?_
  -- at 7: .invokevirtual 130
  refine x_callV_1 h ok_Reader_negation ml_Reader_130 dReader_level_7 (ble_of (Nat.le_refl _)) rfl rfl rfl rfl ?_
  refine ⟨T, i, u, rfl, rfl, hP, fun I1 j C k1 k2 => ?_, fun I1 j k1 k2 => ?_⟩
  · refine x_ireturn dReader_level_10 rfl rfl ?_
    exact h1 I1 j C k1 k2
  · refine x_ireturn dReader_level_10 rfl rfl ?_
    exact h2 I1 j k1 k2
set_option maxHeartbeats 4000000 in
set_option maxRecDepth 100000 in
theorem c_lev_55 {op d : Nat} (h : Con mReader_one d 0 0 (sp_onen5 op)) : Con mReader_level (d + 1) 0 0 (sp_lev5 5 op) := by
  refine con_of_X rfl fun G as S I L Post hs => ?_
  obtain ⟨T, i, u, rfl, rfl, hP, h1, h2⟩ := hs
  refine ⟨2, Nat.le_of_ble_eq_true rfl, ?_⟩
  show X mReader_level G (d + 1, 0, 0) S5 I L 0 [.ref 23, .int (nI 5), .int (nI op), .null, .null] [] Post
  refine x_iload_n dReader_level_0 rfl ?_
  refine x_iconst (v := 2) dReader_level_1 rfl ?_
  -- at 2: .if_icmp .ne 9
  refine x_icmp_ne (tgt := 11) dReader_level_2 (by decide) (fun _ => ?_) (fun h => absurd h (by decide))
  refine x_iload_n dReader_level_11 rfl ?_
  refine x_iconst (v := 5) dReader_level_12 rfl ?_
  -- at 13: .if_icmp .lt 9
  refine x_icmp_lt (tgt := 22) dReader_level_13 (by decide) (fun h => absurd h (by decide)) (fun _ => ?_)
  refine x_aload_n dReader_level_16 rfl ?_
  refine x_iload_n dReader_level_17 rfl ?_
  -- at 18: .invokevirtual 133
  refine x_callV_1 h ok_Reader_one ml_Reader_133 dReader_level_18 (ble_of (Nat.le_refl _)) rfl rfl rfl rfl ?_
  refine ⟨T, i, u, rfl, rfl, hP, fun I1 j C k1 k2 => ?_, fun I1 j k1 k2 => ?_⟩
  · refine x_ireturn dReader_level_21 rfl rfl ?_
    exact h1 I1 j C k1 (one_lev k2)
  · refine x_ireturn dReader_level_21 rfl rfl ?_
    exact h2 I1 j k1 (one_levN k2)
set_option maxHeartbeats 4000000 in
set_option maxRecDepth 100000 in
theorem c_negn5 {op d : Nat} (hop : op ≤ 5) (hd : 3 ≤ d) (h3 : Con mReader_level d 0 0 (sp_lev5 3 op)) (hn : op < 5 → ∃ d2, d2 ≤ d ∧ Con mReader_negation d2 0 0 (sp_negn5 (op + 1))) : Con mReader_negation (d + 1) 0 0 (sp_negn5 op) := by
  refine con_of_X rfl fun G as S I L Post hs => ?_
  obtain ⟨T, i, u, rfl, rfl, hP, h1, h2⟩ := hs
  have hui := hP.2.2.2.1
  have hiT := hP.2.2.2.2.1
  have h161 := hP.2.2.2.2.2.2
  refine ⟨1, Nat.le_of_ble_eq_true rfl, ?_⟩
  show X mReader_negation G (d + 1, 0, 0) S5 I L 0 [.ref 23, .int (nI op), .null] [] Post
  refine x_aload_n dReader_negation_0 rfl ?_
  refine x_getR fl_Reader_19 rfl dReader_negation_1 rfl rfl rfl ?_
  refine x_aload_n dReader_negation_4 rfl ?_
  refine x_getI fl_Reader_31 rfl dReader_negation_5 rfl rfl ?_
  -- at 8: .iaload
  rw [hP.2.1]
  refine x_ialdJ (j := i) dReader_negation_8 rfl rfl (by first | rfl | (simp only [← nI_add, ← pk_mul]; rfl)) (by omega) ?_
  -- at 9: .bipush 9
  rw [hP.s25]
  refine x_bipush (v := 9) dReader_negation_9 rfl ?_
  -- at 11: .if_icmp .ne 38
  by_cases h9 : ts T i = 9
  · refine x_icmp_ne (tgt := 49) dReader_negation_11 (by decide) (fun h => absurd h9 h) (fun _ => ?_)
    have no : ∀ (I' : IM) (j : Nat), PSno I I' j → LevNo T 2 op i j → X mReader_negation G (d + 1, 0, 0) S5 I' L 47 [.ref 23, .int (nI op), .null] [] Post := by
      intro I' j k1 k2
      refine x_iconst (v := 0) dReader_negation_47 rfl ?_
      -- at 48: .ireturn
      refine x_ireturn dReader_negation_48 rfl rfl ?_
      exact h2 I' j k1 k2
    refine x_aload_n dReader_negation_14 rfl ?_
    refine x_bipush (v := 9) dReader_negation_15 rfl ?_
    refine x_iload_n dReader_negation_17 rfl ?_
    -- at 18: .invokevirtual 143
    refine x_callV_2 c_Reader_opens5 ok_Reader_opens ml_Reader_143 dReader_negation_18 (ble_of (by omega)) rfl rfl rfl rfl ?_
    refine ⟨T, i, u, op, 9, rfl, rfl, hop, hP, fun q => ?_, fun q => ?_⟩
    · refine x_if_eq (tgt := 47) dReader_negation_21 (by decide) (fun h => absurd h (by decide)) (fun _ => ?_)
      obtain ⟨d2, hd2, hc⟩ := hn q.1
      have hi1 := hP.more (by rw [h9]; decide)
      refine x_aload_n dReader_negation_24 rfl ?_
      refine x_iload_n dReader_negation_25 rfl ?_
      refine x_iconst (v := 1) dReader_negation_26 rfl ?_
      refine x_iadd dReader_negation_27 ?_
      -- at 28: .invokevirtual 130
      rw [nI_1]
      refine x_callV_1 hc ok_Reader_negation ml_Reader_130 dReader_negation_28 (ble_of (by omega)) rfl rfl rfl rfl ?_
      refine ⟨T, i + 1, u, rfl, rfl, hP.nx hi1, fun I2 j C k1 k2 => ?_, fun I2 j k1 k2 => ?_⟩
      · refine x_if_eq (tgt := 47) dReader_negation_31 (by decide) (fun h => absurd h (by decide)) (fun _ => ?_)
        refine x_aload_n dReader_negation_34 rfl ?_
        refine x_bipush (v := 9) dReader_negation_35 rfl ?_
        -- at 37: .invokevirtual 146
        refine x_callV_1 c_Reader_did5 ok_Reader_did ml_Reader_146 dReader_negation_37 (ble_of (by omega)) rfl rfl rfl rfl ?_
        have k3 : PSok I u I2 j ([] ++ C) := ((PSok.nil hP.2.1 hP.2.2.1).nx (i + 1)).tr k1
        have hj1 := k2.1
        have hj2 := k2.2.1
        refine ⟨u + C.length, 9, rfl, rfl, k1.2.2.1, by omega, ?_⟩
        refine x_if_eq (tgt := 47) dReader_negation_40 (by decide) (fun h => absurd h (by decide)) (fun _ => ?_)
        refine x_iconst (v := 1) dReader_negation_43 rfl ?_
        refine x_goto (tgt := 48) dReader_negation_44 (by decide) ?_
        -- at 48: .ireturn
        refine x_ireturn dReader_negation_48 rfl rfl ?_
        exact h1 _ j _ (k3.stp rfl (20000 + 9)) (not_ok hiT h9 q.1 k2)
      · refine x_if_eq (tgt := 47) dReader_negation_31 (by decide) (fun _ => ?_) (fun h => absurd (by decide) h)
        exact no I2 j ⟨(PSf.rfl.nx _).tr k1.1, k1.2⟩ (not_no hiT h9 q.1 k2)
    · refine x_if_eq (tgt := 47) dReader_negation_21 (by decide) (fun _ => ?_) (fun h => absurd (by decide) h)
      exact no I i ⟨PSf.rfl, hP.2.1⟩ (not_full hiT h9 (fun z => q ⟨z, h9⟩))
  · refine x_icmp_ne (tgt := 49) dReader_negation_11 (by decide) (fun _ => ?_) (fun h => absurd h h9)
    refine x_aload_n dReader_negation_49 rfl ?_
    refine x_iconst (v := 3) dReader_negation_50 rfl ?_
    refine x_iload_n dReader_negation_51 rfl ?_
    -- at 52: .invokevirtual 50
    refine x_callV_2 h3 ok_Reader_level ml_Reader_50 dReader_negation_52 (ble_of (Nat.le_refl _)) rfl rfl rfl rfl ?_
    refine ⟨T, i, u, rfl, rfl, hP, fun I1 j C k1 k2 => ?_, fun I1 j k1 k2 => ?_⟩
    · have hj1 := k2.1
      have hj2 := k2.2.1
      have hPj : PS I1 T j (u + C.length) := PSok.ps hP k1 (by omega) hj2
      refine x_if_ne (tgt := 60) dReader_negation_55 (by decide) (fun _ => ?_) (fun h => absurd h (by decide))
      refine x_aload_n dReader_negation_60 rfl ?_
      refine x_getR fl_Reader_19 rfl dReader_negation_61 rfl rfl rfl ?_
      refine x_aload_n dReader_negation_64 rfl ?_
      refine x_getI fl_Reader_31 rfl dReader_negation_65 rfl rfl ?_
      -- at 68: .iaload
      rw [k1.2.1]
      refine x_ialdJ (j := j) dReader_negation_68 rfl rfl (by first | rfl | (simp only [← nI_add, ← pk_mul]; rfl)) (by omega) ?_
      -- at 69: .istore_n 2
      rw [hPj.s25]
      refine x_istoren_2 dReader_negation_69 rfl rfl ?_
      refine x_iload_n dReader_negation_70 rfl ?_
      refine x_bipush (v := 60) dReader_negation_71 rfl ?_
      -- at 73: .if_icmp .eq 11
      have go84 : cmpP (ts T j) → X mReader_negation G (d + 1, 0, 0) S5 I1 L 84 [.ref 23, .int (nI op), .int (ts T j)] [] Post := by
        intro hc
        obtain ⟨q1, q2⟩ := enc_cmp hc
        have hj3 := hPj.more q2
        refine x_aload_n dReader_negation_84 rfl ?_
        refine x_dup dReader_negation_85 rfl ?_
        refine x_getI fl_Reader_31 rfl dReader_negation_86 rfl rfl ?_
        -- at 89: .iconst 1
        rw [k1.2.1]
        refine x_iconst (v := 1) dReader_negation_89 rfl ?_
        refine x_iadd dReader_negation_90 ?_
        -- at 91: .putfield 31
        rw [nI_1]
        refine x_putI fl_Reader_31 rfl dReader_negation_91 (by decide) rfl rfl rfl rfl ?_
        refine x_aload_n dReader_negation_94 rfl ?_
        refine x_iconst (v := 3) dReader_negation_95 rfl ?_
        refine x_iload_n dReader_negation_96 rfl ?_
        -- at 97: .invokevirtual 50
        refine x_callV_2 h3 ok_Reader_level ml_Reader_50 dReader_negation_97 (ble_of (Nat.le_refl _)) rfl rfl rfl rfl ?_
        refine ⟨T, j + 1, u + C.length, rfl, rfl, hPj.nx hj3, fun I3 j2 D k3 k4 => ?_, fun I3 j2 k3 k4 => ?_⟩
        · have k5 : PSok I u I3 j2 (C ++ D) := (k1.nx (j + 1)).tr k3
          have hj4 := k4.1
          have hj5 := k4.2.1
          refine x_if_eq (tgt := 115) dReader_negation_100 (by decide) (fun h => absurd h (by decide)) (fun _ => ?_)
          refine x_aload_n dReader_negation_103 rfl ?_
          refine x_iload_n dReader_negation_104 rfl ?_
          -- at 105: .invokevirtual 146
          refine x_callV_1 c_Reader_did5 ok_Reader_did ml_Reader_146 dReader_negation_105 (ble_of (by omega)) rfl rfl rfl rfl ?_
          refine ⟨u + (C ++ D).length, _, rfl, rfl, k5.2.2.1, by rw [List.length_append]; omega, ?_⟩
          refine x_if_eq (tgt := 115) dReader_negation_108 (by decide) (fun h => absurd h (by decide)) (fun _ => ?_)
          refine x_iconst (v := 1) dReader_negation_111 rfl ?_
          refine x_goto (tgt := 116) dReader_negation_112 (by decide) ?_
          -- at 116: .ireturn
          refine x_ireturn dReader_negation_116 rfl rfl ?_
          have k6 := k5.stp rfl (20000 + ts T j)
          rw [q1] at k6
          exact h1 _ j2 _ k6 (cmp_ok hiT h9 k2 hc k4)
        · refine x_if_eq (tgt := 115) dReader_negation_100 (by decide) (fun _ => ?_) (fun h => absurd (by decide) h)
          refine x_iconst (v := 0) dReader_negation_115 rfl ?_
          -- at 116: .ireturn
          refine x_ireturn dReader_negation_116 rfl rfl ?_
          exact h2 I3 j2 ⟨(k1.1.nx _).tr k3.1, k3.2⟩ (cmp_no hiT h9 k2 hc k4)
      refine x_icmp_eq (tgt := 84) dReader_negation_73 (by decide) (fun c1 => ?_) (fun c1 => ?_)
      · exact go84 (Or.inl c1)
      · refine x_iload_n dReader_negation_76 rfl ?_
        refine x_bipush (v := 61) dReader_negation_77 rfl ?_
        -- at 79: .if_icmp .eq 5
        refine x_icmp_eq (tgt := 84) dReader_negation_79 (by decide) (fun c2 => ?_) (fun c2 => ?_)
        · exact go84 (Or.inr c2)
        · refine x_iconst (v := 1) dReader_negation_82 rfl ?_
          -- at 83: .ireturn
          refine x_ireturn dReader_negation_83 rfl rfl ?_
          exact h1 I1 j C k1 (sum_only hiT h9 k2 (fun z => z.elim c1 c2))
    · refine x_if_ne (tgt := 60) dReader_negation_55 (by decide) (fun h => absurd (by decide) h) (fun _ => ?_)
      refine x_iconst (v := 0) dReader_negation_58 rfl ?_
      -- at 59: .ireturn
      refine x_ireturn dReader_negation_59 rfl rfl ?_
      exact h2 I1 j k1 (sum_no hiT h9 k2)
set_option maxHeartbeats 4000000 in
set_option maxRecDepth 100000 in
theorem c_onen5 {op d : Nat} (hop : op ≤ 5) (hd : 3 ≤ d) (hn : op < 5 → ∃ d2, d2 ≤ d ∧ Con mReader_one d2 0 0 (sp_onen5 (op + 1))) (hp : op < 5 → ∃ d2, d2 ≤ d ∧ Con mReader_level d2 0 0 (sp_lev5 0 (op + 1))) : Con mReader_one (d + 1) 0 0 (sp_onen5 op) := by
  refine con_of_X rfl fun G as S I L Post hs => ?_
  obtain ⟨T, i, u, rfl, rfl, hP, h1, h2⟩ := hs
  have hui := hP.2.2.2.1
  have hiT := hP.2.2.2.2.1
  have h161 := hP.2.2.2.2.2.2
  have hTok := hP.2.2.2.2.2.1.2.2 i hiT
  have e27 : I 27 i = (tk T i).2.2 := (hP.1 i hiT).2.2
  refine ⟨1, Nat.le_of_ble_eq_true rfl, ?_⟩
  show X mReader_one G (d + 1, 0, 0) S5 I L 0 [.ref 23, .int (nI op), .null] [] Post
  refine x_aload_n dReader_one_0 rfl ?_
  refine x_getR fl_Reader_19 rfl dReader_one_1 rfl rfl rfl ?_
  refine x_aload_n dReader_one_4 rfl ?_
  refine x_getI fl_Reader_31 rfl dReader_one_5 rfl rfl ?_
  -- at 8: .iaload
  rw [hP.2.1]
  refine x_ialdJ (j := i) dReader_one_8 rfl rfl (by first | rfl | (simp only [← nI_add, ← pk_mul]; rfl)) (by omega) ?_
  -- at 9: .istore_n 2
  rw [hP.s25]
  refine x_istoren_2 dReader_one_9 rfl rfl ?_
  refine x_iload_n dReader_one_10 rfl ?_
  refine x_iconst (v := 2) dReader_one_11 rfl ?_
  -- at 12: .if_icmp .eq 8
  have lit : ∀ x : Int32, (ts T i = 2 ∨ ts T i = 3) → enc x = cod (tk T i) → X mReader_one G (d + 1, 0, 0) S5 I L 51 [.ref 23, .int (nI op), .int (ts T i)] [.int x, .ref 23] Post := by
    intro x hl hx
    have hi1 := hP.more (by rcases hl with e | e <;> rw [e] <;> decide)
    refine x_callV_1 c_Reader_step5 ok_Reader_step ml_Reader_139 dReader_one_51 (ble_of (by omega)) rfl rfl rfl rfl ?_
    refine ⟨u, x, rfl, rfl, hP.2.2.1, by omega, ?_⟩
    refine x_aload_n dReader_one_54 rfl ?_
    refine x_dup dReader_one_55 rfl ?_
    refine x_getI fl_Reader_31 rfl dReader_one_56 rfl rfl ?_
    -- at 59: .iconst 1
    rw [stU_next hP.2.1]
    refine x_iconst (v := 1) dReader_one_59 rfl ?_
    refine x_iadd dReader_one_60 ?_
    -- at 61: .putfield 31
    rw [nI_1]
    refine x_putI fl_Reader_31 rfl dReader_one_61 (by decide) rfl rfl rfl rfl ?_
    refine x_iconst (v := 1) dReader_one_64 rfl ?_
    -- at 65: .ireturn
    refine x_ireturn dReader_one_65 rfl rfl ?_
    have k := ((PSok.nil hP.2.1 hP.2.2.1).stp rfl x).nx (i + 1)
    rw [hx] at k
    exact h1 _ (i + 1) _ k (one_lit hi1 hl (tok_lit hTok hl).1)
  have at20 : (ts T i = 2 ∨ ts T i = 3) → X mReader_one G (d + 1, 0, 0) S5 I L 20 [.ref 23, .int (nI op), .int (ts T i)] [] Post := by
    intro hl
    obtain ⟨-, t1, t2⟩ := tok_lit hTok hl
    refine x_aload_n dReader_one_20 rfl ?_
    refine x_iload_n dReader_one_21 rfl ?_
    refine x_iconst (v := 2) dReader_one_22 rfl ?_
    -- at 23: .if_icmp .ne 15
    by_cases e2 : ts T i = 2
    · refine x_icmp_ne (tgt := 38) dReader_one_23 (by decide) (fun h => absurd e2 h) (fun _ => ?_)
      refine x_aload_n dReader_one_26 rfl ?_
      refine x_getR fl_Reader_25 rfl dReader_one_27 rfl rfl rfl ?_
      refine x_aload_n dReader_one_30 rfl ?_
      refine x_getI fl_Reader_31 rfl dReader_one_31 rfl rfl ?_
      -- at 34: .iaload
      rw [hP.2.1]
      refine x_ialdJ (j := i) dReader_one_34 rfl rfl (by first | rfl | (simp only [← nI_add, ← pk_mul]; rfl)) (by omega) ?_
      -- at 35: .goto 16
      rw [e27]
      refine x_goto (tgt := 51) dReader_one_35 (by decide) ?_
      -- at 51: .invokevirtual 139
      exact lit _ hl (t1 e2)
    · refine x_icmp_ne (tgt := 38) dReader_one_23 (by decide) (fun _ => ?_) (fun h => absurd h e2)
      refine x_sipush (v := 10000) dReader_one_38 rfl ?_
      refine x_aload_n dReader_one_41 rfl ?_
      refine x_getR fl_Reader_25 rfl dReader_one_42 rfl rfl rfl ?_
      refine x_aload_n dReader_one_45 rfl ?_
      refine x_getI fl_Reader_31 rfl dReader_one_46 rfl rfl ?_
      -- at 49: .iaload
      rw [hP.2.1]
      refine x_ialdJ (j := i) dReader_one_49 rfl rfl (by first | rfl | (simp only [← nI_add, ← pk_mul]; rfl)) (by omega) ?_
      -- at 50: .iadd
      rw [e27]
      refine x_iadd dReader_one_50 ?_
      -- at 51: .invokevirtual 139
      exact lit _ hl (t2 (hl.elim (fun z => absurd z e2) id))
  by_cases e2 : ts T i = 2
  · refine x_icmp_eq (tgt := 20) dReader_one_12 (by decide) (fun _ => ?_) (fun h => absurd e2 h)
    exact at20 (Or.inl e2)
  refine x_icmp_eq (tgt := 20) dReader_one_12 (by decide) (fun h => absurd h e2) (fun _ => ?_)
  refine x_iload_n dReader_one_15 rfl ?_
  refine x_iconst (v := 3) dReader_one_16 rfl ?_
  -- at 17: .if_icmp .ne 49
  by_cases e3 : ts T i = 3
  · refine x_icmp_ne (tgt := 66) dReader_one_17 (by decide) (fun h => absurd e3 h) (fun _ => ?_)
    exact at20 (Or.inr e3)
  refine x_icmp_ne (tgt := 66) dReader_one_17 (by decide) (fun _ => ?_) (fun h => absurd h e3)
  refine x_iload_n dReader_one_66 rfl ?_
  refine x_bipush (v := 45) dReader_one_67 rfl ?_
  -- at 69: .if_icmp .ne 38
  by_cases e45 : ts T i = 45
  · refine x_icmp_ne (tgt := 107) dReader_one_69 (by decide) (fun h => absurd e45 h) (fun _ => ?_)
    have no : ∀ (I' : IM) (j : Nat), PSno I I' j → OneNo T op i j → X mReader_one G (d + 1, 0, 0) S5 I' L 105 [.ref 23, .int (nI op), .int (ts T i)] [] Post := by
      intro I' j k1 k2
      refine x_iconst (v := 0) dReader_one_105 rfl ?_
      -- at 106: .ireturn
      refine x_ireturn dReader_one_106 rfl rfl ?_
      exact h2 I' j k1 k2
    refine x_aload_n dReader_one_72 rfl ?_
    refine x_bipush (v := 45) dReader_one_73 rfl ?_
    refine x_iload_n dReader_one_75 rfl ?_
    -- at 76: .invokevirtual 143
    refine x_callV_2 c_Reader_opens5 ok_Reader_opens ml_Reader_143 dReader_one_76 (ble_of (by omega)) rfl rfl rfl rfl ?_
    refine ⟨T, i, u, op, 45, rfl, rfl, hop, hP, fun q => ?_, fun q => ?_⟩
    · refine x_if_eq (tgt := 105) dReader_one_79 (by decide) (fun h => absurd h (by decide)) (fun _ => ?_)
      obtain ⟨d2, hd2, hc⟩ := hn q.1
      have hi1 := hP.more (by rw [e45]; decide)
      refine x_aload_n dReader_one_82 rfl ?_
      refine x_iload_n dReader_one_83 rfl ?_
      refine x_iconst (v := 1) dReader_one_84 rfl ?_
      refine x_iadd dReader_one_85 ?_
      -- at 86: .invokevirtual 133
      rw [nI_1]
      refine x_callV_1 hc ok_Reader_one ml_Reader_133 dReader_one_86 (ble_of (by omega)) rfl rfl rfl rfl ?_
      refine ⟨T, i + 1, u, rfl, rfl, hP.nx hi1, fun I2 j C k1 k2 => ?_, fun I2 j k1 k2 => ?_⟩
      · refine x_if_eq (tgt := 105) dReader_one_89 (by decide) (fun h => absurd h (by decide)) (fun _ => ?_)
        refine x_aload_n dReader_one_92 rfl ?_
        refine x_bipush (v := 10) dReader_one_93 rfl ?_
        -- at 95: .invokevirtual 146
        refine x_callV_1 c_Reader_did5 ok_Reader_did ml_Reader_146 dReader_one_95 (ble_of (by omega)) rfl rfl rfl rfl ?_
        have k3 : PSok I u I2 j ([] ++ C) := ((PSok.nil hP.2.1 hP.2.2.1).nx (i + 1)).tr k1
        have hj1 := k2.1
        have hj2 := k2.2.1
        refine ⟨u + C.length, 10, rfl, rfl, k1.2.2.1, by omega, ?_⟩
        refine x_if_eq (tgt := 105) dReader_one_98 (by decide) (fun h => absurd h (by decide)) (fun _ => ?_)
        refine x_iconst (v := 1) dReader_one_101 rfl ?_
        refine x_goto (tgt := 106) dReader_one_102 (by decide) ?_
        -- at 106: .ireturn
        refine x_ireturn dReader_one_106 rfl rfl ?_
        exact h1 _ j _ (k3.stp rfl (20000 + 10)) (neg_ok hiT e45 q.1 k2)
      · refine x_if_eq (tgt := 105) dReader_one_89 (by decide) (fun _ => ?_) (fun h => absurd (by decide) h)
        exact no I2 j ⟨(PSf.rfl.nx _).tr k1.1, k1.2⟩ (neg_no hiT e45 q.1 k2)
    · refine x_if_eq (tgt := 105) dReader_one_79 (by decide) (fun _ => ?_) (fun h => absurd (by decide) h)
      exact no I i ⟨PSf.rfl, hP.2.1⟩ (neg_full hiT e45 (fun z => q ⟨z, e45⟩))
  · refine x_icmp_ne (tgt := 107) dReader_one_69 (by decide) (fun _ => ?_) (fun h => absurd h e45)
    have no : ∀ (I' : IM) (j : Nat), PSno I I' j → OneNo T op i j → X mReader_one G (d + 1, 0, 0) S5 I' L 141 [.ref 23, .int (nI op), .int (ts T i)] [] Post := by
      intro I' j k1 k2
      refine x_iconst (v := 0) dReader_one_141 rfl ?_
      -- at 142: .ireturn
      refine x_ireturn dReader_one_142 rfl rfl ?_
      exact h2 I' j k1 k2
    refine x_aload_n dReader_one_107 rfl ?_
    refine x_bipush (v := 40) dReader_one_108 rfl ?_
    refine x_iload_n dReader_one_110 rfl ?_
    -- at 111: .invokevirtual 143
    refine x_callV_2 c_Reader_opens5 ok_Reader_opens ml_Reader_143 dReader_one_111 (ble_of (by omega)) rfl rfl rfl rfl ?_
    refine ⟨T, i, u, op, 40, rfl, rfl, hop, hP, fun q => ?_, fun q => ?_⟩
    · refine x_if_eq (tgt := 141) dReader_one_114 (by decide) (fun h => absurd h (by decide)) (fun _ => ?_)
      obtain ⟨d2, hd2, hc⟩ := hp q.1
      have hi1 := hP.more (by rw [q.2]; decide)
      refine x_aload_n dReader_one_117 rfl ?_
      refine x_iconst (v := 0) dReader_one_118 rfl ?_
      refine x_iload_n dReader_one_119 rfl ?_
      refine x_iconst (v := 1) dReader_one_120 rfl ?_
      refine x_iadd dReader_one_121 ?_
      -- at 122: .invokevirtual 50
      rw [nI_1]
      refine x_callV_2 hc ok_Reader_level ml_Reader_50 dReader_one_122 (ble_of (by omega)) rfl rfl rfl rfl ?_
      refine ⟨T, i + 1, u, rfl, rfl, hP.nx hi1, fun I2 j C k1 k2 => ?_, fun I2 j k1 k2 => ?_⟩
      · refine x_if_eq (tgt := 141) dReader_one_125 (by decide) (fun h => absurd h (by decide)) (fun _ => ?_)
        refine x_aload_n dReader_one_128 rfl ?_
        refine x_bipush (v := 41) dReader_one_129 rfl ?_
        -- at 131: .invokevirtual 46
        have k3 : PSok I u I2 j ([] ++ C) := ((PSok.nil hP.2.1 hP.2.2.1).nx (i + 1)).tr k1
        have hj1 := k2.1
        have hj2 := k2.2.1
        have hPj : PS I2 T j (u + C.length) := PSok.ps (hP.nx hi1) k1 (by omega) hj2
        refine x_callV_1 c_Reader_passes5 ok_Reader_passes ml_Reader_46 dReader_one_131 (ble_of (by omega)) rfl rfl rfl rfl ?_
        refine ⟨T, j, u + C.length, 41, rfl, rfl, hPj, fun g => ?_, fun g => ?_⟩
        · have hj3 := hPj.more (by rw [g]; decide)
          refine x_if_eq (tgt := 141) dReader_one_134 (by decide) (fun h => absurd h (by decide)) (fun _ => ?_)
          refine x_iconst (v := 1) dReader_one_137 rfl ?_
          refine x_goto (tgt := 142) dReader_one_138 (by decide) ?_
          -- at 142: .ireturn
          refine x_ireturn dReader_one_142 rfl rfl ?_
          exact h1 _ (j + 1) _ (k3.nx (j + 1)) (par_ok hiT q.2 q.1 k2 g hj3)
        · refine x_if_eq (tgt := 141) dReader_one_134 (by decide) (fun _ => ?_) (fun h => absurd (by decide) h)
          exact no I2 j ⟨k3.1, k3.2.1⟩ (par_no hiT q.2 q.1 k2 g)
      · refine x_if_eq (tgt := 141) dReader_one_125 (by decide) (fun _ => ?_) (fun h => absurd (by decide) h)
        exact no I2 j ⟨(PSf.rfl.nx _).tr k1.1, k1.2⟩ (par_no2 hiT q.2 q.1 k2)
    · refine x_if_eq (tgt := 141) dReader_one_114 (by decide) (fun _ => ?_) (fun h => absurd (by decide) h)
      by_cases e40 : ts T i = 40
      · exact no I i ⟨PSf.rfl, hP.2.1⟩ (par_full hiT e40 (fun z => q ⟨z, e40⟩))
      · exact no I i ⟨PSf.rfl, hP.2.1⟩ (one_bad hiT e2 e3 e45 e40)
/-- all levels, so many open -/
theorem rec_all5 : ∀ k, k ≤ 5 → Con mReader_one (4 + 8 * k) 0 0 (sp_onen5 (5 - k)) ∧ Con mReader_negation (8 + 8 * k) 0 0 (sp_negn5 (5 - k)) ∧ Con mReader_level (11 + 8 * k) 0 0 (sp_lev5 0 (5 - k)) := by
  intro k
  induction k with
  | zero =>
    intro _
    have h1 : Con mReader_one 4 0 0 (sp_onen5 5) := c_onen5 (d := 3) (by omega) (by omega) (fun h => absurd h (by omega)) (fun h => absurd h (by omega))
    have h5 : Con mReader_level 5 0 0 (sp_lev5 5 5) := c_lev_55 h1
    have h4 : Con mReader_level 6 0 0 (sp_lev5 4 5) := c_lev_bin5 (by decide) (by omega) h5
    have h3 : Con mReader_level 7 0 0 (sp_lev5 3 5) := c_lev_bin5 (by decide) (by omega) h4
    have hn : Con mReader_negation 8 0 0 (sp_negn5 5) := c_negn5 (by omega) (by omega) h3 (fun h => absurd h (by omega))
    have h2 : Con mReader_level 9 0 0 (sp_lev5 2 5) := c_lev_25 hn
    have h1' : Con mReader_level 10 0 0 (sp_lev5 1 5) := c_lev_bin5 (by decide) (by omega) h2
    have h0 : Con mReader_level 11 0 0 (sp_lev5 0 5) := c_lev_bin5 (by decide) (by omega) h1'
    exact ⟨h1, hn, h0⟩
  | succ k ih =>
    intro hk
    obtain ⟨i1, i2, i3⟩ := ih (by omega)
    have e : 5 - k = 5 - (k + 1) + 1 := by omega
    rw [e] at i1 i2 i3
    have hop : 5 - (k + 1) ≤ 5 := by omega
    generalize 5 - (k + 1) = op at i1 i2 i3 hop ⊢
    · have h1 : Con mReader_one (11 + 8 * k + 1) 0 0 (sp_onen5 op) := c_onen5 (d := 11 + 8 * k) hop (by omega) (fun _ => ⟨_, by omega, i1⟩) (fun _ => ⟨_, by omega, i3⟩)
      have h5 : Con mReader_level (11 + 8 * k + 1 + 1) 0 0 (sp_lev5 5 op) := c_lev_55 h1
      have h4 : Con mReader_level (11 + 8 * k + 1 + 1 + 1) 0 0 (sp_lev5 4 op) := c_lev_bin5 (by decide) (by omega) h5
      have h3 : Con mReader_level (11 + 8 * k + 1 + 1 + 1 + 1) 0 0 (sp_lev5 3 op) := c_lev_bin5 (by decide) (by omega) h4
      have hn : Con mReader_negation (11 + 8 * k + 1 + 1 + 1 + 1 + 1) 0 0 (sp_negn5 op) := c_negn5 hop (by omega) h3 (fun _ => ⟨_, by omega, i2⟩)
      have h2 : Con mReader_level (11 + 8 * k + 1 + 1 + 1 + 1 + 1 + 1) 0 0 (sp_lev5 2 op) := c_lev_25 hn
      have h1' : Con mReader_level (11 + 8 * k + 1 + 1 + 1 + 1 + 1 + 1 + 1) 0 0 (sp_lev5 1 op) := c_lev_bin5 (by decide) (by omega) h2
      have h0 : Con mReader_level (11 + 8 * k + 1 + 1 + 1 + 1 + 1 + 1 + 1 + 1) 0 0 (sp_lev5 0 op) := c_lev_bin5 (by decide) (by omega) h1'
      rw [show 4 + 8 * (k + 1) = 11 + 8 * k + 1 by omega, show 8 + 8 * (k + 1) = 11 + 8 * k + 1 + 1 + 1 + 1 + 1 by omega, show 11 + 8 * (k + 1) = 11 + 8 * k + 1 + 1 + 1 + 1 + 1 + 1 + 1 + 1 by omega]
      exact ⟨h1, hn, h0⟩
theorem c_E5 : Con mReader_level 51 0 0 (sp_lev5 0 0) := (rec_all5 5 (by omega)).2.2
def sp_Reader_reads5 : SpT := fun as S I L Post => ∃ z : Nat, as = [.ref 23] ∧ S = S5 ∧ I 23 1 = nI z ∧ z ≤ 160 ∧
  (∀ (a b c : List Int32), pt (tokS (I 24) z 0) = .inr (a, b, c) → ∀ I' : IM, Fr rdScr I I' → I' 23 1 = I 23 1 → (I' 29 0 = nI 0 ∧ I' 29 1 = nI a.length ∧ I' 29 2 = nI (a.length + b.length) ∧ I' 29 3 = nI (a.length + b.length + c.length)) →
    (∀ k, k < a.length + b.length + c.length → enc (I' 28 k) = (a ++ b ++ c).getD k 0) → a.length + b.length + c.length ≤ 160 → wfC a → wfC b → wfC c → Post (some (.int 1)) S5 I' L) ∧
  (∀ p : Nat, pt (tokS (I 24) z 0) = .inl p → ∀ (I' : IM) (j : Nat), Fr rdScr I I' → I' 23 1 = I 23 1 → I' 23 6 = nI j → j < 161 → I' 26 j = nI p → Post (some (.int 0)) S5 I' L)
set_option maxHeartbeats 4000000 in
set_option maxRecDepth 100000 in
theorem c_Reader_reads5 : Con mReader_reads 81 0 0 sp_Reader_reads5 := by
  refine con_of_X rfl fun G as S I L Post hs => ?_
  obtain ⟨z, rfl, rfl, hz, hz2, h1, h2⟩ := hs
  refine ⟨1, Nat.le_of_ble_eq_true rfl, ?_⟩
  show X mReader_reads G _ S5 I L 0 [.ref 23, .null] [] Post
  obtain ⟨hTg, hTl⟩ := tokS_good (I 24) z z 0 (by omega)
  generalize hT : tokS (I 24) z 0 = T at h1 h2 hTg hTl
  refine x_aload_n dReader_reads_0 rfl ?_
  -- at 1: .invokevirtual 43
  refine x_callV_0 c_Reader_cut5 ok_Reader_cut ml_Reader_43 dReader_reads_1 rfl rfl rfl rfl rfl ?_
  refine ⟨z, rfl, rfl, hz, hz2, fun I1 hF1 hs1 hTi => ?_⟩
  rw [hT] at hTi
  refine x_aload_n dReader_reads_4 rfl ?_
  refine x_iconst (v := 0) dReader_reads_5 rfl ?_
  refine x_putI fl_Reader_31 rfl dReader_reads_6 (by decide) rfl rfl rfl rfl ?_
  refine x_aload_n dReader_reads_9 rfl ?_
  refine x_iconst (v := 0) dReader_reads_10 rfl ?_
  refine x_putI fl_Reader_40 rfl dReader_reads_11 (by decide) rfl rfl rfl rfl ?_
  refine x_iconst (v := 0) dReader_reads_14 rfl ?_
  refine x_istoren_1 dReader_reads_15 rfl rfl ?_
  -- at 16: .iload_n 1
  have part : ∀ (p i u : Nat) (I1 : IM), p < 3 → PS I1 T i u →
      (∀ (I2 : IM) (j : Nat) (C : List Int32), PSok (up2 I1 29 p (nI u)) u I2 (j + 1) C → j + 1 < T.length → wfC C → u + C.length ≤ j + 1 → ptE (nI (4 + p)) (T.drop i) = .inr (C, T.drop (j + 1)) → X mReader_reads G (81, 0, 0) S5 I2 L 16 [.ref 23, .int (nI (p + 1))] [] Post) →
      (∀ (I2 : IM) (j : Nat), PSno (up2 I1 29 p (nI u)) I2 j → j < T.length → ptE (nI (4 + p)) (T.drop i) = .inl (tp T j) → Post (some (.int 0)) S5 I2 L) →
      X mReader_reads G (81, 0, 0) S5 I1 L 16 [.ref 23, .int (nI p)] [] Post := by
    intro p i u I1 hp hP k1 k2
    have hiT := hP.2.2.2.2.1
    have hP2 : PS (up2 I1 29 p (nI u)) T i u := by
      obtain ⟨a1, a2, a3, a4, a5, a6, a7⟩ := hP
      refine ⟨?_, by rw [up2_n _ _ _ (by decide)]; exact a2, by rw [up2_n _ _ _ (by decide)]; exact a3, a4, a5, a6, a7⟩
      unfold Tin at a1 ⊢
      rw [up2_n _ _ _ (by decide), up2_n _ _ _ (by decide), up2_n _ _ _ (by decide)]
      exact a1
    have no : ∀ (I2 : IM) (j : Nat), PSno (up2 I1 29 p (nI u)) I2 j → j < T.length → ptE (nI (4 + p)) (T.drop i) = .inl (tp T j) → X mReader_reads G (81, 0, 0) S5 I2 L 59 [.ref 23, .int (nI p)] [] Post := by
      intro I2 j q1 q2 q3
      refine x_iconst (v := 0) dReader_reads_59 rfl ?_
      -- at 60: .ireturn
      refine x_ireturn dReader_reads_60 rfl rfl ?_
      exact k2 I2 j q1 q2 q3
    refine x_iload_n dReader_reads_16 rfl ?_
    refine x_iconst (v := 3) dReader_reads_17 rfl ?_
    -- at 18: .if_icmp .ge 49
    refine x_icmp_ge (tgt := 67) dReader_reads_18 (by decide) (fun h => absurd h (nI_ge (b := 3) hp (by omega))) (fun _ => ?_)
    refine x_aload_n dReader_reads_21 rfl ?_
    refine x_getR fl_Reader_37 rfl dReader_reads_22 rfl rfl rfl ?_
    refine x_iload_n dReader_reads_25 rfl ?_
    refine x_aload_n dReader_reads_26 rfl ?_
    refine x_getI fl_Reader_40 rfl dReader_reads_27 rfl rfl ?_
    -- at 30: .iastore
    rw [hP.2.2.1]
    refine x_iastJ (j := p) dReader_reads_30 rfl rfl (by first | rfl | (simp only [← nI_add, ← pk_mul]; rfl)) (by omega) ?_
    refine x_aload_n dReader_reads_31 rfl ?_
    refine x_iconst (v := 4) dReader_reads_32 rfl ?_
    refine x_iload_n dReader_reads_33 rfl ?_
    refine x_iadd dReader_reads_34 ?_
    -- at 35: .invokevirtual 46
    refine x_eqi (y := nI (4 + p)) (nI_add 4 p) ?_
    refine x_callV_1 c_Reader_passes5 ok_Reader_passes ml_Reader_46 dReader_reads_35 rfl rfl rfl rfl rfl ?_
    refine ⟨T, i, u, _, rfl, rfl, hP2, fun q => ?_, fun q => ?_⟩
    · have hi1 := hP2.more (by rw [q]; exact fun y => absurd ((nI_eq (b := 0) (by omega) (by omega)).mp y) (by omega))
      have e0 := ptE_at (p := 4 + p) hiT
      rw [if_pos q] at e0
      refine x_if_eq (tgt := 59) dReader_reads_38 (by decide) (fun h => absurd h (by decide)) (fun _ => ?_)
      refine x_aload_n dReader_reads_41 rfl ?_
      refine x_iconst (v := 0) dReader_reads_42 rfl ?_
      refine x_iconst (v := 0) dReader_reads_43 rfl ?_
      -- at 44: .invokevirtual 50
      refine x_callV_2 c_E5 ok_Reader_level ml_Reader_50 dReader_reads_44 rfl rfl rfl rfl rfl ?_
      refine ⟨T, i + 1, u, rfl, rfl, hP2.nx hi1, fun I2 j C q1 q2 => ?_, fun I2 j q1 q2 => ?_⟩
      · have hj1 := q2.1
        have hj2 := q2.2.1
        have hui := hP.2.2.2.1
        have hPj : PS I2 T j (u + C.length) := PSok.ps (hP2.nx hi1) q1 (by omega) hj2
        have q3 : PSok (up2 I1 29 p (nI u)) u I2 j ([] ++ C) := ((PSok.nil hP2.2.1 hP2.2.2.1).nx (i + 1)).tr q1
        rw [e_end q2] at e0
        refine x_if_eq (tgt := 59) dReader_reads_47 (by decide) (fun h => absurd h (by decide)) (fun _ => ?_)
        refine x_aload_n dReader_reads_50 rfl ?_
        refine x_bipush (v := 59) dReader_reads_51 rfl ?_
        -- at 53: .invokevirtual 46
        refine x_callV_1 c_Reader_passes5 ok_Reader_passes ml_Reader_46 dReader_reads_53 rfl rfl rfl rfl rfl ?_
        refine ⟨T, j, u + C.length, _, rfl, rfl, hPj, fun g => ?_, fun g => ?_⟩
        · have hj3 := hPj.more (by rw [g]; decide)
          rw [if_pos g] at e0
          refine x_if_ne (tgt := 61) dReader_reads_56 (by decide) (fun _ => ?_) (fun h => absurd h (by decide))
          refine x_iincp_1 dReader_reads_61 rfl rfl ?_
          refine x_goto (tgt := 16) dReader_reads_64 (by decide) ?_
          -- at 16: .iload_n 1
          rw [nI_1]
          exact k1 _ j C (q3.nx (j + 1)) hj3 q2.2.2.2.1 (by omega) e0
        · rw [if_neg g] at e0
          refine x_if_ne (tgt := 61) dReader_reads_56 (by decide) (fun h => absurd (by decide) h) (fun _ => ?_)
          exact no I2 j ⟨q3.1, q3.2.1⟩ hj2 e0
      · refine x_if_eq (tgt := 59) dReader_reads_47 (by decide) (fun _ => ?_) (fun h => absurd (by decide) h)
        have e1 := q2.2.2 [] [] rfl (by decide)
        rw [show decide (0 ≤ 2) = true from rfl] at e1
        rw [e1] at e0
        exact no I2 j ⟨(PSf.rfl.nx _).tr q1.1, q1.2⟩ q2.2.1 e0
    · have e0 := ptE_at (p := 4 + p) hiT
      rw [if_neg q] at e0
      refine x_if_eq (tgt := 59) dReader_reads_38 (by decide) (fun _ => ?_) (fun h => absurd (by decide) h)
      exact no _ i ⟨PSf.rfl, hP2.2.1⟩ hiT e0
  generalize hJ : up2 (up2 I1 23 6 0) 23 9 0 = J
  have hJ25 : ∀ k, k ≠ 23 → J k = I1 k := fun k hk => by rw [← hJ, up2_n _ _ _ hk, up2_n _ _ _ hk]
  have hPJ : PS J T 0 0 := by
    refine ⟨?_, by rw [← hJ, up2_s, up1_n _ _ (by decide), up2_s, up1_s]; rfl, by rw [← hJ, up2_s, up1_s]; rfl, Nat.le_refl _, hTg.1, hTg, by omega⟩
    unfold Tin at hTi ⊢
    rw [hJ25 25 (by decide), hJ25 26 (by decide), hJ25 27 (by decide)]
    exact hTi
  have hFJ : Fr rdScr I J ∧ J 23 1 = I 23 1 := by
    refine ⟨fun k hk => ?_, ?_⟩
    · simp only [List.mem_cons, List.not_mem_nil, or_false, not_or] at hk
      rw [hJ25 k hk.1]
      exact hF1 k (by simp [hk])
    · rw [← hJ, up2_s, up1_n _ _ (by decide), up2_s, up1_n _ _ (by decide)]
      exact hs1 1 (by decide)
  have lift : ∀ (Ia Ib : IM) (p : Nat) (x : Int32), Fr rdScr I Ia → Ia 23 1 = I 23 1 → PSf (up2 Ia 29 p x) Ib → Fr rdScr I Ib ∧ Ib 23 1 = I 23 1 := by
    intro Ia Ib p x f1 f2 f3
    refine ⟨(f1.up (by decide) _ _).tr (f3.1.wk (by decide)), ?_⟩
    rw [f3.2 1 (by decide) (by decide), up2_n _ _ _ (by decide)]
    exact f2
  have bad : ∀ (Ib : IM) (j p : Nat), Fr rdScr I Ib → Ib 23 1 = I 23 1 → Ib 23 6 = nI j → j < T.length → Tin Ib T → pt T = .inl (tp T j) → Post (some (.int 0)) S5 Ib L := by
    intro Ib j p f1 f2 f3 f4 f5 f6
    exact h2 _ f6 Ib j f1 f2 f3 (by omega) (f5 j f4).2.1
  have tin29 : ∀ (Ia : IM) (p : Nat) (x : Int32), Tin Ia T → Tin (up2 Ia 29 p x) T := by
    intro Ia p x f
    unfold Tin at f ⊢
    rw [up2_n _ _ _ (by decide), up2_n _ _ _ (by decide), up2_n _ _ _ (by decide)]
    exact f
  refine part 0 0 0 J (by omega) hPJ (fun I2 j1 a q1 q2 q3 q4 q5 => ?_) (fun I2 j q1 q2 q3 => ?_)
  · obtain ⟨l1, l2⟩ := lift J I2 0 _ hFJ.1 hFJ.2 q1.1
    rw [Nat.zero_add] at q4
    have hP2 : PS I2 T (j1 + 1) a.length := ⟨q1.1.tin (tin29 _ _ _ hPJ.1), q1.2.1, by rw [q1.2.2.1, Nat.zero_add], q4, q2, hTg, by omega⟩
    refine part 1 (j1 + 1) a.length I2 (by omega) hP2 (fun I3 j2 b r1 r2 r3 r4 r5 => ?_) (fun I3 j r1 r2 r3 => ?_)
    · obtain ⟨m1, m2⟩ := lift I2 I3 1 _ l1 l2 r1.1
      have hP3 : PS I3 T (j2 + 1) (a.length + b.length) := ⟨r1.1.tin (tin29 _ _ _ hP2.1), r1.2.1, r1.2.2.1, r4, r2, hTg, by omega⟩
      refine part 2 (j2 + 1) (a.length + b.length) I3 (by omega) hP3 (fun I4 j3 c s1 s2 s3 s4 s5 => ?_) (fun I4 j s1 s2 s3 => ?_)
      · obtain ⟨n1, n2⟩ := lift I3 I4 2 _ m1 m2 s1.1
        have hT4 : Tin I4 T := s1.1.tin (tin29 _ _ _ hP3.1)
        have ept : pt T = if ts T (j3 + 1) = 0 then .inr (a, b, c) else .inl (tp T (j3 + 1)) := by
          unfold pt
          rw [show ptE 4 T = .inr (a, T.drop (j1 + 1)) from q5]
          dsimp only
          rw [show ptE 5 (T.drop (j1 + 1)) = .inr (b, T.drop (j2 + 1)) from r5]
          dsimp only
          rw [show ptE 6 (T.drop (j2 + 1)) = .inr (c, T.drop (j3 + 1)) from s5]
          dsimp only
          rw [drop_tk s2]
          rfl
        refine x_iload_n dReader_reads_16 rfl ?_
        refine x_iconst (v := 3) dReader_reads_17 rfl ?_
        -- at 18: .if_icmp .ge 49
        refine x_icmp_ge (tgt := 67) dReader_reads_18 (by decide) (fun _ => ?_) (fun h => absurd (Int32.le_refl _) h)
        refine x_aload_n dReader_reads_67 rfl ?_
        refine x_getR fl_Reader_37 rfl dReader_reads_68 rfl rfl rfl ?_
        refine x_iconst (v := 3) dReader_reads_71 rfl ?_
        refine x_aload_n dReader_reads_72 rfl ?_
        refine x_getI fl_Reader_40 rfl dReader_reads_73 rfl rfl ?_
        -- at 76: .iastore
        rw [s1.2.2.1]
        refine x_iastJ (j := 3) dReader_reads_76 rfl rfl (by first | rfl | (simp only [← nI_add, ← pk_mul]; rfl)) (by omega) ?_
        refine x_aload_n dReader_reads_77 rfl ?_
        refine x_getR fl_Reader_19 rfl dReader_reads_78 rfl rfl rfl ?_
        refine x_aload_n dReader_reads_81 rfl ?_
        refine x_getI fl_Reader_31 rfl dReader_reads_82 rfl rfl ?_
        -- at 85: .iaload
        simp only [up2_n, up2_s, ne_eq, Nat.reduceEqDiff, not_false_eq_true, s1.2.1]
        refine x_ialdJ (j := j3 + 1) dReader_reads_85 rfl rfl (by first | rfl | (simp only [← nI_add, ← pk_mul]; rfl)) (by omega) ?_
        -- at 86: .ifCond .ne 7
        simp only [up2_n, up2_s, ne_eq, Nat.reduceEqDiff, not_false_eq_true]
        rw [(hT4 (j3 + 1) s2).1]
        have n3 : Fr rdScr I (up2 I4 29 3 (nI (a.length + b.length + c.length))) := n1.up (by decide) _ _
        have n4 : up2 I4 29 3 (nI (a.length + b.length + c.length)) 23 1 = I 23 1 := by rw [up2_n _ _ _ (by decide)]; exact n2
        by_cases e0 : ts T (j3 + 1) = 0
        · rw [if_pos e0] at ept
          refine x_if_ne (tgt := 93) dReader_reads_86 (by decide) (fun h => absurd e0 h) (fun _ => ?_)
          refine x_iconst (v := 1) dReader_reads_89 rfl ?_
          refine x_goto (tgt := 94) dReader_reads_90 (by decide) ?_
          -- at 94: .ireturn
          refine x_ireturn dReader_reads_94 rfl rfl ?_
          refine h1 a b c ept _ n3 n4 ⟨?_, ?_, ?_, by rw [up2_s, up1_s]⟩ (fun k hk => ?_) (by omega) q3 r3 s3
          · rw [up2_s, up1_n _ _ (by decide), s1.1.1 29 (by decide), up2_s, up1_n _ _ (by decide), r1.1.1 29 (by decide), up2_s, up1_n _ _ (by decide), q1.1.1 29 (by decide), up2_s, up1_s]
          · rw [up2_s, up1_n _ _ (by decide), s1.1.1 29 (by decide), up2_s, up1_n _ _ (by decide), r1.1.1 29 (by decide), up2_s, up1_s]
          · rw [up2_s, up1_n _ _ (by decide), s1.1.1 29 (by decide), up2_s, up1_s]
          · rw [up2_n _ _ _ (by decide)]
            by_cases z1 : k < a.length
            · rw [s1.2.2.2.1 k (by omega), up2_n _ _ _ (by decide), r1.2.2.2.1 k z1, up2_n _ _ _ (by decide)]
              have := q1.2.2.2.2 k z1
              rw [Nat.zero_add] at this
              rw [this]
              simp [List.getD_eq_getElem?_getD, List.getElem?_append_left z1]
            · by_cases z2 : k < a.length + b.length
              · rw [s1.2.2.2.1 k z2, up2_n _ _ _ (by decide)]
                have := r1.2.2.2.2 (k - a.length) (by omega)
                rw [show a.length + (k - a.length) = k by omega] at this
                rw [this]
                simp [List.getD_eq_getElem?_getD, List.getElem?_append_right (show a.length ≤ k by omega), List.getElem?_append_left (show k - a.length < b.length by omega)]
              · have := s1.2.2.2.2 (k - (a.length + b.length)) (by omega)
                rw [show a.length + b.length + (k - (a.length + b.length)) = k by omega] at this
                rw [this]
                simp [List.getD_eq_getElem?_getD, List.getElem?_append_right (show a.length ≤ k by omega), List.getElem?_append_right (show b.length ≤ k - a.length by omega), Nat.sub_add_eq]
        · rw [if_neg e0] at ept
          refine x_if_ne (tgt := 93) dReader_reads_86 (by decide) (fun _ => ?_) (fun h => absurd h e0)
          refine x_iconst (v := 0) dReader_reads_93 rfl ?_
          -- at 94: .ireturn
          refine x_ireturn dReader_reads_94 rfl rfl ?_
          exact bad _ (j3 + 1) 0 n3 n4 (by rw [up2_n _ _ _ (by decide)]; exact s1.2.1) s2 (tin29 _ _ _ hT4) ept
      · obtain ⟨n1, n2⟩ := lift I3 I4 2 _ m1 m2 s1.1
        refine bad I4 j 0 n1 n2 s1.2 s2 (s1.1.tin (tin29 _ _ _ hP3.1)) ?_
        unfold pt
        rw [show ptE 4 T = .inr (a, T.drop (j1 + 1)) from q5]
        dsimp only
        rw [show ptE 5 (T.drop (j1 + 1)) = .inr (b, T.drop (j2 + 1)) from r5]
        dsimp only
        rw [show ptE 6 (T.drop (j2 + 1)) = .inl (tp T j) from s3]
    · obtain ⟨n1, n2⟩ := lift I2 I3 1 _ l1 l2 r1.1
      refine bad I3 j 0 n1 n2 r1.2 r2 (r1.1.tin (tin29 _ _ _ hP2.1)) ?_
      unfold pt
      rw [show ptE 4 T = .inr (a, T.drop (j1 + 1)) from q5]
      dsimp only
      rw [show ptE 5 (T.drop (j1 + 1)) = .inl (tp T j) from r3]
  · obtain ⟨n1, n2⟩ := lift J I2 0 _ hFJ.1 hFJ.2 q1.1
    refine bad I2 j 0 n1 n2 q1.2 q2 (q1.1.tin (tin29 _ _ _ hPJ.1)) ?_
    unfold pt
    rw [show ptE 4 T = .inl (tp T j) from q3]
def sp_Reader_put5 : SpT := fun as S I L Post => ∃ (z : Nat) (b : Int32), as = [.ref 23, .int b] ∧ S = S5 ∧ I 23 1 = nI z ∧ z < 160 ∧ Post none S5 (up2 (up2 I 24 z b) 23 1 (nI (z + 1))) L
set_option maxHeartbeats 4000000 in
set_option maxRecDepth 100000 in
theorem c_Reader_put5 : Con mReader_put 2 0 0 sp_Reader_put5 := by
  refine con_of_X rfl fun G as S I L Post hs => ?_
  obtain ⟨z, b, rfl, rfl, hz, h160, h1⟩ := hs
  refine ⟨0, Nat.le_of_ble_eq_true rfl, ?_⟩
  show X mReader_put G _ S5 I L 0 [.ref 23, .int b] [] Post
  refine x_aload_n dReader_put_0 rfl ?_
  refine x_getI fl_Reader_15 rfl dReader_put_1 rfl rfl ?_
  refine x_sipush (v := 160) dReader_put_4 rfl ?_
  -- at 7: .if_icmp .ge 23
  rw [hz]
  refine x_icmp_ge (tgt := 30) dReader_put_7 (by decide) (fun h => absurd h (nI_ge (b := 160) h160 (by omega))) (fun _ => ?_)
  refine x_aload_n dReader_put_10 rfl ?_
  refine x_getR fl_Reader_9 rfl dReader_put_11 rfl rfl rfl ?_
  refine x_aload_n dReader_put_14 rfl ?_
  refine x_getI fl_Reader_15 rfl dReader_put_15 rfl rfl ?_
  -- at 18: .iload_n 1
  rw [hz]
  refine x_iload_n dReader_put_18 rfl ?_
  refine x_iastJ (j := z) dReader_put_19 rfl rfl (by first | rfl | (simp only [← nI_add, ← pk_mul]; rfl)) (by omega) ?_
  refine x_aload_n dReader_put_20 rfl ?_
  refine x_dup dReader_put_21 rfl ?_
  refine x_getI fl_Reader_15 rfl dReader_put_22 rfl rfl ?_
  -- at 25: .iconst 1
  simp only [up2_n, up2_s, ne_eq, Nat.reduceEqDiff, not_false_eq_true, hz]
  refine x_iconst (v := 1) dReader_put_25 rfl ?_
  refine x_iadd dReader_put_26 ?_
  -- at 27: .putfield 15
  rw [nI_1]
  refine x_putI fl_Reader_15 rfl dReader_put_27 (by decide) rfl rfl rfl rfl ?_
  -- at 30: .return_
  refine x_return dReader_put_30 rfl ?_
  exact h1
def sp_Reader_clear5 : SpT := fun as S I L Post => as = [.ref 23] ∧ S = S5 ∧ Post none S5 (up2 I 23 1 0) L
set_option maxHeartbeats 4000000 in
set_option maxRecDepth 100000 in
theorem c_Reader_clear5 : Con mReader_clear 2 0 0 sp_Reader_clear5 := by
  refine con_of_X rfl fun G as S I L Post hs => ?_
  obtain ⟨rfl, rfl, h1⟩ := hs
  refine ⟨0, Nat.le_of_ble_eq_true rfl, ?_⟩
  show X mReader_clear G _ S5 I L 0 [.ref 23] [] Post
  refine x_aload_n dReader_clear_0 rfl ?_
  refine x_iconst (v := 0) dReader_clear_1 rfl ?_
  refine x_putI fl_Reader_15 rfl dReader_clear_2 (by decide) rfl rfl rfl rfl ?_
  -- at 5: .return_
  refine x_return dReader_clear_5 rfl ?_
  exact h1
def sp_Texts_add5 : SpT := fun as S I L Post => ∃ t : Nat, as = [.ref 30, .ref 23] ∧ S = S5 ∧ I 30 2 = nI t ∧ t < 6 ∧ Post (some (.int (nI t))) S5 (taU I t) L
set_option maxHeartbeats 4000000 in
set_option maxRecDepth 100000 in
theorem c_Texts_add5 : Con mTexts_add 2 0 0 sp_Texts_add5 := by
  refine con_of_X rfl fun G as S I L Post hs => ?_
  obtain ⟨t, rfl, rfl, ht, h6, h1⟩ := hs
  have nn : ∀ k, k < 1000 → ¬ nI k < (0 : Int32) := fun k hk => Int32.not_lt.mpr (nI_le (a := 0) (by omega) (by omega))
  have c160 : (nI (t * 160)).toNatClampNeg = t * 160 := nI_clamp (by omega)
  have c4 : (nI (t * 4)).toNatClampNeg = t * 4 := nI_clamp (by omega)
  refine ⟨1, Nat.le_of_ble_eq_true rfl, ?_⟩
  show X mTexts_add G _ S5 I L 0 [.ref 30, .ref 23, .null] [] Post
  refine x_aload_n dTexts_add_0 rfl ?_
  refine x_getI fl_Texts_18 rfl dTexts_add_1 rfl rfl ?_
  -- at 4: .istore_n 2
  rw [ht]
  refine x_istoren_2 dTexts_add_4 rfl rfl ?_
  refine x_aload_n dTexts_add_5 rfl ?_
  refine x_getR fl_Texts_31 rfl dTexts_add_6 rfl rfl rfl ?_
  refine x_iconst (v := 0) dTexts_add_9 rfl ?_
  refine x_aload_n dTexts_add_10 rfl ?_
  refine x_getR fl_Texts_9 rfl dTexts_add_11 rfl rfl rfl ?_
  refine x_iload_n dTexts_add_14 rfl ?_
  refine x_sipush (v := 160) dTexts_add_15 rfl ?_
  refine x_imul dTexts_add_18 ?_
  -- at 19: .sipush 160
  rw [show nI t * 160 = nI (t * 160) from pk_mul t 160]
  refine x_sipush (v := 160) dTexts_add_19 rfl ?_
  -- at 22: .invokestatic 34
  refine x_acopy dTexts_add_22 ml_Texts_34 na_ac st_ac it_System rfl rfl rfl rfl rfl rfl (by decide) (nn _ (by omega)) (by decide) (by decide) (by rw [c160]; show t * 160 + 160 ≤ 960; omega) ?_
  refine x_aload_n dTexts_add_25 rfl ?_
  refine x_getR fl_Texts_40 rfl dTexts_add_26 rfl rfl rfl ?_
  refine x_iconst (v := 0) dTexts_add_29 rfl ?_
  refine x_aload_n dTexts_add_30 rfl ?_
  refine x_getR fl_Texts_15 rfl dTexts_add_31 rfl rfl rfl ?_
  refine x_iload_n dTexts_add_34 rfl ?_
  refine x_iconst (v := 4) dTexts_add_35 rfl ?_
  refine x_imul dTexts_add_36 ?_
  -- at 37: .iconst 4
  rw [show nI t * 4 = nI (t * 4) from pk_mul t 4]
  refine x_iconst (v := 4) dTexts_add_37 rfl ?_
  -- at 38: .invokestatic 34
  refine x_acopy dTexts_add_38 ml_Texts_34 na_ac st_ac it_System rfl rfl rfl rfl rfl rfl (by decide) (nn _ (by omega)) (by decide) (by decide) (by rw [c4]; show t * 4 + 4 ≤ 24; omega) ?_
  simp only [up2_n, up2_s, ne_eq, Nat.reduceEqDiff, not_false_eq_true, upr_n, c160, c4]
  refine x_aload_n dTexts_add_41 rfl ?_
  refine x_iload_n dTexts_add_42 rfl ?_
  refine x_iconst (v := 1) dTexts_add_43 rfl ?_
  refine x_iadd dTexts_add_44 ?_
  refine x_putI fl_Texts_18 rfl dTexts_add_45 (by decide) rfl rfl rfl rfl ?_
  refine x_iload_n dTexts_add_48 rfl ?_
  -- at 49: .ireturn
  refine x_ireturn dTexts_add_49 rfl rfl ?_
  exact h1
end
section
-- 84.ct
/-! the shape while objects are being made: of an open object (its cell, f, e) the references below f, and from 6 to e, stand -/
def SPr (op : List (Nat × Nat × Nat)) (k j : Nat) : Nat := match op with
  | [] => rr S1 k j
  | (a, f, e) :: t => if k = a then (if j < f ∨ (5 < j ∧ j < e) then rr S1 k j else 0) else SPr t k j
def SP (n : Nat) (op : List (Nat × Nat × Nat)) : Shp := (n, kd S1, SPr op)
theorem SPr_s (t : List (Nat × Nat × Nat)) (a f e j : Nat) : SPr ((a, f, e) :: t) a j = if j < f ∨ (5 < j ∧ j < e) then rr S1 a j else 0 := by
  rw [SPr, if_pos rfl]
theorem SPr_n (t : List (Nat × Nat × Nat)) {a k : Nat} (f e j : Nat) (h : ¬ k = a) : SPr ((a, f, e) :: t) k j = SPr t k j := by
  rw [SPr, if_neg h]
theorem rr_big {k b : Nat} (h : 62 ≤ b) : rr S1 k b = 0 := by
  show (rrL.getD k []).getD b 0 = 0
  have h1 : ∀ r ∈ rrL, r.length ≤ 62 := by decide
  have h2 : (rrL.getD k []).length ≤ 62 := by
    rw [List.getD_eq_getElem?_getD]
    by_cases hk : k < rrL.length
    · rw [List.getElem?_eq_getElem hk]
      exact h1 _ (List.getElem_mem hk)
    · rw [List.getElem?_eq_none (by omega)]
      exact Nat.zero_le _
  rw [List.getD_eq_getElem?_getD, List.getElem?_eq_none (by omega)]
  rfl
theorem SP_close {n k f e : Nat} {op : List (Nat × Nat × Nat)} (h : ∀ b, b < 62 → ¬ (b < f ∨ (5 < b ∧ b < e)) → rr S1 k b = 0) (h2 : ∀ b, SPr op k b = rr S1 k b) : SP n ((k, f, e) :: op) = SP n op := by
  have h3 : SPr ((k, f, e) :: op) = SPr op := by
    funext a b
    by_cases ha : a = k
    · subst ha
      rw [SPr_s, h2 b]
      by_cases c : b < f ∨ (5 < b ∧ b < e)
      · rw [if_pos c]
      · rw [if_neg c]
        by_cases d : b < 62
        · exact (h b d c).symm
        · exact (rr_big (by omega)).symm
    · exact SPr_n op f e b ha
  show ((n, kd S1, SPr ((k, f, e) :: op)) : Shp) = (n, kd S1, SPr op)
  rw [h3]
section MAKE
variable {M : MI} {G : WG} {I : IM} {L : LM} {pc : Nat} {loc rest : List Value} {Post : PostT} {d rc rs : Nat} {op : List (Nat × Nat × Nat)}
theorem x_newSP {n N : Nat} {i : Int32} (hd : decode (mcc M) pc = .ok (.newarray .int, 2)) (hi : i = Int32.ofNat N) (hk : kd S1 n = N + 100) (hN : Nat.ble N 100000 = true) (hn : Nat.ble (n + 2) 1000000 = true)
    (kk : X M G (d, rc, rs) (SP (n + 1) op) (upr I n (fun _ => 0)) L (pc + 2) loc (.ref n :: rest) Post) : X M G (d, rc + 1, rs + N) (SP n op) I L pc loc (.int i :: rest) Post := by
  have e1 : up1 (kd S1) n (N + 100) = kd S1 := by
    funext q
    unfold up1
    by_cases h : q = n
    · rw [if_pos h, h, hk]
    · rw [if_neg h]
  have hn' := Nat.le_of_ble_eq_true hn
  refine x_newarr (n := n) (kf := kd S1) (rf := SPr op) hd hi (Nat.le_of_ble_eq_true hN) (by omega) ?_
  rw [e1]
  exact kk
theorem x_putSP {k f e j ci idx a n : Nat} (hf : FLink (my M).cls idx ci j) (ht : ft ci j = 2) (hd : decode (mcc M) pc = .ok (.putfield idx, 3)) (hfi : FinOk M ci j = true) (hk : kd S1 k = ci) (hn : Nat.ble (k + 1) n = true) (hr : rr S1 k j = a + 1) (hg : ∀ q, q < j → ¬ (q < f ∨ (5 < q ∧ q < e)) → rr S1 k q = 0) (hfj : f ≤ j)
    (hnr : ∀ b, narrow (tyF ci j) (.ref b) = .ref b) (hft : ∀ b, fits (tyF ci j) (.ref b) = true)
    (kk : X M G (d, rc, rs) (SP n ((k, j + 1, e) :: op)) I L (pc + 3) loc rest Post) : X M G (d, rc, rs) (SP n ((k, f, e) :: op)) I L pc loc (.ref a :: .ref k :: rest) Post := by
  refine x_putR (n := n) (kf := kd S1) (rf := SPr ((k, f, e) :: op)) (a := a) hf ht hd hfi hk hn hnr hft ?_
  have e2 : up2 (SPr ((k, f, e) :: op)) k j (a + 1) = SPr ((k, j + 1, e) :: op) := by
    funext x b
    by_cases ha : x = k
    · subst ha
      rw [up2_s, SPr_s]
      unfold up1
      by_cases hb : b = j
      · rw [if_pos hb, if_pos (by omega), hb, hr]
      · rw [if_neg hb, SPr_s]
        by_cases c : b < f ∨ (5 < b ∧ b < e)
        · rw [if_pos c, if_pos (by omega)]
        · rw [if_neg c]
          by_cases c2 : b < j
          · rw [if_pos (by omega), hg b c2 c]
          · rw [if_neg (by omega)]
    · rw [up2_n _ _ _ ha, SPr_n _ _ _ _ ha]
      exact (SPr_n _ _ _ _ ha).symm
  rw [e2]
  exact kk
theorem x_putSQ {k f e j ci idx a n : Nat} (hf : FLink (my M).cls idx ci j) (ht : ft ci j = 2) (hd : decode (mcc M) pc = .ok (.putfield idx, 3)) (hfi : FinOk M ci j = true) (hk : kd S1 k = ci) (hn : Nat.ble (k + 1) n = true) (hr : rr S1 k j = a + 1) (hf0 : f = 0) (h6 : (e = j ∨ (e = 0 ∧ j = 6)) ∧ 5 < j)
    (hnr : ∀ b, narrow (tyF ci j) (.ref b) = .ref b) (hft : ∀ b, fits (tyF ci j) (.ref b) = true)
    (kk : X M G (d, rc, rs) (SP n ((k, f, j + 1) :: op)) I L (pc + 3) loc rest Post) : X M G (d, rc, rs) (SP n ((k, f, e) :: op)) I L pc loc (.ref a :: .ref k :: rest) Post := by
  refine x_putR (n := n) (kf := kd S1) (rf := SPr ((k, f, e) :: op)) (a := a) hf ht hd hfi hk hn hnr hft ?_
  have e2 : up2 (SPr ((k, f, e) :: op)) k j (a + 1) = SPr ((k, f, j + 1) :: op) := by
    funext x b
    by_cases ha : x = k
    · subst ha
      rw [up2_s, SPr_s]
      unfold up1
      by_cases hb : b = j
      · rw [if_pos hb, if_pos (by omega), hb, hr]
      · rw [if_neg hb, SPr_s]
        by_cases c : b < f ∨ (5 < b ∧ b < e)
        · rw [if_pos c, if_pos (by omega)]
        · rw [if_neg c, if_neg (by omega)]
    · rw [up2_n _ _ _ ha, SPr_n _ _ _ _ ha]
      exact (SPr_n _ _ _ _ ha).symm
  rw [e2]
  exact kk
theorem x_newOb {ci n idx nq : Nat} {q : vw_C} (hd : decode (mcc M) pc = .ok (.new idx, 3)) (hq : vwCl[ci]? = some q) (hw1 : Cond.classLink (my M).cls idx q.1 ∈ lwT) (hw2 : Cond.instantiable q.1 q.2.2 ∈ lwT) (hw3 : Cond.initialized q.1 ∈ lwT) (hnq : q.2.2 = nq) (hk : kd S1 n = ci) (hn : Nat.ble (n + 2) 1000000 = true)
    (kk : X M G (d, rc, rs) (SP (n + 1) ((n, 0, 0) :: op)) (upr I n (fun _ => 0)) (upr L n (fun _ => 0)) (pc + 3) loc (.ref n :: rest) Post) : X M G (d, rc + 1, rs + nq) (SP n op) I L pc loc rest Post := by
  subst hnq
  have hn' := Nat.le_of_ble_eq_true hn
  have e1 : up1 (kd S1) n ci = kd S1 := by
    funext q
    unfold up1
    by_cases h : q = n
    · rw [if_pos h, h, hk]
    · rw [if_neg h]
  have e2 : upr (SPr op) n (fun _ => 0) = SPr ((n, 0, 0) :: op) := by
    funext x b
    by_cases ha : x = n
    · subst ha
      rw [upr_s, SPr_s, if_neg (by omega)]
    · rw [upr_n _ _ ha, SPr_n _ _ _ _ ha]
  refine x_new (n := n) (kf := kd S1) (rf := SPr op) hd hq hw1 hw2 hw3 (by omega) ?_
  rw [e1, e2]
  exact kk
end MAKE
/-! rows behind the constructors of the class's own objects -/
def fL (l : List Int32) : Nat → Int32 := fun j => l.getD j 0
def m4L : List Int32 := [-1, -1, -1, -1]
theorem fL_t {l : List Int32} {I : IM} {n i : Nat} {v : Int32} (h : l[i]? = some v) : up2 (upr I n (fL (l.take i))) n i v = upr I n (fL (l.take (i + 1))) := by
  funext x
  by_cases hx : x = n
  · subst hx
    rw [up2_s, upr_s, upr_s]
    funext j
    have hi : i < l.length := (List.getElem?_eq_some_iff.mp h).1
    unfold fL
    by_cases hj : j = i
    · subst hj
      rw [up1_s, List.getD_eq_getElem?_getD, List.getElem?_take_of_lt (by omega), h]
      rfl
    · rw [up1_n _ _ hj, List.getD_eq_getElem?_getD, List.getD_eq_getElem?_getD]
      by_cases h2 : j < i
      · rw [List.getElem?_take_of_lt h2, List.getElem?_take_of_lt (by omega)]
      · rw [List.getElem?_eq_none (by rw [List.length_take]; omega), List.getElem?_eq_none (by rw [List.length_take]; omega)]
  · rw [up2_n _ _ _ hx, upr_n _ _ hx, upr_n _ _ hx]
def m8L : List Int32 := [-1, -1, -1, -1, -1, -1, -1, -1]
def lawL : List Int32 := [104, 101, 97, 114, 100, 32, 52, 48, 32, 43, 32, 108, 111, 117, 100, 32, 42, 32, 49, 50, 32, 45, 32, 102, 97, 114, 32, 42, 32, 49, 53, 32, 43, 32, 101, 97, 114, 32, 42, 32, 51, 32, 59, 32, 115, 104, 97, 114, 101, 32, 110, 101, 101, 100, 32, 59, 32, 112, 97, 105, 110, 32, 110, 101, 101, 100, 32, 42, 32, 98, 97, 115, 101, 32, 59]
def rowI (k : Nat) : Nat → Int32 :=
  if k = 1 ∨ k = 46 then (fun j => if j = 2 then 2 else 0) else if k = 2 ∨ k = 47 then fa0 else if k = 56 ∨ k = 88 then fL (m4L.take 4) else
  if k = 69 then fL (m8L.take 8) else if k = 91 then fL (lawL.take 75) else if k = 92 then fL (wordsL.take 96) else fun _ => 0
def Fill (k n : Nat) (I I' : IM) : Prop := (∀ i, i < k ∨ n ≤ i → I' i = I i) ∧ ∀ i, k ≤ i → i < n → I' i = rowI i
theorem Fill.start {k : Nat} {I : IM} (h : I k = rowI k) : Fill k (k + 1) I I :=
  ⟨fun _ _ => rfl, fun i h1 h2 => by obtain rfl : i = k := by omega
                                     exact h⟩
theorem Fill.nil {k : Nat} {I : IM} : Fill k k I I := ⟨fun _ _ => rfl, fun i h1 h2 => by omega⟩
theorem Fill.lo {k n : Nat} {I I' : IM} (h : Fill k n I I') {q j : Nat} {x : Int32} (hq : q < k) : Fill k n (up2 I q j x) (up2 I' q j x) := by
  have e : I' q = I q := h.1 q (Or.inl hq)
  refine ⟨fun i hi => ?_, fun i h1 h2 => ?_⟩
  · by_cases c : i = q
    · subst c
      rw [up2_s, up2_s, e]
    · rw [up2_n _ _ _ c, up2_n _ _ _ c]
      exact h.1 i hi
  · rw [up2_n _ _ _ (by omega)]
    exact h.2 i h1 h2
theorem Fill.pushf {k n : Nat} {I I' : IM} {f : Nat → Int32} (h : Fill k n I I') (hk : k ≤ n) (hf : f = rowI n) : Fill k (n + 1) I (upr I' n f) := by
  refine ⟨fun i hi => ?_, fun i h1 h2 => ?_⟩
  · rw [upr_n _ _ (by omega)]
    exact h.1 i (by omega)
  · by_cases e : i = n
    · subst e
      rw [upr_s, hf]
    · rw [upr_n _ _ e]
      exact h.2 i h1 (by omega)
theorem Fill.app {k m n : Nat} {I I' I'' : IM} (h : Fill k m I I') (h2 : Fill m n (upr I' m (fun _ => 0)) I'') (hk : k ≤ m) (hn : m < n) : Fill k n I I'' := by
  refine ⟨fun i hi => ?_, fun i h3 h4 => ?_⟩
  · rw [h2.1 i (by omega), upr_n _ _ (by omega)]
    exact h.1 i (by omega)
  · by_cases e : i < m
    · rw [h2.1 i (Or.inl e), upr_n _ _ (by omega)]
      exact h.2 i h3 e
    · exact h2.2 i (by omega) h4
theorem Fill.at {k n : Nat} {I I' : IM} (h : Fill k n I I') {i j : Nat} {x : Int32} (h1 : Nat.ble k i = true) (h2 : Nat.ble (i + 1) n = true) (hx : rowI i j = x) : I' i j = x := by
  rw [h.2 i (Nat.le_of_ble_eq_true h1) (Nat.le_of_ble_eq_true h2)]
  exact hx
theorem up2_id {I : IM} {k j : Nat} {x : Int32} (h : I k j = x) : up2 I k j x = I := by
  funext i
  by_cases hi : i = k
  · subst hi
    rw [up2_s]
    funext q
    by_cases hq : q = j
    · subst hq; rw [up1_s, h]
    · rw [up1_n _ _ hq]
  · rw [up2_n _ _ _ hi]
/-- a constructor of the class's own objects: cell k, to the cell n -/
def spC (k n : Nat) (args : List Value) (op : List (Nat × Nat × Nat)) : SpT := fun as S I L Post => as = .ref k :: args ∧ S = SP (k + 1) ((k, 0, 0) :: op) ∧ I k = (fun _ => 0) ∧ ∀ (I' : IM) (L' : LM), Fill k n I I' → Post none (SP n op) I' L'
theorem SPr_nil : SPr [] = rr S1 := by
  funext a b
  rfl
theorem SP_59 : SP 59 [] = S5 := by
  show ((59, kd S1, SPr []) : Shp) = (59, kd S1, rr S1)
  rw [SPr_nil]
theorem SP_100 : SP 100 [] = S1 := by
  show ((100, kd S1, SPr []) : Shp) = (100, kd S1, rr S1)
  rw [SPr_nil]
end
section
-- 85.ck
/-! the constructors of the class's own objects -/
/-- a row of how far, filled as far as m -/
def tw (m : Nat) : Nat → Int32 := fun j => if j < m then fa0 j else 0
theorem tw_0 : tw 0 = fun _ => 0 := by
  funext j
  unfold tw
  rw [if_neg (by omega)]
theorem tw_36 : tw (6 * 6) = fa0 := by
  funext j
  unfold tw
  by_cases h : j < 36
  · rw [if_pos (by omega)]
  · rw [if_neg (by omega), fa0, if_neg h]
theorem tw_s {J : IM} {k m : Nat} : up2 (upr J k (tw m)) k m (fa0 m) = upr J k (tw (m + 1)) := by
  funext i
  by_cases h : i = k
  · subst h
    rw [up2_s, upr_s, upr_s]
    funext j
    unfold tw
    by_cases hj : j = m
    · subst hj; rw [up1_s, if_pos (by omega)]
    · rw [up1_n _ _ hj]
      by_cases h2 : j < m
      · rw [if_pos h2, if_pos (by omega)]
      · rw [if_neg h2, if_neg (by omega)]
  · rw [up2_n _ _ _ h, upr_n _ _ h, upr_n _ _ h]
theorem tw_v (u v : Nat) (hu : u < 6) (hv : v < 6) : (if 0 ≤ nI u - nI v then nI u - nI v else 0 - (nI u - nI v)) = fa0 (u * 6 + v) :=
  (show ∀ u, u < 6 → ∀ v, v < 6 → (if 0 ≤ nI u - nI v then nI u - nI v else 0 - (nI u - nI v)) = fa0 (u * 6 + v) by decide +kernel) u hu v hv
set_option maxHeartbeats 4000000 in
set_option maxRecDepth 100000 in
theorem c_Folk_init : Con mFolk_init 2 8 64 (spC 4 13 [] [(0, 1, 0)]) := by
  refine con_of_X rfl fun G as S I L Post hs => ?_
  obtain ⟨rfl, rfl, hz, h1⟩ := hs
  refine ⟨0, Nat.le_of_ble_eq_true rfl, ?_⟩
  show X mFolk_init G _ (SP 5 ((4, 0, 0) :: [(0, 1, 0)])) I L 0 [.ref 4] [] Post
  have hF : Fill 4 5 I I := Fill.start hz
  refine x_aload_n dFolk_init_0 rfl ?_
  refine x_objInit dFolk_init_1 ml_Folk_3 im_obj co_obj rfl rfl ?_
  refine x_aload_n dFolk_init_4 rfl ?_
  refine x_bipush (v := 8) dFolk_init_5 rfl ?_
  refine x_newSP (N := 8) (n := 5) dFolk_init_7 rfl rfl rfl rfl ?_
  replace hF := hF.pushf (n := 5) (f := fun _ => 0) (by decide) rfl
  generalize upr _ 5 (fun _ => (0 : Int32)) = J at hF ⊢
  refine x_putSP (j := 0) fl_Folk_9 rfl dFolk_init_9 (by decide) rfl rfl rfl (by decide) (by decide) (fun _ => rfl) (fun _ => rfl) ?_
  refine x_aload_n dFolk_init_12 rfl ?_
  refine x_bipush (v := 8) dFolk_init_13 rfl ?_
  refine x_newSP (N := 8) (n := 6) dFolk_init_15 rfl rfl rfl rfl ?_
  replace hF := hF.pushf (n := 6) (f := fun _ => 0) (by decide) rfl
  generalize upr _ 6 (fun _ => (0 : Int32)) = J at hF ⊢
  refine x_putSP (j := 1) fl_Folk_15 rfl dFolk_init_17 (by decide) rfl rfl rfl (by decide) (by decide) (fun _ => rfl) (fun _ => rfl) ?_
  refine x_aload_n dFolk_init_20 rfl ?_
  refine x_bipush (v := 8) dFolk_init_21 rfl ?_
  refine x_newSP (N := 8) (n := 7) dFolk_init_23 rfl rfl rfl rfl ?_
  replace hF := hF.pushf (n := 7) (f := fun _ => 0) (by decide) rfl
  generalize upr _ 7 (fun _ => (0 : Int32)) = J at hF ⊢
  refine x_putSP (j := 2) fl_Folk_18 rfl dFolk_init_25 (by decide) rfl rfl rfl (by decide) (by decide) (fun _ => rfl) (fun _ => rfl) ?_
  refine x_aload_n dFolk_init_28 rfl ?_
  refine x_bipush (v := 8) dFolk_init_29 rfl ?_
  refine x_newSP (N := 8) (n := 8) dFolk_init_31 rfl rfl rfl rfl ?_
  replace hF := hF.pushf (n := 8) (f := fun _ => 0) (by decide) rfl
  generalize upr _ 8 (fun _ => (0 : Int32)) = J at hF ⊢
  refine x_putSP (j := 3) fl_Folk_21 rfl dFolk_init_33 (by decide) rfl rfl rfl (by decide) (by decide) (fun _ => rfl) (fun _ => rfl) ?_
  refine x_aload_n dFolk_init_36 rfl ?_
  refine x_bipush (v := 8) dFolk_init_37 rfl ?_
  refine x_newSP (N := 8) (n := 9) dFolk_init_39 rfl rfl rfl rfl ?_
  replace hF := hF.pushf (n := 9) (f := fun _ => 0) (by decide) rfl
  generalize upr _ 9 (fun _ => (0 : Int32)) = J at hF ⊢
  refine x_putSP (j := 4) fl_Folk_24 rfl dFolk_init_41 (by decide) rfl rfl rfl (by decide) (by decide) (fun _ => rfl) (fun _ => rfl) ?_
  refine x_aload_n dFolk_init_44 rfl ?_
  refine x_bipush (v := 8) dFolk_init_45 rfl ?_
  refine x_newSP (N := 8) (n := 10) dFolk_init_47 rfl rfl rfl rfl ?_
  replace hF := hF.pushf (n := 10) (f := fun _ => 0) (by decide) rfl
  generalize upr _ 10 (fun _ => (0 : Int32)) = J at hF ⊢
  refine x_putSP (j := 5) fl_Folk_27 rfl dFolk_init_49 (by decide) rfl rfl rfl (by decide) (by decide) (fun _ => rfl) (fun _ => rfl) ?_
  refine x_aload_n dFolk_init_52 rfl ?_
  refine x_bipush (v := 8) dFolk_init_53 rfl ?_
  refine x_newSP (N := 8) (n := 11) dFolk_init_55 rfl rfl rfl rfl ?_
  replace hF := hF.pushf (n := 11) (f := fun _ => 0) (by decide) rfl
  generalize upr _ 11 (fun _ => (0 : Int32)) = J at hF ⊢
  refine x_putSP (j := 6) fl_Folk_30 rfl dFolk_init_57 (by decide) rfl rfl rfl (by decide) (by decide) (fun _ => rfl) (fun _ => rfl) ?_
  refine x_aload_n dFolk_init_60 rfl ?_
  refine x_bipush (v := 8) dFolk_init_61 rfl ?_
  refine x_newSP (N := 8) (n := 12) dFolk_init_63 rfl rfl rfl rfl ?_
  replace hF := hF.pushf (n := 12) (f := fun _ => 0) (by decide) rfl
  generalize upr _ 12 (fun _ => (0 : Int32)) = J at hF ⊢
  refine x_putSP (j := 7) fl_Folk_33 rfl dFolk_init_65 (by decide) rfl rfl rfl (by decide) (by decide) (fun _ => rfl) (fun _ => rfl) ?_
  refine x_aload_n dFolk_init_68 rfl ?_
  refine x_iconst (v := 0) dFolk_init_69 rfl ?_
  refine x_putI fl_Folk_36 rfl dFolk_init_70 (by decide) rfl rfl rfl rfl ?_
  rw [up2_id (hF.at (i := 4) (j := 8) (x := 0) rfl rfl rfl)]
  refine x_return dFolk_init_73 rfl ?_
  have hp := h1 _ L hF
  rw [SP_close (by decide) (fun _ => rfl)]
  exact hp
set_option maxHeartbeats 4000000 in
set_option maxRecDepth 100000 in
theorem c_Vows_init : Con mVows_init 2 4 32 (spC 13 18 [] [(0, 2, 0)]) := by
  refine con_of_X rfl fun G as S I L Post hs => ?_
  obtain ⟨rfl, rfl, hz, h1⟩ := hs
  refine ⟨0, Nat.le_of_ble_eq_true rfl, ?_⟩
  show X mVows_init G _ (SP 14 ((13, 0, 0) :: [(0, 2, 0)])) I L 0 [.ref 13] [] Post
  have hF : Fill 13 14 I I := Fill.start hz
  refine x_aload_n dVows_init_0 rfl ?_
  refine x_objInit dVows_init_1 ml_Vows_3 im_obj co_obj rfl rfl ?_
  refine x_aload_n dVows_init_4 rfl ?_
  refine x_bipush (v := 8) dVows_init_5 rfl ?_
  refine x_newSP (N := 8) (n := 14) dVows_init_7 rfl rfl rfl rfl ?_
  replace hF := hF.pushf (n := 14) (f := fun _ => 0) (by decide) rfl
  generalize upr _ 14 (fun _ => (0 : Int32)) = J at hF ⊢
  refine x_putSP (j := 0) fl_Vows_9 rfl dVows_init_9 (by decide) rfl rfl rfl (by decide) (by decide) (fun _ => rfl) (fun _ => rfl) ?_
  refine x_aload_n dVows_init_12 rfl ?_
  refine x_bipush (v := 8) dVows_init_13 rfl ?_
  refine x_newSP (N := 8) (n := 15) dVows_init_15 rfl rfl rfl rfl ?_
  replace hF := hF.pushf (n := 15) (f := fun _ => 0) (by decide) rfl
  generalize upr _ 15 (fun _ => (0 : Int32)) = J at hF ⊢
  refine x_putSP (j := 1) fl_Vows_15 rfl dVows_init_17 (by decide) rfl rfl rfl (by decide) (by decide) (fun _ => rfl) (fun _ => rfl) ?_
  refine x_aload_n dVows_init_20 rfl ?_
  refine x_bipush (v := 8) dVows_init_21 rfl ?_
  refine x_newSP (N := 8) (n := 16) dVows_init_23 rfl rfl rfl rfl ?_
  replace hF := hF.pushf (n := 16) (f := fun _ => 0) (by decide) rfl
  generalize upr _ 16 (fun _ => (0 : Int32)) = J at hF ⊢
  refine x_putSP (j := 2) fl_Vows_18 rfl dVows_init_25 (by decide) rfl rfl rfl (by decide) (by decide) (fun _ => rfl) (fun _ => rfl) ?_
  refine x_aload_n dVows_init_28 rfl ?_
  refine x_bipush (v := 8) dVows_init_29 rfl ?_
  refine x_newSP (N := 8) (n := 17) dVows_init_31 rfl rfl rfl rfl ?_
  replace hF := hF.pushf (n := 17) (f := fun _ => 0) (by decide) rfl
  generalize upr _ 17 (fun _ => (0 : Int32)) = J at hF ⊢
  refine x_putSP (j := 3) fl_Vows_21 rfl dVows_init_33 (by decide) rfl rfl rfl (by decide) (by decide) (fun _ => rfl) (fun _ => rfl) ?_
  refine x_aload_n dVows_init_36 rfl ?_
  refine x_iconst (v := 0) dVows_init_37 rfl ?_
  refine x_putI fl_Vows_24 rfl dVows_init_38 (by decide) rfl rfl rfl rfl ?_
  rw [up2_id (hF.at (i := 13) (j := 4) (x := 0) rfl rfl rfl)]
  refine x_return dVows_init_41 rfl ?_
  have hp := h1 _ L hF
  rw [SP_close (by decide) (fun _ => rfl)]
  exact hp
set_option maxHeartbeats 4000000 in
set_option maxRecDepth 100000 in
theorem c_Sayings_init : Con mSayings_init 2 4 44 (spC 18 23 [] [(0, 3, 0)]) := by
  refine con_of_X rfl fun G as S I L Post hs => ?_
  obtain ⟨rfl, rfl, hz, h1⟩ := hs
  refine ⟨0, Nat.le_of_ble_eq_true rfl, ?_⟩
  show X mSayings_init G _ (SP 19 ((18, 0, 0) :: [(0, 3, 0)])) I L 0 [.ref 18] [] Post
  have hF : Fill 18 19 I I := Fill.start hz
  refine x_aload_n dSayings_init_0 rfl ?_
  refine x_objInit dSayings_init_1 ml_Sayings_3 im_obj co_obj rfl rfl ?_
  refine x_aload_n dSayings_init_4 rfl ?_
  refine x_bipush (v := 11) dSayings_init_5 rfl ?_
  refine x_newSP (N := 11) (n := 19) dSayings_init_7 rfl rfl rfl rfl ?_
  replace hF := hF.pushf (n := 19) (f := fun _ => 0) (by decide) rfl
  generalize upr _ 19 (fun _ => (0 : Int32)) = J at hF ⊢
  refine x_putSP (j := 0) fl_Sayings_9 rfl dSayings_init_9 (by decide) rfl rfl rfl (by decide) (by decide) (fun _ => rfl) (fun _ => rfl) ?_
  refine x_aload_n dSayings_init_12 rfl ?_
  refine x_bipush (v := 11) dSayings_init_13 rfl ?_
  refine x_newSP (N := 11) (n := 20) dSayings_init_15 rfl rfl rfl rfl ?_
  replace hF := hF.pushf (n := 20) (f := fun _ => 0) (by decide) rfl
  generalize upr _ 20 (fun _ => (0 : Int32)) = J at hF ⊢
  refine x_putSP (j := 1) fl_Sayings_15 rfl dSayings_init_17 (by decide) rfl rfl rfl (by decide) (by decide) (fun _ => rfl) (fun _ => rfl) ?_
  refine x_aload_n dSayings_init_20 rfl ?_
  refine x_bipush (v := 11) dSayings_init_21 rfl ?_
  refine x_newSP (N := 11) (n := 21) dSayings_init_23 rfl rfl rfl rfl ?_
  replace hF := hF.pushf (n := 21) (f := fun _ => 0) (by decide) rfl
  generalize upr _ 21 (fun _ => (0 : Int32)) = J at hF ⊢
  refine x_putSP (j := 2) fl_Sayings_18 rfl dSayings_init_25 (by decide) rfl rfl rfl (by decide) (by decide) (fun _ => rfl) (fun _ => rfl) ?_
  refine x_aload_n dSayings_init_28 rfl ?_
  refine x_bipush (v := 11) dSayings_init_29 rfl ?_
  refine x_newSP (N := 11) (n := 22) dSayings_init_31 rfl rfl rfl rfl ?_
  replace hF := hF.pushf (n := 22) (f := fun _ => 0) (by decide) rfl
  generalize upr _ 22 (fun _ => (0 : Int32)) = J at hF ⊢
  refine x_putSP (j := 3) fl_Sayings_21 rfl dSayings_init_33 (by decide) rfl rfl rfl (by decide) (by decide) (fun _ => rfl) (fun _ => rfl) ?_
  refine x_aload_n dSayings_init_36 rfl ?_
  refine x_iconst (v := 0) dSayings_init_37 rfl ?_
  refine x_putI fl_Sayings_24 rfl dSayings_init_38 (by decide) rfl rfl rfl rfl ?_
  rw [up2_id (hF.at (i := 18) (j := 4) (x := 0) rfl rfl rfl)]
  refine x_return dSayings_init_41 rfl ?_
  have hp := h1 _ L hF
  rw [SP_close (by decide) (fun _ => rfl)]
  exact hp
set_option maxHeartbeats 4000000 in
set_option maxRecDepth 100000 in
theorem c_Reader_init : Con mReader_init 2 6 807 (spC 23 30 [] [(0, 4, 0)]) := by
  refine con_of_X rfl fun G as S I L Post hs => ?_
  obtain ⟨rfl, rfl, hz, h1⟩ := hs
  refine ⟨0, Nat.le_of_ble_eq_true rfl, ?_⟩
  show X mReader_init G _ (SP 24 ((23, 0, 0) :: [(0, 4, 0)])) I L 0 [.ref 23] [] Post
  have hF : Fill 23 24 I I := Fill.start hz
  refine x_aload_n dReader_init_0 rfl ?_
  refine x_objInit dReader_init_1 ml_Reader_3 im_obj co_obj rfl rfl ?_
  refine x_aload_n dReader_init_4 rfl ?_
  refine x_sipush (v := 160) dReader_init_5 rfl ?_
  refine x_newSP (N := 160) (n := 24) dReader_init_8 rfl rfl rfl rfl ?_
  replace hF := hF.pushf (n := 24) (f := fun _ => 0) (by decide) rfl
  generalize upr _ 24 (fun _ => (0 : Int32)) = J at hF ⊢
  refine x_putSP (j := 0) fl_Reader_9 rfl dReader_init_10 (by decide) rfl rfl rfl (by decide) (by decide) (fun _ => rfl) (fun _ => rfl) ?_
  refine x_aload_n dReader_init_13 rfl ?_
  refine x_iconst (v := 0) dReader_init_14 rfl ?_
  refine x_putI fl_Reader_15 rfl dReader_init_15 (by decide) rfl rfl rfl rfl ?_
  rw [up2_id (hF.at (i := 23) (j := 1) (x := 0) rfl rfl rfl)]
  refine x_aload_n dReader_init_18 rfl ?_
  refine x_sipush (v := 161) dReader_init_19 rfl ?_
  refine x_newSP (N := 161) (n := 25) dReader_init_22 rfl rfl rfl rfl ?_
  replace hF := hF.pushf (n := 25) (f := fun _ => 0) (by decide) rfl
  generalize upr _ 25 (fun _ => (0 : Int32)) = J at hF ⊢
  refine x_putSP (j := 2) fl_Reader_19 rfl dReader_init_24 (by decide) rfl rfl rfl (by decide) (by decide) (fun _ => rfl) (fun _ => rfl) ?_
  refine x_aload_n dReader_init_27 rfl ?_
  refine x_sipush (v := 161) dReader_init_28 rfl ?_
  refine x_newSP (N := 161) (n := 26) dReader_init_31 rfl rfl rfl rfl ?_
  replace hF := hF.pushf (n := 26) (f := fun _ => 0) (by decide) rfl
  generalize upr _ 26 (fun _ => (0 : Int32)) = J at hF ⊢
  refine x_putSP (j := 3) fl_Reader_22 rfl dReader_init_33 (by decide) rfl rfl rfl (by decide) (by decide) (fun _ => rfl) (fun _ => rfl) ?_
  refine x_aload_n dReader_init_36 rfl ?_
  refine x_sipush (v := 161) dReader_init_37 rfl ?_
  refine x_newSP (N := 161) (n := 27) dReader_init_40 rfl rfl rfl rfl ?_
  replace hF := hF.pushf (n := 27) (f := fun _ => 0) (by decide) rfl
  generalize upr _ 27 (fun _ => (0 : Int32)) = J at hF ⊢
  refine x_putSP (j := 4) fl_Reader_25 rfl dReader_init_42 (by decide) rfl rfl rfl (by decide) (by decide) (fun _ => rfl) (fun _ => rfl) ?_
  refine x_aload_n dReader_init_45 rfl ?_
  refine x_iconst (v := 0) dReader_init_46 rfl ?_
  refine x_putI fl_Reader_28 rfl dReader_init_47 (by decide) rfl rfl rfl rfl ?_
  rw [up2_id (hF.at (i := 23) (j := 5) (x := 0) rfl rfl rfl)]
  refine x_aload_n dReader_init_50 rfl ?_
  refine x_iconst (v := 0) dReader_init_51 rfl ?_
  refine x_putI fl_Reader_31 rfl dReader_init_52 (by decide) rfl rfl rfl rfl ?_
  rw [up2_id (hF.at (i := 23) (j := 6) (x := 0) rfl rfl rfl)]
  refine x_aload_n dReader_init_55 rfl ?_
  refine x_sipush (v := 160) dReader_init_56 rfl ?_
  refine x_newSP (N := 160) (n := 28) dReader_init_59 rfl rfl rfl rfl ?_
  replace hF := hF.pushf (n := 28) (f := fun _ => 0) (by decide) rfl
  generalize upr _ 28 (fun _ => (0 : Int32)) = J at hF ⊢
  refine x_putSP (j := 7) fl_Reader_34 rfl dReader_init_61 (by decide) rfl rfl rfl (by decide) (by decide) (fun _ => rfl) (fun _ => rfl) ?_
  refine x_aload_n dReader_init_64 rfl ?_
  refine x_iconst (v := 4) dReader_init_65 rfl ?_
  refine x_newSP (N := 4) (n := 29) dReader_init_66 rfl rfl rfl rfl ?_
  replace hF := hF.pushf (n := 29) (f := fun _ => 0) (by decide) rfl
  generalize upr _ 29 (fun _ => (0 : Int32)) = J at hF ⊢
  refine x_putSP (j := 8) fl_Reader_37 rfl dReader_init_68 (by decide) rfl rfl rfl (by decide) (by decide) (fun _ => rfl) (fun _ => rfl) ?_
  refine x_aload_n dReader_init_71 rfl ?_
  refine x_iconst (v := 0) dReader_init_72 rfl ?_
  refine x_putI fl_Reader_40 rfl dReader_init_73 (by decide) rfl rfl rfl rfl ?_
  rw [up2_id (hF.at (i := 23) (j := 9) (x := 0) rfl rfl rfl)]
  refine x_return dReader_init_76 rfl ?_
  have hp := h1 _ L hF
  rw [SP_close (by decide) (fun _ => rfl)]
  exact hp
set_option maxHeartbeats 4000000 in
set_option maxRecDepth 100000 in
theorem c_Texts_init : Con mTexts_init 2 4 1151 (spC 30 35 [] [(0, 5, 0)]) := by
  refine con_of_X rfl fun G as S I L Post hs => ?_
  obtain ⟨rfl, rfl, hz, h1⟩ := hs
  refine ⟨0, Nat.le_of_ble_eq_true rfl, ?_⟩
  show X mTexts_init G _ (SP 31 ((30, 0, 0) :: [(0, 5, 0)])) I L 0 [.ref 30] [] Post
  have hF : Fill 30 31 I I := Fill.start hz
  refine x_aload_n dTexts_init_0 rfl ?_
  refine x_objInit dTexts_init_1 ml_Texts_3 im_obj co_obj rfl rfl ?_
  refine x_aload_n dTexts_init_4 rfl ?_
  refine x_sipush (v := 960) dTexts_init_5 rfl ?_
  refine x_newSP (N := 960) (n := 31) dTexts_init_8 rfl rfl rfl rfl ?_
  replace hF := hF.pushf (n := 31) (f := fun _ => 0) (by decide) rfl
  generalize upr _ 31 (fun _ => (0 : Int32)) = J at hF ⊢
  refine x_putSP (j := 0) fl_Texts_9 rfl dTexts_init_10 (by decide) rfl rfl rfl (by decide) (by decide) (fun _ => rfl) (fun _ => rfl) ?_
  refine x_aload_n dTexts_init_13 rfl ?_
  refine x_bipush (v := 24) dTexts_init_14 rfl ?_
  refine x_newSP (N := 24) (n := 32) dTexts_init_16 rfl rfl rfl rfl ?_
  replace hF := hF.pushf (n := 32) (f := fun _ => 0) (by decide) rfl
  generalize upr _ 32 (fun _ => (0 : Int32)) = J at hF ⊢
  refine x_putSP (j := 1) fl_Texts_15 rfl dTexts_init_18 (by decide) rfl rfl rfl (by decide) (by decide) (fun _ => rfl) (fun _ => rfl) ?_
  refine x_aload_n dTexts_init_21 rfl ?_
  refine x_iconst (v := 0) dTexts_init_22 rfl ?_
  refine x_putI fl_Texts_18 rfl dTexts_init_23 (by decide) rfl rfl rfl rfl ?_
  rw [up2_id (hF.at (i := 30) (j := 2) (x := 0) rfl rfl rfl)]
  refine x_aload_n dTexts_init_26 rfl ?_
  refine x_iconst (v := 0) dTexts_init_27 rfl ?_
  refine x_putI fl_Texts_22 rfl dTexts_init_28 (by decide) rfl rfl rfl rfl ?_
  rw [up2_id (hF.at (i := 30) (j := 3) (x := 0) rfl rfl rfl)]
  refine x_aload_n dTexts_init_31 rfl ?_
  refine x_bipush (v := 6) dTexts_init_32 rfl ?_
  refine x_newSP (N := 6) (n := 33) dTexts_init_34 rfl rfl rfl rfl ?_
  replace hF := hF.pushf (n := 33) (f := fun _ => 0) (by decide) rfl
  generalize upr _ 33 (fun _ => (0 : Int32)) = J at hF ⊢
  refine x_putSP (j := 4) fl_Texts_25 rfl dTexts_init_36 (by decide) rfl rfl rfl (by decide) (by decide) (fun _ => rfl) (fun _ => rfl) ?_
  refine x_aload_n dTexts_init_39 rfl ?_
  refine x_sipush (v := 161) dTexts_init_40 rfl ?_
  refine x_newSP (N := 161) (n := 34) dTexts_init_43 rfl rfl rfl rfl ?_
  replace hF := hF.pushf (n := 34) (f := fun _ => 0) (by decide) rfl
  generalize upr _ 34 (fun _ => (0 : Int32)) = J at hF ⊢
  refine x_putSP (j := 5) fl_Texts_28 rfl dTexts_init_45 (by decide) rfl rfl rfl (by decide) (by decide) (fun _ => rfl) (fun _ => rfl) ?_
  refine x_return dTexts_init_48 rfl ?_
  have hp := h1 _ L hF
  rw [SP_close (by decide) (fun _ => rfl)]
  exact hp
set_option maxHeartbeats 4000000 in
set_option maxRecDepth 100000 in
theorem c_Ledger_init : Con mLedger_init 2 9 289 (spC 35 45 [.ref 1, .ref 4, .ref 13, .ref 18, .ref 30] [(0, 6, 0)]) := by
  refine con_of_X rfl fun G as S I L Post hs => ?_
  obtain ⟨rfl, rfl, hz, h1⟩ := hs
  refine ⟨0, Nat.le_of_ble_eq_true rfl, ?_⟩
  show X mLedger_init G _ (SP 36 ((35, 0, 0) :: [(0, 6, 0)])) I L 0 [.ref 35, .ref 1, .ref 4, .ref 13, .ref 18, .ref 30] [] Post
  have hF : Fill 35 36 I I := Fill.start hz
  refine x_aload_n dLedger_init_0 rfl ?_
  refine x_objInit dLedger_init_1 ml_Ledger_3 im_obj co_obj rfl rfl ?_
  refine x_aload_n dLedger_init_4 rfl ?_
  refine x_iconst (v := 0) dLedger_init_5 rfl ?_
  refine x_putI fl_Ledger_9 rfl dLedger_init_6 (by decide) rfl rfl rfl rfl ?_
  rw [up2_id (hF.at (i := 35) (j := 5) (x := 0) rfl rfl rfl)]
  refine x_aload_n dLedger_init_9 rfl ?_
  refine x_bipush (v := 88) dLedger_init_10 rfl ?_
  refine x_newSP (N := 88) (n := 36) dLedger_init_12 rfl rfl rfl rfl ?_
  replace hF := hF.pushf (n := 36) (f := fun _ => 0) (by decide) rfl
  generalize upr _ 36 (fun _ => (0 : Int32)) = J at hF ⊢
  refine x_putSQ (j := 6) fl_Ledger_15 rfl dLedger_init_14 (by decide) rfl rfl rfl rfl (by decide) (fun _ => rfl) (fun _ => rfl) ?_
  refine x_aload_n dLedger_init_17 rfl ?_
  refine x_bipush (v := 11) dLedger_init_18 rfl ?_
  refine x_newSP (N := 11) (n := 37) dLedger_init_20 rfl rfl rfl rfl ?_
  replace hF := hF.pushf (n := 37) (f := fun _ => 0) (by decide) rfl
  generalize upr _ 37 (fun _ => (0 : Int32)) = J at hF ⊢
  refine x_putSQ (j := 7) fl_Ledger_19 rfl dLedger_init_22 (by decide) rfl rfl rfl rfl (by decide) (fun _ => rfl) (fun _ => rfl) ?_
  refine x_aload_n dLedger_init_25 rfl ?_
  refine x_bipush (v := 88) dLedger_init_26 rfl ?_
  refine x_newSP (N := 88) (n := 38) dLedger_init_28 rfl rfl rfl rfl ?_
  replace hF := hF.pushf (n := 38) (f := fun _ => 0) (by decide) rfl
  generalize upr _ 38 (fun _ => (0 : Int32)) = J at hF ⊢
  refine x_putSQ (j := 8) fl_Ledger_22 rfl dLedger_init_30 (by decide) rfl rfl rfl rfl (by decide) (fun _ => rfl) (fun _ => rfl) ?_
  refine x_aload_n dLedger_init_33 rfl ?_
  refine x_bipush (v := 64) dLedger_init_34 rfl ?_
  refine x_newSP (N := 64) (n := 39) dLedger_init_36 rfl rfl rfl rfl ?_
  replace hF := hF.pushf (n := 39) (f := fun _ => 0) (by decide) rfl
  generalize upr _ 39 (fun _ => (0 : Int32)) = J at hF ⊢
  refine x_putSQ (j := 9) fl_Ledger_25 rfl dLedger_init_38 (by decide) rfl rfl rfl rfl (by decide) (fun _ => rfl) (fun _ => rfl) ?_
  refine x_aload_n dLedger_init_41 rfl ?_
  refine x_bipush (v := 8) dLedger_init_42 rfl ?_
  refine x_newSP (N := 8) (n := 40) dLedger_init_44 rfl rfl rfl rfl ?_
  replace hF := hF.pushf (n := 40) (f := fun _ => 0) (by decide) rfl
  generalize upr _ 40 (fun _ => (0 : Int32)) = J at hF ⊢
  refine x_putSQ (j := 10) fl_Ledger_28 rfl dLedger_init_46 (by decide) rfl rfl rfl rfl (by decide) (fun _ => rfl) (fun _ => rfl) ?_
  refine x_aload_n dLedger_init_49 rfl ?_
  refine x_bipush (v := 8) dLedger_init_50 rfl ?_
  refine x_newSP (N := 8) (n := 41) dLedger_init_52 rfl rfl rfl rfl ?_
  replace hF := hF.pushf (n := 41) (f := fun _ => 0) (by decide) rfl
  generalize upr _ 41 (fun _ => (0 : Int32)) = J at hF ⊢
  refine x_putSQ (j := 11) fl_Ledger_31 rfl dLedger_init_54 (by decide) rfl rfl rfl rfl (by decide) (fun _ => rfl) (fun _ => rfl) ?_
  refine x_aload_n dLedger_init_57 rfl ?_
  refine x_bipush (v := 8) dLedger_init_58 rfl ?_
  refine x_newSP (N := 8) (n := 42) dLedger_init_60 rfl rfl rfl rfl ?_
  replace hF := hF.pushf (n := 42) (f := fun _ => 0) (by decide) rfl
  generalize upr _ 42 (fun _ => (0 : Int32)) = J at hF ⊢
  refine x_putSQ (j := 12) fl_Ledger_34 rfl dLedger_init_62 (by decide) rfl rfl rfl rfl (by decide) (fun _ => rfl) (fun _ => rfl) ?_
  refine x_aload_n dLedger_init_65 rfl ?_
  refine x_bipush (v := 8) dLedger_init_66 rfl ?_
  refine x_newSP (N := 8) (n := 43) dLedger_init_68 rfl rfl rfl rfl ?_
  replace hF := hF.pushf (n := 43) (f := fun _ => 0) (by decide) rfl
  generalize upr _ 43 (fun _ => (0 : Int32)) = J at hF ⊢
  refine x_putSQ (j := 13) fl_Ledger_37 rfl dLedger_init_70 (by decide) rfl rfl rfl rfl (by decide) (fun _ => rfl) (fun _ => rfl) ?_
  refine x_aload_n dLedger_init_73 rfl ?_
  refine x_bipush (v := 6) dLedger_init_74 rfl ?_
  refine x_newSP (N := 6) (n := 44) dLedger_init_76 rfl rfl rfl rfl ?_
  replace hF := hF.pushf (n := 44) (f := fun _ => 0) (by decide) rfl
  generalize upr _ 44 (fun _ => (0 : Int32)) = J at hF ⊢
  refine x_putSQ (j := 14) fl_Ledger_40 rfl dLedger_init_78 (by decide) rfl rfl rfl rfl (by decide) (fun _ => rfl) (fun _ => rfl) ?_
  refine x_aload_n dLedger_init_81 rfl ?_
  refine x_aload_n dLedger_init_82 rfl ?_
  refine x_putSP (j := 0) fl_Ledger_43 rfl dLedger_init_83 (by decide) rfl rfl rfl (by decide) (by decide) (fun _ => rfl) (fun _ => rfl) ?_
  refine x_aload_n dLedger_init_86 rfl ?_
  refine x_aload_n dLedger_init_87 rfl ?_
  refine x_putSP (j := 1) fl_Ledger_47 rfl dLedger_init_88 (by decide) rfl rfl rfl (by decide) (by decide) (fun _ => rfl) (fun _ => rfl) ?_
  refine x_aload_n dLedger_init_91 rfl ?_
  refine x_aload_n dLedger_init_92 rfl ?_
  refine x_putSP (j := 2) fl_Ledger_51 rfl dLedger_init_93 (by decide) rfl rfl rfl (by decide) (by decide) (fun _ => rfl) (fun _ => rfl) ?_
  refine x_aload_n dLedger_init_96 rfl ?_
  refine x_aload dLedger_init_97 rfl ?_
  refine x_putSP (j := 3) fl_Ledger_55 rfl dLedger_init_99 (by decide) rfl rfl rfl (by decide) (by decide) (fun _ => rfl) (fun _ => rfl) ?_
  refine x_aload_n dLedger_init_102 rfl ?_
  refine x_aload dLedger_init_103 rfl ?_
  refine x_putSP (j := 4) fl_Ledger_59 rfl dLedger_init_105 (by decide) rfl rfl rfl (by decide) (by decide) (fun _ => rfl) (fun _ => rfl) ?_
  refine x_return dLedger_init_108 rfl ?_
  have hp := h1 _ L hF
  rw [SP_close (by decide) (fun _ => rfl)]
  exact hp
set_option maxHeartbeats 4000000 in
set_option maxRecDepth 100000 in
theorem c_Sayings_init2 : Con mSayings_init 2 4 44 (spC 49 54 [] [(45, 1, 0), (0, 7, 0)]) := by
  refine con_of_X rfl fun G as S I L Post hs => ?_
  obtain ⟨rfl, rfl, hz, h1⟩ := hs
  refine ⟨0, Nat.le_of_ble_eq_true rfl, ?_⟩
  show X mSayings_init G _ (SP 50 ((49, 0, 0) :: [(45, 1, 0), (0, 7, 0)])) I L 0 [.ref 49] [] Post
  have hF : Fill 49 50 I I := Fill.start hz
  refine x_aload_n dSayings_init_0 rfl ?_
  refine x_objInit dSayings_init_1 ml_Sayings_3 im_obj co_obj rfl rfl ?_
  refine x_aload_n dSayings_init_4 rfl ?_
  refine x_bipush (v := 11) dSayings_init_5 rfl ?_
  refine x_newSP (N := 11) (n := 50) dSayings_init_7 rfl rfl rfl rfl ?_
  replace hF := hF.pushf (n := 50) (f := fun _ => 0) (by decide) rfl
  generalize upr _ 50 (fun _ => (0 : Int32)) = J at hF ⊢
  refine x_putSP (j := 0) fl_Sayings_9 rfl dSayings_init_9 (by decide) rfl rfl rfl (by decide) (by decide) (fun _ => rfl) (fun _ => rfl) ?_
  refine x_aload_n dSayings_init_12 rfl ?_
  refine x_bipush (v := 11) dSayings_init_13 rfl ?_
  refine x_newSP (N := 11) (n := 51) dSayings_init_15 rfl rfl rfl rfl ?_
  replace hF := hF.pushf (n := 51) (f := fun _ => 0) (by decide) rfl
  generalize upr _ 51 (fun _ => (0 : Int32)) = J at hF ⊢
  refine x_putSP (j := 1) fl_Sayings_15 rfl dSayings_init_17 (by decide) rfl rfl rfl (by decide) (by decide) (fun _ => rfl) (fun _ => rfl) ?_
  refine x_aload_n dSayings_init_20 rfl ?_
  refine x_bipush (v := 11) dSayings_init_21 rfl ?_
  refine x_newSP (N := 11) (n := 52) dSayings_init_23 rfl rfl rfl rfl ?_
  replace hF := hF.pushf (n := 52) (f := fun _ => 0) (by decide) rfl
  generalize upr _ 52 (fun _ => (0 : Int32)) = J at hF ⊢
  refine x_putSP (j := 2) fl_Sayings_18 rfl dSayings_init_25 (by decide) rfl rfl rfl (by decide) (by decide) (fun _ => rfl) (fun _ => rfl) ?_
  refine x_aload_n dSayings_init_28 rfl ?_
  refine x_bipush (v := 11) dSayings_init_29 rfl ?_
  refine x_newSP (N := 11) (n := 53) dSayings_init_31 rfl rfl rfl rfl ?_
  replace hF := hF.pushf (n := 53) (f := fun _ => 0) (by decide) rfl
  generalize upr _ 53 (fun _ => (0 : Int32)) = J at hF ⊢
  refine x_putSP (j := 3) fl_Sayings_21 rfl dSayings_init_33 (by decide) rfl rfl rfl (by decide) (by decide) (fun _ => rfl) (fun _ => rfl) ?_
  refine x_aload_n dSayings_init_36 rfl ?_
  refine x_iconst (v := 0) dSayings_init_37 rfl ?_
  refine x_putI fl_Sayings_24 rfl dSayings_init_38 (by decide) rfl rfl rfl rfl ?_
  rw [up2_id (hF.at (i := 49) (j := 4) (x := 0) rfl rfl rfl)]
  refine x_return dSayings_init_41 rfl ?_
  have hp := h1 _ L hF
  rw [SP_close (by decide) (fun _ => rfl)]
  exact hp
set_option maxHeartbeats 4000000 in
set_option maxRecDepth 100000 in
theorem c_Town_init : Con mTown_init 3 2 42 (spC 1 4 [] [(0, 0, 0)]) := by
  refine con_of_X rfl fun G as S I L Post hs => ?_
  obtain ⟨rfl, rfl, hz, h1⟩ := hs
  refine ⟨2, Nat.le_of_ble_eq_true rfl, ?_⟩
  show X mTown_init G _ (SP 2 ((1, 0, 0) :: [(0, 0, 0)])) I L 0 [.ref 1, .null, .null] [] Post
  refine x_aload_n dTown_init_0 rfl ?_
  -- at 1: .invokespecial 3
  refine x_objInit dTown_init_1 ml_Town_3 im_obj co_obj rfl rfl ?_
  refine x_aload_n dTown_init_4 rfl ?_
  refine x_bipush (v := 36) dTown_init_5 rfl ?_
  -- at 7: .newarray .int
  refine x_newSP (N := 36) (n := 2) dTown_init_7 rfl rfl rfl rfl ?_
  refine x_putSP (j := 0) fl_Town_9 rfl dTown_init_9 (by decide) rfl rfl rfl (by decide) (by decide) (fun _ => rfl) (fun _ => rfl) ?_
  refine x_aload_n dTown_init_12 rfl ?_
  refine x_bipush (v := 6) dTown_init_13 rfl ?_
  -- at 15: .newarray .int
  refine x_newSP (N := 6) (n := 3) dTown_init_15 rfl rfl rfl rfl ?_
  refine x_putSP (j := 1) fl_Town_15 rfl dTown_init_17 (by decide) rfl rfl rfl (by decide) (by decide) (fun _ => rfl) (fun _ => rfl) ?_
  refine x_aload_n dTown_init_20 rfl ?_
  refine x_iconst (v := 2) dTown_init_21 rfl ?_
  refine x_putI fl_Town_18 rfl dTown_init_22 (by decide) rfl rfl rfl rfl ?_
  refine x_iconst (v := 0) dTown_init_25 rfl ?_
  refine x_istoren_1 dTown_init_26 rfl rfl ?_
  -- at 27: .iload_n 1
  have hJ : ∃ J : IM, (∀ i, i < 1 ∨ 4 ≤ i → J i = I i) ∧ J 1 = rowI 1 ∧ J 3 = rowI 3 ∧ up2 (upr (upr I 2 (fun _ => 0)) 3 (fun _ => 0)) 1 2 2 = upr J 2 (tw 0) := by
    refine ⟨upr (upr I 1 (rowI 1)) 3 (rowI 3), fun i hi => ?_, ?_, ?_, ?_⟩
    · rw [upr_n _ _ (by omega), upr_n _ _ (by omega)]
    · rw [upr_n _ _ (by decide), upr_s]
    · rw [upr_s]
    · funext i
      by_cases e1 : i = 1
      · subst e1
        rw [up2_s, upr_n _ _ (by decide), upr_n _ _ (by decide), upr_n _ _ (by decide), upr_n _ _ (by decide), upr_s, hz]
        funext j
        by_cases hj : j = 2
        · subst hj; rw [up1_s]; rfl
        · rw [up1_n _ _ hj]
          show (0 : Int32) = if j = 2 then 2 else 0
          rw [if_neg hj]
      · rw [up2_n _ _ _ e1]
        by_cases e2 : i = 3
        · subst e2
          rw [upr_s, upr_n _ _ (by decide), upr_s]
          rfl
        · rw [upr_n _ _ e2]
          by_cases e3 : i = 2
          · subst e3
            rw [upr_s, upr_s, tw_0]
          · rw [upr_n _ _ e3, upr_n _ _ e3, upr_n _ _ e2, upr_n _ _ e1]
  obtain ⟨J, j1, j2, j3, j4⟩ := hJ
  rw [j4]
  have inner : ∀ u, u < 6 → (∀ a2 : Value, X mTown_init G (3, 0, 0) (SP 4 ((1, 2, 0) :: [(0, 0, 0)])) (upr J 2 (tw (u * 6 + 6))) L 64 [.ref 1, .int (nI u), a2] [] Post) → ∀ (r v : Nat), v + r = 6 → X mTown_init G (3, 0, 0) (SP 4 ((1, 2, 0) :: [(0, 0, 0)])) (upr J 2 (tw (u * 6 + v))) L 35 [.ref 1, .int (nI u), .int (nI v)] [] Post := by
    intro u hu hc r
    induction r with
    | zero =>
      intro v hv
      obtain rfl : v = 6 := by omega
      refine x_iload_n dTown_init_35 rfl ?_
      refine x_bipush (v := 6) dTown_init_36 rfl ?_
      -- at 38: .if_icmp .ge 26
      refine x_icmp_ge (tgt := 64) dTown_init_38 (by decide) (fun _ => ?_) (fun h => absurd (Int32.le_refl _) h)
      exact hc _
    | succ r ih =>
      intro v hv
      refine x_iload_n dTown_init_35 rfl ?_
      refine x_bipush (v := 6) dTown_init_36 rfl ?_
      -- at 38: .if_icmp .ge 26
      refine x_icmp_ge (tgt := 64) dTown_init_38 (by decide) (fun h => absurd h (nI_ge (b := 6) (by omega) (by omega))) (fun _ => ?_)
      refine x_aload_n dTown_init_41 rfl ?_
      refine x_getR fl_Town_9 rfl dTown_init_42 rfl rfl rfl ?_
      refine x_iload_n dTown_init_45 rfl ?_
      refine x_bipush (v := 6) dTown_init_46 rfl ?_
      refine x_imul dTown_init_48 ?_
      refine x_iload_n dTown_init_49 rfl ?_
      refine x_iadd dTown_init_50 ?_
      refine x_iload_n dTown_init_51 rfl ?_
      refine x_iload_n dTown_init_52 rfl ?_
      refine x_isub dTown_init_53 ?_
      -- at 54: .invokestatic 22
      refine x_mabs dTown_init_54 ml_Town_22 st_abs it_Math co_abs rfl rfl ?_
      rw [tw_v u v hu (by omega)]
      refine x_iastJ (j := u * 6 + v) dTown_init_57 rfl rfl (by first | rfl | (simp only [← nI_add, ← pk_mul]; rfl)) (by omega) ?_
      rw [tw_s]
      refine x_iincp_2 dTown_init_58 rfl rfl ?_
      refine x_goto (tgt := 35) dTown_init_61 (by decide) ?_
      -- at 35: .iload_n 2
      rw [nI_1]
      exact ih (v + 1) (by omega)
  have outer : ∀ (r u : Nat), u + r = 6 → ∀ a2 : Value, X mTown_init G (3, 0, 0) (SP 4 ((1, 2, 0) :: [(0, 0, 0)])) (upr J 2 (tw (u * 6))) L 27 [.ref 1, .int (nI u), a2] [] Post := by
    intro r
    induction r with
    | zero =>
      intro u hu a2
      obtain rfl : u = 6 := by omega
      refine x_iload_n dTown_init_27 rfl ?_
      refine x_bipush (v := 6) dTown_init_28 rfl ?_
      -- at 30: .if_icmp .ge 40
      refine x_icmp_ge (tgt := 70) dTown_init_30 (by decide) (fun _ => ?_) (fun h => absurd (Int32.le_refl _) h)
      refine x_return dTown_init_70 rfl ?_
      have hp := h1 (upr J 2 (tw (6 * 6))) L ⟨fun i hi => by rw [upr_n _ _ (by omega)]; exact j1 i hi, fun i hi1 hi2 => by
        rcases (show i = 1 ∨ i = 2 ∨ i = 3 by omega) with rfl | rfl | rfl
        · rw [upr_n _ _ (by decide)]; exact j2
        · rw [upr_s, tw_36]; rfl
        · rw [upr_n _ _ (by decide)]; exact j3⟩
      rw [SP_close (by decide) (fun _ => rfl)]
      exact hp
    | succ r ih =>
      intro u hu a2
      refine x_iload_n dTown_init_27 rfl ?_
      refine x_bipush (v := 6) dTown_init_28 rfl ?_
      -- at 30: .if_icmp .ge 40
      refine x_icmp_ge (tgt := 70) dTown_init_30 (by decide) (fun h => absurd h (nI_ge (b := 6) (by omega) (by omega))) (fun _ => ?_)
      refine x_iconst (v := 0) dTown_init_33 rfl ?_
      refine x_istoren_2 dTown_init_34 rfl rfl ?_
      -- at 35: .iload_n 2
      refine inner u (by omega) (fun a2 => ?_) 6 0 rfl
      refine x_iincp_1 dTown_init_64 rfl rfl ?_
      refine x_goto (tgt := 27) dTown_init_67 (by decide) ?_
      -- at 27: .iload_n 1
      rw [nI_1, show u * 6 + 6 = (u + 1) * 6 by omega]
      exact ih (u + 1) (by omega) a2
  exact outer 6 0 rfl _
set_option maxHeartbeats 4000000 in
set_option maxRecDepth 100000 in
theorem c_Town_init2 : Con mTown_init 3 2 42 (spC 46 49 [] [(45, 0, 0), (0, 7, 0)]) := by
  refine con_of_X rfl fun G as S I L Post hs => ?_
  obtain ⟨rfl, rfl, hz, h1⟩ := hs
  refine ⟨2, Nat.le_of_ble_eq_true rfl, ?_⟩
  show X mTown_init G _ (SP 47 ((46, 0, 0) :: [(45, 0, 0), (0, 7, 0)])) I L 0 [.ref 46, .null, .null] [] Post
  refine x_aload_n dTown_init_0 rfl ?_
  -- at 1: .invokespecial 3
  refine x_objInit dTown_init_1 ml_Town_3 im_obj co_obj rfl rfl ?_
  refine x_aload_n dTown_init_4 rfl ?_
  refine x_bipush (v := 36) dTown_init_5 rfl ?_
  -- at 7: .newarray .int
  refine x_newSP (N := 36) (n := 47) dTown_init_7 rfl rfl rfl rfl ?_
  refine x_putSP (j := 0) fl_Town_9 rfl dTown_init_9 (by decide) rfl rfl rfl (by decide) (by decide) (fun _ => rfl) (fun _ => rfl) ?_
  refine x_aload_n dTown_init_12 rfl ?_
  refine x_bipush (v := 6) dTown_init_13 rfl ?_
  -- at 15: .newarray .int
  refine x_newSP (N := 6) (n := 48) dTown_init_15 rfl rfl rfl rfl ?_
  refine x_putSP (j := 1) fl_Town_15 rfl dTown_init_17 (by decide) rfl rfl rfl (by decide) (by decide) (fun _ => rfl) (fun _ => rfl) ?_
  refine x_aload_n dTown_init_20 rfl ?_
  refine x_iconst (v := 2) dTown_init_21 rfl ?_
  refine x_putI fl_Town_18 rfl dTown_init_22 (by decide) rfl rfl rfl rfl ?_
  refine x_iconst (v := 0) dTown_init_25 rfl ?_
  refine x_istoren_1 dTown_init_26 rfl rfl ?_
  -- at 27: .iload_n 1
  have hJ : ∃ J : IM, (∀ i, i < 46 ∨ 49 ≤ i → J i = I i) ∧ J 46 = rowI 46 ∧ J 48 = rowI 48 ∧ up2 (upr (upr I 47 (fun _ => 0)) 48 (fun _ => 0)) 46 2 2 = upr J 47 (tw 0) := by
    refine ⟨upr (upr I 46 (rowI 46)) 48 (rowI 48), fun i hi => ?_, ?_, ?_, ?_⟩
    · rw [upr_n _ _ (by omega), upr_n _ _ (by omega)]
    · rw [upr_n _ _ (by decide), upr_s]
    · rw [upr_s]
    · funext i
      by_cases e1 : i = 46
      · subst e1
        rw [up2_s, upr_n _ _ (by decide), upr_n _ _ (by decide), upr_n _ _ (by decide), upr_n _ _ (by decide), upr_s, hz]
        funext j
        by_cases hj : j = 2
        · subst hj; rw [up1_s]; rfl
        · rw [up1_n _ _ hj]
          show (0 : Int32) = if j = 2 then 2 else 0
          rw [if_neg hj]
      · rw [up2_n _ _ _ e1]
        by_cases e2 : i = 48
        · subst e2
          rw [upr_s, upr_n _ _ (by decide), upr_s]
          rfl
        · rw [upr_n _ _ e2]
          by_cases e3 : i = 47
          · subst e3
            rw [upr_s, upr_s, tw_0]
          · rw [upr_n _ _ e3, upr_n _ _ e3, upr_n _ _ e2, upr_n _ _ e1]
  obtain ⟨J, j1, j2, j3, j4⟩ := hJ
  rw [j4]
  have inner : ∀ u, u < 6 → (∀ a2 : Value, X mTown_init G (3, 0, 0) (SP 49 ((46, 2, 0) :: [(45, 0, 0), (0, 7, 0)])) (upr J 47 (tw (u * 6 + 6))) L 64 [.ref 46, .int (nI u), a2] [] Post) → ∀ (r v : Nat), v + r = 6 → X mTown_init G (3, 0, 0) (SP 49 ((46, 2, 0) :: [(45, 0, 0), (0, 7, 0)])) (upr J 47 (tw (u * 6 + v))) L 35 [.ref 46, .int (nI u), .int (nI v)] [] Post := by
    intro u hu hc r
    induction r with
    | zero =>
      intro v hv
      obtain rfl : v = 6 := by omega
      refine x_iload_n dTown_init_35 rfl ?_
      refine x_bipush (v := 6) dTown_init_36 rfl ?_
      -- at 38: .if_icmp .ge 26
      refine x_icmp_ge (tgt := 64) dTown_init_38 (by decide) (fun _ => ?_) (fun h => absurd (Int32.le_refl _) h)
      exact hc _
    | succ r ih =>
      intro v hv
      refine x_iload_n dTown_init_35 rfl ?_
      refine x_bipush (v := 6) dTown_init_36 rfl ?_
      -- at 38: .if_icmp .ge 26
      refine x_icmp_ge (tgt := 64) dTown_init_38 (by decide) (fun h => absurd h (nI_ge (b := 6) (by omega) (by omega))) (fun _ => ?_)
      refine x_aload_n dTown_init_41 rfl ?_
      refine x_getR fl_Town_9 rfl dTown_init_42 rfl rfl rfl ?_
      refine x_iload_n dTown_init_45 rfl ?_
      refine x_bipush (v := 6) dTown_init_46 rfl ?_
      refine x_imul dTown_init_48 ?_
      refine x_iload_n dTown_init_49 rfl ?_
      refine x_iadd dTown_init_50 ?_
      refine x_iload_n dTown_init_51 rfl ?_
      refine x_iload_n dTown_init_52 rfl ?_
      refine x_isub dTown_init_53 ?_
      -- at 54: .invokestatic 22
      refine x_mabs dTown_init_54 ml_Town_22 st_abs it_Math co_abs rfl rfl ?_
      rw [tw_v u v hu (by omega)]
      refine x_iastJ (j := u * 6 + v) dTown_init_57 rfl rfl (by first | rfl | (simp only [← nI_add, ← pk_mul]; rfl)) (by omega) ?_
      rw [tw_s]
      refine x_iincp_2 dTown_init_58 rfl rfl ?_
      refine x_goto (tgt := 35) dTown_init_61 (by decide) ?_
      -- at 35: .iload_n 2
      rw [nI_1]
      exact ih (v + 1) (by omega)
  have outer : ∀ (r u : Nat), u + r = 6 → ∀ a2 : Value, X mTown_init G (3, 0, 0) (SP 49 ((46, 2, 0) :: [(45, 0, 0), (0, 7, 0)])) (upr J 47 (tw (u * 6))) L 27 [.ref 46, .int (nI u), a2] [] Post := by
    intro r
    induction r with
    | zero =>
      intro u hu a2
      obtain rfl : u = 6 := by omega
      refine x_iload_n dTown_init_27 rfl ?_
      refine x_bipush (v := 6) dTown_init_28 rfl ?_
      -- at 30: .if_icmp .ge 40
      refine x_icmp_ge (tgt := 70) dTown_init_30 (by decide) (fun _ => ?_) (fun h => absurd (Int32.le_refl _) h)
      refine x_return dTown_init_70 rfl ?_
      have hp := h1 (upr J 47 (tw (6 * 6))) L ⟨fun i hi => by rw [upr_n _ _ (by omega)]; exact j1 i hi, fun i hi1 hi2 => by
        rcases (show i = 46 ∨ i = 47 ∨ i = 48 by omega) with rfl | rfl | rfl
        · rw [upr_n _ _ (by decide)]; exact j2
        · rw [upr_s, tw_36]; rfl
        · rw [upr_n _ _ (by decide)]; exact j3⟩
      rw [SP_close (by decide) (fun _ => rfl)]
      exact hp
    | succ r ih =>
      intro u hu a2
      refine x_iload_n dTown_init_27 rfl ?_
      refine x_bipush (v := 6) dTown_init_28 rfl ?_
      -- at 30: .if_icmp .ge 40
      refine x_icmp_ge (tgt := 70) dTown_init_30 (by decide) (fun h => absurd h (nI_ge (b := 6) (by omega) (by omega))) (fun _ => ?_)
      refine x_iconst (v := 0) dTown_init_33 rfl ?_
      refine x_istoren_2 dTown_init_34 rfl rfl ?_
      -- at 35: .iload_n 2
      refine inner u (by omega) (fun a2 => ?_) 6 0 rfl
      refine x_iincp_1 dTown_init_64 rfl rfl ?_
      refine x_goto (tgt := 27) dTown_init_67 (by decide) ?_
      -- at 27: .iload_n 1
      rw [nI_1, show u * 6 + 6 = (u + 1) * 6 by omega]
      exact ih (u + 1) (by omega) a2
  exact outer 6 0 rfl _
set_option maxHeartbeats 4000000 in
set_option maxRecDepth 100000 in
theorem c_Image_init : Con mImage_init 4 9 102 (spC 45 55 [] [(0, 7, 0)]) := by
  refine con_of_X rfl fun G as S I L Post hs => ?_
  obtain ⟨rfl, rfl, hz, h1⟩ := hs
  refine ⟨0, Nat.le_of_ble_eq_true rfl, ?_⟩
  show X mImage_init G _ (SP 46 ((45, 0, 0) :: [(0, 7, 0)])) I L 0 [.ref 45] [] Post
  have hF : Fill 45 46 I I := Fill.start hz
  refine x_aload_n dImage_init_0 rfl ?_
  refine x_objInit dImage_init_1 ml_Image_3 im_obj co_obj rfl rfl ?_
  refine x_aload_n dImage_init_4 rfl ?_
  refine x_newOb (ci := 7) (nq := 3) (n := 46) dImage_init_5 (q := _) rfl cl_Image_9 in_Town it_Town rfl rfl rfl ?_
  refine x_dup dImage_init_8 rfl ?_
  refine x_callI_0 c_Town_init2 ok_Town_init rfl ml_Image_11 dImage_init_9 rfl rfl rfl rfl rfl ?_
  refine ⟨rfl, rfl, upr_s _ _ _, fun J2 L2 hF2 => ?_⟩
  replace hF := hF.app hF2 (by decide) (by decide)
  clear hF2
  refine x_putSP (j := 0) fl_Image_12 rfl dImage_init_12 (by decide) rfl rfl rfl (by decide) (by decide) (fun _ => rfl) (fun _ => rfl) ?_
  refine x_aload_n dImage_init_15 rfl ?_
  refine x_newOb (ci := 4) (nq := 5) (n := 49) dImage_init_16 (q := _) rfl cl_Image_18 in_Sayings it_Sayings rfl rfl rfl ?_
  refine x_dup dImage_init_19 rfl ?_
  refine x_callIN_0 c_Sayings_init2 ok_Sayings_init rfl nw_Image_20 dImage_init_20 rfl rfl rfl rfl rfl ?_
  refine ⟨rfl, rfl, upr_s _ _ _, fun J2 L2 hF2 => ?_⟩
  replace hF := hF.app hF2 (by decide) (by decide)
  clear hF2
  refine x_putSP (j := 1) fl_Image_21 rfl dImage_init_23 (by decide) rfl rfl rfl (by decide) (by decide) (fun _ => rfl) (fun _ => rfl) ?_
  refine x_aload_n dImage_init_26 rfl ?_
  refine x_bipush (v := 8) dImage_init_27 rfl ?_
  refine x_newSP (N := 8) (n := 54) dImage_init_29 rfl rfl rfl rfl ?_
  replace hF := hF.pushf (n := 54) (f := fun _ => 0) (by decide) rfl
  generalize upr _ 54 (fun _ => (0 : Int32)) = J at hF ⊢
  refine x_putSP (j := 2) fl_Image_25 rfl dImage_init_31 (by decide) rfl rfl rfl (by decide) (by decide) (fun _ => rfl) (fun _ => rfl) ?_
  refine x_aload_n dImage_init_34 rfl ?_
  refine x_iconst (v := 0) dImage_init_35 rfl ?_
  refine x_putI fl_Image_29 rfl dImage_init_36 (by decide) rfl rfl rfl rfl ?_
  rw [up2_id (hF.at (i := 45) (j := 3) (x := 0) rfl rfl rfl)]
  refine x_aload_n dImage_init_39 rfl ?_
  refine x_iconst (v := 0) dImage_init_40 rfl ?_
  refine x_putI fl_Image_33 rfl dImage_init_41 (by decide) rfl rfl rfl rfl ?_
  rw [up2_id (hF.at (i := 45) (j := 4) (x := 0) rfl rfl rfl)]
  refine x_aload_n dImage_init_44 rfl ?_
  refine x_iconst (v := 0) dImage_init_45 rfl ?_
  refine x_putI fl_Image_36 rfl dImage_init_46 (by decide) rfl rfl rfl rfl ?_
  rw [up2_id (hF.at (i := 45) (j := 5) (x := 0) rfl rfl rfl)]
  refine x_return dImage_init_49 rfl ?_
  have hp := h1 _ L2 hF
  rw [SP_close (by decide) (fun _ => rfl)]
  exact hp
set_option maxHeartbeats 4000000 in
set_option maxRecDepth 100000 in
theorem c_Sheets_init : Con mSheets_init 2 3 168 (spC 55 59 [] [(0, 8, 0)]) := by
  refine con_of_X rfl fun G as S I L Post hs => ?_
  obtain ⟨rfl, rfl, hz, h1⟩ := hs
  refine ⟨0, Nat.le_of_ble_eq_true rfl, ?_⟩
  show X mSheets_init G _ (SP 56 ((55, 0, 0) :: [(0, 8, 0)])) I L 0 [.ref 55] [] Post
  have hF : Fill 55 56 I I := Fill.start hz
  refine x_aload_n dSheets_init_0 rfl ?_
  refine x_objInit dSheets_init_1 ml_Sheets_3 im_obj co_obj rfl rfl ?_
  refine x_aload_n dSheets_init_4 rfl ?_
  refine x_iconst (v := 4) dSheets_init_5 rfl ?_
  refine x_newSP (N := 4) (n := 56) dSheets_init_6 rfl rfl rfl rfl ?_
  refine x_dup dSheets_init_8 rfl ?_
  refine x_iconst (v := 0) dSheets_init_9 rfl ?_
  refine x_iconst (v := -1) dSheets_init_10 rfl ?_
  refine x_iastJ (j := 0) dSheets_init_11 rfl rfl rfl (by decide) ?_
  rw [show upr _ 56 (fun _ => (0 : Int32)) = upr _ 56 (fL (List.take 0 m4L)) from rfl]
  rw [fL_t (l := m4L) (i := 0) rfl]
  refine x_dup dSheets_init_12 rfl ?_
  refine x_iconst (v := 1) dSheets_init_13 rfl ?_
  refine x_iconst (v := -1) dSheets_init_14 rfl ?_
  refine x_iastJ (j := 1) dSheets_init_15 rfl rfl rfl (by decide) ?_
  rw [fL_t (l := m4L) (i := 1) rfl]
  refine x_dup dSheets_init_16 rfl ?_
  refine x_iconst (v := 2) dSheets_init_17 rfl ?_
  refine x_iconst (v := -1) dSheets_init_18 rfl ?_
  refine x_iastJ (j := 2) dSheets_init_19 rfl rfl rfl (by decide) ?_
  rw [fL_t (l := m4L) (i := 2) rfl]
  refine x_dup dSheets_init_20 rfl ?_
  refine x_iconst (v := 3) dSheets_init_21 rfl ?_
  refine x_iconst (v := -1) dSheets_init_22 rfl ?_
  refine x_iastJ (j := 3) dSheets_init_23 rfl rfl rfl (by decide) ?_
  rw [fL_t (l := m4L) (i := 3) rfl]
  replace hF := hF.pushf (n := 56) (f := fL (List.take 4 m4L)) (by decide) rfl
  generalize upr _ 56 (fL (List.take 4 m4L)) = J at hF ⊢
  refine x_putSP (j := 0) fl_Sheets_9 rfl dSheets_init_24 (by decide) rfl rfl rfl (by decide) (by decide) (fun _ => rfl) (fun _ => rfl) ?_
  refine x_aload_n dSheets_init_27 rfl ?_
  refine x_iconst (v := 4) dSheets_init_28 rfl ?_
  refine x_newSP (N := 4) (n := 57) dSheets_init_29 rfl rfl rfl rfl ?_
  replace hF := hF.pushf (n := 57) (f := fun _ => 0) (by decide) rfl
  generalize upr _ 57 (fun _ => (0 : Int32)) = J at hF ⊢
  refine x_putSP (j := 1) fl_Sheets_15 rfl dSheets_init_31 (by decide) rfl rfl rfl (by decide) (by decide) (fun _ => rfl) (fun _ => rfl) ?_
  refine x_aload_n dSheets_init_34 rfl ?_
  refine x_sipush (v := 160) dSheets_init_35 rfl ?_
  refine x_newSP (N := 160) (n := 58) dSheets_init_38 rfl rfl rfl rfl ?_
  replace hF := hF.pushf (n := 58) (f := fun _ => 0) (by decide) rfl
  generalize upr _ 58 (fun _ => (0 : Int32)) = J at hF ⊢
  refine x_putSP (j := 2) fl_Sheets_18 rfl dSheets_init_40 (by decide) rfl rfl rfl (by decide) (by decide) (fun _ => rfl) (fun _ => rfl) ?_
  refine x_return dSheets_init_43 rfl ?_
  have hp := h1 _ L hF
  rw [SP_close (by decide) (fun _ => rfl)]
  exact hp
end
section
-- 86.wi
/-! the first state; the class's own constructor -/
theorem lawL_eq : lawL = stB.getD 0 [] := by decide
def LA : List Int32 := [100040, 0, 100012, 18, 16, 1, 100015, 18, 17, 2, 100003, 18, 16]
def LB : List Int32 := [3]
def LC : List Int32 := [3, 5, 18]
theorem law_pt : pt (tokS (fL lawL) 75 0) = .inr (LA, LB, LC) := by decide +kernel
/-- no PEOPLE, PROMISES, SAYINGS, TEXTS -/
def EZ : IM := fun a => match a with
  | 0 => fa0 | 19 => fa0 | 26 => fL m4L | 29 => (fun j => if j = 0 ∨ j = 8 then 2 else 0) | _ => fun _ => 0
/-- a new object -/
def E0 : IM := addT EZ 0 LA LB LC
/-- THE TAPE as far as m -/
def tpE (J : IM) (m : Nat) : IM := up2 (upr J 24 (fL (lawL.take m))) 23 1 (nI m)
theorem tpE_s {J : IM} {m : Nat} {b : Int32} (h : lawL[m]? = some b) : up2 (up2 (tpE J m) 24 m b) 23 1 (nI (m + 1)) = tpE J (m + 1) := by
  unfold tpE
  rw [← fL_t (I := J) (n := 24) h]
  funext x
  by_cases h1 : x = 23
  · subst h1
    rw [up2_s, up2_s, up2_n _ _ _ (by decide), up2_s, upr_n _ _ (by decide), up2_n _ _ _ (by decide), upr_n _ _ (by decide)]
    funext j
    by_cases hj : j = 1
    · subst hj; rw [up1_s, up1_s]
    · rw [up1_n _ _ hj, up1_n _ _ hj, up1_n _ _ hj]
  · rw [up2_n _ _ _ h1, up2_n _ _ _ h1]
    by_cases h2 : x = 24
    · subst h2
      rw [up2_s, up2_s, up2_n _ _ _ (by decide)]
    · rw [up2_n _ _ _ h2, up2_n _ _ _ h1, up2_n _ _ _ h2]
theorem tpE_0 {J : IM} (h1 : J 24 = fun _ => 0) (h2 : J 23 1 = 0) : J = tpE J 0 := by
  unfold tpE
  have e : upr J 24 (fL (lawL.take 0)) = J := by
    funext x
    by_cases hx : x = 24
    · subst hx; rw [upr_s, h1]; rfl
    · rw [upr_n _ _ hx]
  rw [e]
  exact (up2_id h2).symm
theorem mk_z {n : Nat} {f : Nat → Int32} (h : n = 0) : mk n f = fun _ => 0 := by
  subst h
  funext i
  simp [mk]
theorem cE_first {I0 J : IM} (h : Fill 0 59 I0 J) : clr (cE (tpE J 75)) = EZ := by
  have r : ∀ i, i < 59 → i ≠ 23 → i ≠ 24 → tpE J 75 i = rowI i := fun i h1 h2 h3 => by
    unfold tpE
    rw [up2_n _ _ _ h2, upr_n _ _ h3]
    exact h.2 i (Nat.zero_le _) h1
  have c0 : ∀ i j, i < 59 → i ≠ 23 → i ≠ 24 → rowI i j = 0 → cl (tpE J 75 i j) = 0 := fun i j h1 h2 h3 h4 => by
    rw [r i h1 h2 h3, h4]
    rfl
  funext x
  unfold clr
  by_cases e18 : x = 18
  · subst e18
    rw [upr_s]
    rfl
  rw [upr_n _ _ e18]
  by_cases e29 : x = 29
  · subst e29
    rw [up2_s]
    funext j
    by_cases e6 : j = 6
    · subst e6
      rw [up1_s]
      rfl
    · rw [up1_n _ _ e6]
      show cSc (tpE J 75) j = if j = 0 ∨ j = 8 then 2 else 0
      unfold cSc
      rw [r 1 (by decide) (by decide) (by decide), r 4 (by decide) (by decide) (by decide), r 13 (by decide) (by decide) (by decide), r 18 (by decide) (by decide) (by decide), r 30 (by decide) (by decide) (by decide), r 45 (by decide) (by decide) (by decide), r 46 (by decide) (by decide) (by decide), r 49 (by decide) (by decide) (by decide)]
      match j with
      | 0 => rfl
      | 1 => rfl
      | 2 => rfl
      | 3 => rfl
      | 4 => rfl
      | 5 => rfl
      | 6 => exact absurd rfl e6
      | 7 => rfl
      | 8 => rfl
      | 9 => rfl
      | 10 => rfl
      | 11 => rfl
      | n + 12 => exact (if_neg (by omega)).symm
  rw [up2_n _ _ _ e29]
  match x with
  | 0 => exact r 2 (by decide) (by decide) (by decide)
  | 1 => exact r 3 (by decide) (by decide) (by decide)
  | 2 => exact r 5 (by decide) (by decide) (by decide)
  | 3 => exact r 6 (by decide) (by decide) (by decide)
  | 4 => exact r 7 (by decide) (by decide) (by decide)
  | 5 => exact r 8 (by decide) (by decide) (by decide)
  | 6 => exact r 9 (by decide) (by decide) (by decide)
  | 7 => exact r 10 (by decide) (by decide) (by decide)
  | 8 => exact r 11 (by decide) (by decide) (by decide)
  | 9 => exact mk_z (c0 4 8 (by decide) (by decide) (by decide) rfl)
  | 10 => exact r 14 (by decide) (by decide) (by decide)
  | 11 => exact r 15 (by decide) (by decide) (by decide)
  | 12 => exact r 16 (by decide) (by decide) (by decide)
  | 13 => exact r 17 (by decide) (by decide) (by decide)
  | 14 => exact mk_z (c0 18 4 (by decide) (by decide) (by decide) rfl)
  | 15 => exact mk_z (c0 18 4 (by decide) (by decide) (by decide) rfl)
  | 16 => exact mk_z (c0 18 4 (by decide) (by decide) (by decide) rfl)
  | 17 => exact mk_z (c0 18 4 (by decide) (by decide) (by decide) rfl)
  | 18 => exact absurd rfl e18
  | 19 => exact r 47 (by decide) (by decide) (by decide)
  | 20 => exact r 48 (by decide) (by decide) (by decide)
  | 21 => exact mk_z (c0 45 3 (by decide) (by decide) (by decide) rfl)
  | 22 => exact mk_z (c0 49 4 (by decide) (by decide) (by decide) rfl)
  | 23 => exact mk_z (c0 49 4 (by decide) (by decide) (by decide) rfl)
  | 24 => exact mk_z (c0 49 4 (by decide) (by decide) (by decide) rfl)
  | 25 => exact mk_z (c0 49 4 (by decide) (by decide) (by decide) rfl)
  | 26 => exact r 56 (by decide) (by decide) (by decide)
  | 27 => exact r 57 (by decide) (by decide) (by decide)
  | 28 => exact r 58 (by decide) (by decide) (by decide)
  | 29 => exact absurd rfl e29
  | 30 => exact mk_z (by rw [c0 30 2 (by decide) (by decide) (by decide) rfl])
  | 31 =>
    funext j
    show (if j / 200 < cl (tpE J 75 30 2) ∧ j % 200 < cl (tpE J 75 32 (4 * (j / 200) + 3)) then enc (tpE J 75 31 (160 * (j / 200) + j % 200)) else 0) = 0
    exact if_neg (fun y => by
      have := y.1
      rw [c0 30 2 (by decide) (by decide) (by decide) rfl] at this
      omega)
  | n + 32 => rfl
def sp_W_init : SpT := fun as S I L Post => as = [.ref 0] ∧ S = SP 1 [(0, 0, 0)] ∧ I 0 = (fun _ => 0) ∧ ∀ (I' : IM) (L' : LM), cE I' = E0 → Post none S5 I' L'
set_option maxHeartbeats 4000000 in
set_option maxRecDepth 100000 in
theorem c_W_init : Con mW_init 82 58 2761 sp_W_init := by
  refine con_of_X rfl fun G as S I L Post hs => ?_
  obtain ⟨rfl, rfl, hz, h1⟩ := hs
  refine ⟨1, Nat.le_of_ble_eq_true rfl, ?_⟩
  show X mW_init G _ (SP 1 [(0, 0, 0)]) I L 0 [.ref 0, .null] [] Post
  have hF : Fill 0 1 I I := Fill.start hz
  have fin : ∀ (J : IM) (LL : LM), Fill 0 59 I J → ∀ (r m : Nat), m + r = 75 → X mW_init G (82, 0, 0) S5 (tpE J m) LL 125 [.ref 0, .int (nI m)] [] Post := by
    intro J LL hF r
    induction r with
    | zero =>
      intro m hm
      obtain rfl : m = 75 := by omega
      refine x_iload_n dW_init_125 rfl ?_
      refine x_ldcS (i := 0) dW_init_126 rfl rfl rfl ?_
      -- at 128: .invokevirtual 76
      refine x_callT (As := []) (rest := [.int (nI 75)]) c_String_length ok_String_length ml_W_76 dW_init_128 rfl rfl rfl (by decide) rfl rfl ?_
      refine ⟨0, rfl, by decide, ?_⟩
      refine x_icmp_ge (tgt := 153) dW_init_131 (by decide) (fun _ => ?_) (fun h => absurd (Int32.le_refl _) h)
      refine x_aload_n dW_init_153 rfl ?_
      refine x_getR fl_W_40 rfl dW_init_154 rfl rfl rfl ?_
      -- at 157: .invokevirtual 90
      refine x_callV_0 c_Reader_reads5 ok_Reader_reads ml_W_90 dW_init_157 rfl rfl rfl rfl rfl ?_
      have ht24 : tpE J 75 24 = fL lawL := by
        unfold tpE
        rw [up2_n _ _ _ (by decide), upr_s]
        rfl
      have ht23 : tpE J 75 23 1 = nI 75 := by
        unfold tpE
        rw [up2_s, up1_s]
      refine ⟨75, rfl, rfl, ht23, by decide, fun a b c hp I' hFr h23 h29 hc hn wa wb wc => ?_, fun q hp => ?_⟩
      · rw [ht24, law_pt] at hp
        injection hp with hp
        injection hp with ha hp
        injection hp with hb hp
        subst ha hb hp
        refine x_if_eq (tgt := 175) dW_init_160 (by decide) (fun h => absurd h (by decide)) (fun _ => ?_)
        refine x_aload_n dW_init_163 rfl ?_
        refine x_getR fl_W_47 rfl dW_init_164 rfl rfl rfl ?_
        refine x_aload_n dW_init_167 rfl ?_
        refine x_getR fl_W_40 rfl dW_init_168 rfl rfl rfl ?_
        -- at 171: .invokevirtual 94
        have ht30 : I' 30 2 = nI 0 := by
          rw [hFr 30 (by decide)]
          unfold tpE
          rw [up2_n _ _ _ (by decide), upr_n _ _ (by decide)]
          exact hF.at (x := 0) rfl rfl rfl
        refine x_callV_1 c_Texts_add5 ok_Texts_add ml_W_94 dW_init_171 rfl rfl rfl rfl rfl ?_
        refine ⟨0, rfl, rfl, ht30, by decide, ?_⟩
        refine x_pop dW_init_174 rfl ?_
        refine x_aload_n dW_init_175 rfl ?_
        refine x_getR fl_W_40 rfl dW_init_176 rfl rfl rfl ?_
        -- at 179: .invokevirtual 98
        refine x_callV_0 c_Reader_clear5 ok_Reader_clear ml_W_98 dW_init_179 rfl rfl rfl rfl rfl ?_
        refine ⟨rfl, rfl, ?_⟩
        refine x_return dW_init_182 rfl ?_
        refine h1 _ _ ?_
        rw [cE_clr, cE_taU I' 0 LA LB LC ht30 (by decide) h29 hc hn (fun q hq => absurd hq (by omega)), clr_addT, cE_rd hFr h23, cE_first hF]
        rfl
      · rw [ht24, law_pt] at hp
        cases hp
    | succ r ih =>
      intro m hm
      obtain ⟨b, hb⟩ : ∃ b, lawL[m]? = some b := ⟨lawL[m]'(by show m < 75; omega), List.getElem?_eq_getElem _⟩
      refine x_iload_n dW_init_125 rfl ?_
      refine x_ldcS (i := 0) dW_init_126 rfl rfl rfl ?_
      -- at 128: .invokevirtual 76
      refine x_callT (As := []) (rest := [.int (nI m)]) c_String_length ok_String_length ml_W_76 dW_init_128 rfl rfl rfl (by decide) rfl rfl ?_
      refine ⟨0, rfl, by decide, ?_⟩
      refine x_icmp_ge (tgt := 153) dW_init_131 (by decide) (fun h => absurd h (nI_ge (b := 75) (by omega) (by omega))) (fun _ => ?_)
      refine x_aload_n dW_init_134 rfl ?_
      refine x_getR fl_W_40 rfl dW_init_135 rfl rfl rfl ?_
      refine x_ldcS (i := 0) dW_init_138 rfl rfl rfl ?_
      refine x_iload_n dW_init_140 rfl ?_
      -- at 141: .invokevirtual 82
      refine x_callT (As := [.int (nI m)]) (rest := [.ref 23]) c_String_charAt ok_String_charAt ml_W_82 dW_init_141 rfl rfl rfl (by decide) rfl rfl ?_
      refine ⟨0, m, rfl, by decide, by show m < 75; omega, ?_⟩
      have hb2 : (stB.getD 0 []).getD m 0 = b := by
        rw [← lawL_eq, List.getD_eq_getElem?_getD, hb]
        rfl
      rw [hb2]
      refine x_callV_1 c_Reader_put5 ok_Reader_put ml_W_86 dW_init_144 rfl rfl rfl rfl rfl ?_
      have ht23 : tpE J m 23 1 = nI m := by
        unfold tpE
        rw [up2_s, up1_s]
      refine ⟨m, b, rfl, rfl, ht23, by omega, ?_⟩
      rw [tpE_s hb]
      refine x_iincp_1 dW_init_147 rfl rfl ?_
      refine x_goto (tgt := 125) dW_init_150 (by decide) ?_
      -- at 125: .iload_n 1
      rw [nI_1]
      exact ih (m + 1) (by omega)
  refine x_aload_n dW_init_0 rfl ?_
  refine x_objInit dW_init_1 ml_W_3 im_obj co_obj rfl rfl ?_
  refine x_aload_n dW_init_4 rfl ?_
  refine x_newOb (ci := 7) (nq := 3) (n := 1) dW_init_5 (q := _) rfl cl_W_9 in_Town it_Town rfl rfl rfl ?_
  refine x_dup dW_init_8 rfl ?_
  refine x_callI_0 c_Town_init ok_Town_init rfl ml_W_11 dW_init_9 rfl rfl rfl rfl rfl ?_
  refine ⟨rfl, rfl, upr_s _ _ _, fun J2 L2 hF2 => ?_⟩
  replace hF := hF.app hF2 (by decide) (by decide)
  clear hF2
  refine x_putSP (j := 0) fl_W_12 rfl dW_init_12 (by decide) rfl rfl rfl (by decide) (by decide) (fun _ => rfl) (fun _ => rfl) ?_
  refine x_aload_n dW_init_15 rfl ?_
  refine x_newOb (ci := 0) (nq := 9) (n := 4) dW_init_16 (q := _) rfl cl_W_16 in_Folk it_Folk rfl rfl rfl ?_
  refine x_dup dW_init_19 rfl ?_
  refine x_callIN_0 c_Folk_init ok_Folk_init rfl nw_W_18 dW_init_20 rfl rfl rfl rfl rfl ?_
  refine ⟨rfl, rfl, upr_s _ _ _, fun J2 L2 hF2 => ?_⟩
  replace hF := hF.app hF2 (by decide) (by decide)
  clear hF2
  refine x_putSP (j := 1) fl_W_19 rfl dW_init_23 (by decide) rfl rfl rfl (by decide) (by decide) (fun _ => rfl) (fun _ => rfl) ?_
  refine x_aload_n dW_init_26 rfl ?_
  refine x_newOb (ci := 8) (nq := 5) (n := 13) dW_init_27 (q := _) rfl cl_W_23 in_Vows it_Vows rfl rfl rfl ?_
  refine x_dup dW_init_30 rfl ?_
  refine x_callIN_0 c_Vows_init ok_Vows_init rfl nw_W_25 dW_init_31 rfl rfl rfl rfl rfl ?_
  refine ⟨rfl, rfl, upr_s _ _ _, fun J2 L2 hF2 => ?_⟩
  replace hF := hF.app hF2 (by decide) (by decide)
  clear hF2
  refine x_putSP (j := 2) fl_W_26 rfl dW_init_34 (by decide) rfl rfl rfl (by decide) (by decide) (fun _ => rfl) (fun _ => rfl) ?_
  refine x_aload_n dW_init_37 rfl ?_
  refine x_newOb (ci := 4) (nq := 5) (n := 18) dW_init_38 (q := _) rfl cl_W_30 in_Sayings it_Sayings rfl rfl rfl ?_
  refine x_dup dW_init_41 rfl ?_
  refine x_callIN_0 c_Sayings_init ok_Sayings_init rfl nw_W_32 dW_init_42 rfl rfl rfl rfl rfl ?_
  refine ⟨rfl, rfl, upr_s _ _ _, fun J2 L2 hF2 => ?_⟩
  replace hF := hF.app hF2 (by decide) (by decide)
  clear hF2
  refine x_putSP (j := 3) fl_W_33 rfl dW_init_45 (by decide) rfl rfl rfl (by decide) (by decide) (fun _ => rfl) (fun _ => rfl) ?_
  refine x_aload_n dW_init_48 rfl ?_
  refine x_newOb (ci := 3) (nq := 10) (n := 23) dW_init_49 (q := _) rfl cl_W_37 in_Reader it_Reader rfl rfl rfl ?_
  refine x_dup dW_init_52 rfl ?_
  refine x_callIN_0 c_Reader_init ok_Reader_init rfl nw_W_39 dW_init_53 rfl rfl rfl rfl rfl ?_
  refine ⟨rfl, rfl, upr_s _ _ _, fun J2 L2 hF2 => ?_⟩
  replace hF := hF.app hF2 (by decide) (by decide)
  clear hF2
  refine x_putSP (j := 4) fl_W_40 rfl dW_init_56 (by decide) rfl rfl rfl (by decide) (by decide) (fun _ => rfl) (fun _ => rfl) ?_
  refine x_aload_n dW_init_59 rfl ?_
  refine x_newOb (ci := 6) (nq := 6) (n := 30) dW_init_60 (q := _) rfl cl_W_44 in_Texts it_Texts rfl rfl rfl ?_
  refine x_dup dW_init_63 rfl ?_
  refine x_callIN_0 c_Texts_init ok_Texts_init rfl nw_W_46 dW_init_64 rfl rfl rfl rfl rfl ?_
  refine ⟨rfl, rfl, upr_s _ _ _, fun J2 L2 hF2 => ?_⟩
  replace hF := hF.app hF2 (by decide) (by decide)
  clear hF2
  refine x_putSP (j := 5) fl_W_47 rfl dW_init_67 (by decide) rfl rfl rfl (by decide) (by decide) (fun _ => rfl) (fun _ => rfl) ?_
  refine x_aload_n dW_init_70 rfl ?_
  refine x_newOb (ci := 2) (nq := 15) (n := 35) dW_init_71 (q := _) rfl cl_W_51 in_Ledger it_Ledger rfl rfl rfl ?_
  refine x_dup dW_init_74 rfl ?_
  refine x_aload_n dW_init_75 rfl ?_
  refine x_getR fl_W_12 rfl dW_init_76 rfl rfl rfl ?_
  refine x_aload_n dW_init_79 rfl ?_
  refine x_getR fl_W_19 rfl dW_init_80 rfl rfl rfl ?_
  refine x_aload_n dW_init_83 rfl ?_
  refine x_getR fl_W_26 rfl dW_init_84 rfl rfl rfl ?_
  refine x_aload_n dW_init_87 rfl ?_
  refine x_getR fl_W_33 rfl dW_init_88 rfl rfl rfl ?_
  refine x_aload_n dW_init_91 rfl ?_
  refine x_getR fl_W_47 rfl dW_init_92 rfl rfl rfl ?_
  refine x_callI_5 c_Ledger_init ok_Ledger_init rfl ml_W_53 dW_init_95 rfl rfl rfl rfl rfl ?_
  refine ⟨rfl, rfl, upr_s _ _ _, fun J2 L2 hF2 => ?_⟩
  replace hF := hF.app hF2 (by decide) (by decide)
  clear hF2
  refine x_putSP (j := 6) fl_W_56 rfl dW_init_98 (by decide) rfl rfl rfl (by decide) (by decide) (fun _ => rfl) (fun _ => rfl) ?_
  refine x_aload_n dW_init_101 rfl ?_
  refine x_newOb (ci := 1) (nq := 6) (n := 45) dW_init_102 (q := _) rfl cl_W_60 in_Image it_Image rfl rfl rfl ?_
  refine x_dup dW_init_105 rfl ?_
  refine x_callIN_0 c_Image_init ok_Image_init rfl nw_W_62 dW_init_106 rfl rfl rfl rfl rfl ?_
  refine ⟨rfl, rfl, upr_s _ _ _, fun J2 L2 hF2 => ?_⟩
  replace hF := hF.app hF2 (by decide) (by decide)
  clear hF2
  refine x_putSP (j := 7) fl_W_63 rfl dW_init_109 (by decide) rfl rfl rfl (by decide) (by decide) (fun _ => rfl) (fun _ => rfl) ?_
  refine x_aload_n dW_init_112 rfl ?_
  refine x_newOb (ci := 5) (nq := 3) (n := 55) dW_init_113 (q := _) rfl cl_W_67 in_Sheets it_Sheets rfl rfl rfl ?_
  refine x_dup dW_init_116 rfl ?_
  refine x_callIN_0 c_Sheets_init ok_Sheets_init rfl nw_W_69 dW_init_117 rfl rfl rfl rfl rfl ?_
  refine ⟨rfl, rfl, upr_s _ _ _, fun J2 L2 hF2 => ?_⟩
  replace hF := hF.app hF2 (by decide) (by decide)
  clear hF2
  refine x_putSP (j := 8) fl_W_70 rfl dW_init_120 (by decide) rfl rfl rfl (by decide) (by decide) (fun _ => rfl) (fun _ => rfl) ?_
  rw [SP_close (by decide) (fun _ => rfl), SP_59]
  refine x_iconst (v := 0) dW_init_123 rfl ?_
  refine x_istoren_1 dW_init_124 rfl rfl ?_
  -- at 125: .iload_n 1
  have hp := fin _ L2 hF 75 0 rfl
  rw [← tpE_0 (hF.2 24 (by decide) (by decide)) (hF.at (i := 23) (j := 1) (x := 0) rfl rfl rfl)] at hp
  exact hp
end
section
-- 87.ri
/-! the reference's constructor -/
set_option maxHeartbeats 4000000 in
set_option maxRecDepth 100000 in
theorem ri_69_0 {G : WG} {J : IM} {L : LM} {Post : PostT} {r : Nat × Nat × Nat} (h : X mR_init G r (SP 70 [(59, 11, 0)]) (upr J 69 (fL (List.take 8 m8L))) L 120 [.ref 59, .null] [.ref 69, .ref 59] Post) : X mR_init G r (SP 70 [(59, 11, 0)]) (upr J 69 (fL (List.take 0 m8L))) L 86 [.ref 59, .null] [.ref 69, .ref 59] Post := by
  refine x_dup dR_init_86 rfl ?_
  refine x_iconst (v := 0) dR_init_87 rfl ?_
  refine x_iconst (v := -1) dR_init_88 rfl ?_
  refine x_iastJ (j := 0) dR_init_89 rfl rfl rfl (by decide) ?_
  rw [fL_t (l := m8L) (i := 0) rfl]
  refine x_dup dR_init_90 rfl ?_
  refine x_iconst (v := 1) dR_init_91 rfl ?_
  refine x_iconst (v := -1) dR_init_92 rfl ?_
  refine x_iastJ (j := 1) dR_init_93 rfl rfl rfl (by decide) ?_
  rw [fL_t (l := m8L) (i := 1) rfl]
  refine x_dup dR_init_94 rfl ?_
  refine x_iconst (v := 2) dR_init_95 rfl ?_
  refine x_iconst (v := -1) dR_init_96 rfl ?_
  refine x_iastJ (j := 2) dR_init_97 rfl rfl rfl (by decide) ?_
  rw [fL_t (l := m8L) (i := 2) rfl]
  refine x_dup dR_init_98 rfl ?_
  refine x_iconst (v := 3) dR_init_99 rfl ?_
  refine x_iconst (v := -1) dR_init_100 rfl ?_
  refine x_iastJ (j := 3) dR_init_101 rfl rfl rfl (by decide) ?_
  rw [fL_t (l := m8L) (i := 3) rfl]
  refine x_dup dR_init_102 rfl ?_
  refine x_iconst (v := 4) dR_init_103 rfl ?_
  refine x_iconst (v := -1) dR_init_104 rfl ?_
  refine x_iastJ (j := 4) dR_init_105 rfl rfl rfl (by decide) ?_
  rw [fL_t (l := m8L) (i := 4) rfl]
  refine x_dup dR_init_106 rfl ?_
  refine x_iconst (v := 5) dR_init_107 rfl ?_
  refine x_iconst (v := -1) dR_init_108 rfl ?_
  refine x_iastJ (j := 5) dR_init_109 rfl rfl rfl (by decide) ?_
  rw [fL_t (l := m8L) (i := 5) rfl]
  refine x_dup dR_init_110 rfl ?_
  refine x_bipush (v := 6) dR_init_111 rfl ?_
  refine x_iconst (v := -1) dR_init_113 rfl ?_
  refine x_iastJ (j := 6) dR_init_114 rfl rfl rfl (by decide) ?_
  rw [fL_t (l := m8L) (i := 6) rfl]
  refine x_dup dR_init_115 rfl ?_
  refine x_bipush (v := 7) dR_init_116 rfl ?_
  refine x_iconst (v := -1) dR_init_118 rfl ?_
  refine x_iastJ (j := 7) dR_init_119 rfl rfl rfl (by decide) ?_
  rw [fL_t (l := m8L) (i := 7) rfl]
  exact h
set_option maxHeartbeats 4000000 in
set_option maxRecDepth 100000 in
theorem ri_88_0 {G : WG} {J : IM} {L : LM} {Post : PostT} {r : Nat × Nat × Nat} (h : X mR_init G r (SP 89 [(59, 40, 0)]) (upr J 88 (fL (List.take 4 m4L))) L 289 [.ref 59, .null] [.ref 88, .ref 59] Post) : X mR_init G r (SP 89 [(59, 40, 0)]) (upr J 88 (fL (List.take 0 m4L))) L 273 [.ref 59, .null] [.ref 88, .ref 59] Post := by
  refine x_dup dR_init_273 rfl ?_
  refine x_iconst (v := 0) dR_init_274 rfl ?_
  refine x_iconst (v := -1) dR_init_275 rfl ?_
  refine x_iastJ (j := 0) dR_init_276 rfl rfl rfl (by decide) ?_
  rw [fL_t (l := m4L) (i := 0) rfl]
  refine x_dup dR_init_277 rfl ?_
  refine x_iconst (v := 1) dR_init_278 rfl ?_
  refine x_iconst (v := -1) dR_init_279 rfl ?_
  refine x_iastJ (j := 1) dR_init_280 rfl rfl rfl (by decide) ?_
  rw [fL_t (l := m4L) (i := 1) rfl]
  refine x_dup dR_init_281 rfl ?_
  refine x_iconst (v := 2) dR_init_282 rfl ?_
  refine x_iconst (v := -1) dR_init_283 rfl ?_
  refine x_iastJ (j := 2) dR_init_284 rfl rfl rfl (by decide) ?_
  rw [fL_t (l := m4L) (i := 2) rfl]
  refine x_dup dR_init_285 rfl ?_
  refine x_iconst (v := 3) dR_init_286 rfl ?_
  refine x_iconst (v := -1) dR_init_287 rfl ?_
  refine x_iastJ (j := 3) dR_init_288 rfl rfl rfl (by decide) ?_
  rw [fL_t (l := m4L) (i := 3) rfl]
  exact h
set_option maxHeartbeats 4000000 in
set_option maxRecDepth 100000 in
theorem ri_91_0 {G : WG} {J : IM} {L : LM} {Post : PostT} {r : Nat × Nat × Nat} (h : X mR_init G r (SP 92 [(59, 43, 0)]) (upr J 91 (fL (List.take 15 lawL))) L 397 [.ref 59, .null] [.ref 91, .ref 59] Post) : X mR_init G r (SP 92 [(59, 43, 0)]) (upr J 91 (fL (List.take 0 lawL))) L 313 [.ref 59, .null] [.ref 91, .ref 59] Post := by
  refine x_dup dR_init_313 rfl ?_
  refine x_iconst (v := 0) dR_init_314 rfl ?_
  refine x_bipush (v := 104) dR_init_315 rfl ?_
  refine x_iastJ (j := 0) dR_init_317 rfl rfl rfl (by decide) ?_
  rw [fL_t (l := lawL) (i := 0) rfl]
  refine x_dup dR_init_318 rfl ?_
  refine x_iconst (v := 1) dR_init_319 rfl ?_
  refine x_bipush (v := 101) dR_init_320 rfl ?_
  refine x_iastJ (j := 1) dR_init_322 rfl rfl rfl (by decide) ?_
  rw [fL_t (l := lawL) (i := 1) rfl]
  refine x_dup dR_init_323 rfl ?_
  refine x_iconst (v := 2) dR_init_324 rfl ?_
  refine x_bipush (v := 97) dR_init_325 rfl ?_
  refine x_iastJ (j := 2) dR_init_327 rfl rfl rfl (by decide) ?_
  rw [fL_t (l := lawL) (i := 2) rfl]
  refine x_dup dR_init_328 rfl ?_
  refine x_iconst (v := 3) dR_init_329 rfl ?_
  refine x_bipush (v := 114) dR_init_330 rfl ?_
  refine x_iastJ (j := 3) dR_init_332 rfl rfl rfl (by decide) ?_
  rw [fL_t (l := lawL) (i := 3) rfl]
  refine x_dup dR_init_333 rfl ?_
  refine x_iconst (v := 4) dR_init_334 rfl ?_
  refine x_bipush (v := 100) dR_init_335 rfl ?_
  refine x_iastJ (j := 4) dR_init_337 rfl rfl rfl (by decide) ?_
  rw [fL_t (l := lawL) (i := 4) rfl]
  refine x_dup dR_init_338 rfl ?_
  refine x_iconst (v := 5) dR_init_339 rfl ?_
  refine x_bipush (v := 32) dR_init_340 rfl ?_
  refine x_iastJ (j := 5) dR_init_342 rfl rfl rfl (by decide) ?_
  rw [fL_t (l := lawL) (i := 5) rfl]
  refine x_dup dR_init_343 rfl ?_
  refine x_bipush (v := 6) dR_init_344 rfl ?_
  refine x_bipush (v := 52) dR_init_346 rfl ?_
  refine x_iastJ (j := 6) dR_init_348 rfl rfl rfl (by decide) ?_
  rw [fL_t (l := lawL) (i := 6) rfl]
  refine x_dup dR_init_349 rfl ?_
  refine x_bipush (v := 7) dR_init_350 rfl ?_
  refine x_bipush (v := 48) dR_init_352 rfl ?_
  refine x_iastJ (j := 7) dR_init_354 rfl rfl rfl (by decide) ?_
  rw [fL_t (l := lawL) (i := 7) rfl]
  refine x_dup dR_init_355 rfl ?_
  refine x_bipush (v := 8) dR_init_356 rfl ?_
  refine x_bipush (v := 32) dR_init_358 rfl ?_
  refine x_iastJ (j := 8) dR_init_360 rfl rfl rfl (by decide) ?_
  rw [fL_t (l := lawL) (i := 8) rfl]
  refine x_dup dR_init_361 rfl ?_
  refine x_bipush (v := 9) dR_init_362 rfl ?_
  refine x_bipush (v := 43) dR_init_364 rfl ?_
  refine x_iastJ (j := 9) dR_init_366 rfl rfl rfl (by decide) ?_
  rw [fL_t (l := lawL) (i := 9) rfl]
  refine x_dup dR_init_367 rfl ?_
  refine x_bipush (v := 10) dR_init_368 rfl ?_
  refine x_bipush (v := 32) dR_init_370 rfl ?_
  refine x_iastJ (j := 10) dR_init_372 rfl rfl rfl (by decide) ?_
  rw [fL_t (l := lawL) (i := 10) rfl]
  refine x_dup dR_init_373 rfl ?_
  refine x_bipush (v := 11) dR_init_374 rfl ?_
  refine x_bipush (v := 108) dR_init_376 rfl ?_
  refine x_iastJ (j := 11) dR_init_378 rfl rfl rfl (by decide) ?_
  rw [fL_t (l := lawL) (i := 11) rfl]
  refine x_dup dR_init_379 rfl ?_
  refine x_bipush (v := 12) dR_init_380 rfl ?_
  refine x_bipush (v := 111) dR_init_382 rfl ?_
  refine x_iastJ (j := 12) dR_init_384 rfl rfl rfl (by decide) ?_
  rw [fL_t (l := lawL) (i := 12) rfl]
  refine x_dup dR_init_385 rfl ?_
  refine x_bipush (v := 13) dR_init_386 rfl ?_
  refine x_bipush (v := 117) dR_init_388 rfl ?_
  refine x_iastJ (j := 13) dR_init_390 rfl rfl rfl (by decide) ?_
  rw [fL_t (l := lawL) (i := 13) rfl]
  refine x_dup dR_init_391 rfl ?_
  refine x_bipush (v := 14) dR_init_392 rfl ?_
  refine x_bipush (v := 100) dR_init_394 rfl ?_
  refine x_iastJ (j := 14) dR_init_396 rfl rfl rfl (by decide) ?_
  rw [fL_t (l := lawL) (i := 14) rfl]
  exact h
set_option maxHeartbeats 4000000 in
set_option maxRecDepth 100000 in
theorem ri_91_15 {G : WG} {J : IM} {L : LM} {Post : PostT} {r : Nat × Nat × Nat} (h : X mR_init G r (SP 92 [(59, 43, 0)]) (upr J 91 (fL (List.take 30 lawL))) L 487 [.ref 59, .null] [.ref 91, .ref 59] Post) : X mR_init G r (SP 92 [(59, 43, 0)]) (upr J 91 (fL (List.take 15 lawL))) L 397 [.ref 59, .null] [.ref 91, .ref 59] Post := by
  refine x_dup dR_init_397 rfl ?_
  refine x_bipush (v := 15) dR_init_398 rfl ?_
  refine x_bipush (v := 32) dR_init_400 rfl ?_
  refine x_iastJ (j := 15) dR_init_402 rfl rfl rfl (by decide) ?_
  rw [fL_t (l := lawL) (i := 15) rfl]
  refine x_dup dR_init_403 rfl ?_
  refine x_bipush (v := 16) dR_init_404 rfl ?_
  refine x_bipush (v := 42) dR_init_406 rfl ?_
  refine x_iastJ (j := 16) dR_init_408 rfl rfl rfl (by decide) ?_
  rw [fL_t (l := lawL) (i := 16) rfl]
  refine x_dup dR_init_409 rfl ?_
  refine x_bipush (v := 17) dR_init_410 rfl ?_
  refine x_bipush (v := 32) dR_init_412 rfl ?_
  refine x_iastJ (j := 17) dR_init_414 rfl rfl rfl (by decide) ?_
  rw [fL_t (l := lawL) (i := 17) rfl]
  refine x_dup dR_init_415 rfl ?_
  refine x_bipush (v := 18) dR_init_416 rfl ?_
  refine x_bipush (v := 49) dR_init_418 rfl ?_
  refine x_iastJ (j := 18) dR_init_420 rfl rfl rfl (by decide) ?_
  rw [fL_t (l := lawL) (i := 18) rfl]
  refine x_dup dR_init_421 rfl ?_
  refine x_bipush (v := 19) dR_init_422 rfl ?_
  refine x_bipush (v := 50) dR_init_424 rfl ?_
  refine x_iastJ (j := 19) dR_init_426 rfl rfl rfl (by decide) ?_
  rw [fL_t (l := lawL) (i := 19) rfl]
  refine x_dup dR_init_427 rfl ?_
  refine x_bipush (v := 20) dR_init_428 rfl ?_
  refine x_bipush (v := 32) dR_init_430 rfl ?_
  refine x_iastJ (j := 20) dR_init_432 rfl rfl rfl (by decide) ?_
  rw [fL_t (l := lawL) (i := 20) rfl]
  refine x_dup dR_init_433 rfl ?_
  refine x_bipush (v := 21) dR_init_434 rfl ?_
  refine x_bipush (v := 45) dR_init_436 rfl ?_
  refine x_iastJ (j := 21) dR_init_438 rfl rfl rfl (by decide) ?_
  rw [fL_t (l := lawL) (i := 21) rfl]
  refine x_dup dR_init_439 rfl ?_
  refine x_bipush (v := 22) dR_init_440 rfl ?_
  refine x_bipush (v := 32) dR_init_442 rfl ?_
  refine x_iastJ (j := 22) dR_init_444 rfl rfl rfl (by decide) ?_
  rw [fL_t (l := lawL) (i := 22) rfl]
  refine x_dup dR_init_445 rfl ?_
  refine x_bipush (v := 23) dR_init_446 rfl ?_
  refine x_bipush (v := 102) dR_init_448 rfl ?_
  refine x_iastJ (j := 23) dR_init_450 rfl rfl rfl (by decide) ?_
  rw [fL_t (l := lawL) (i := 23) rfl]
  refine x_dup dR_init_451 rfl ?_
  refine x_bipush (v := 24) dR_init_452 rfl ?_
  refine x_bipush (v := 97) dR_init_454 rfl ?_
  refine x_iastJ (j := 24) dR_init_456 rfl rfl rfl (by decide) ?_
  rw [fL_t (l := lawL) (i := 24) rfl]
  refine x_dup dR_init_457 rfl ?_
  refine x_bipush (v := 25) dR_init_458 rfl ?_
  refine x_bipush (v := 114) dR_init_460 rfl ?_
  refine x_iastJ (j := 25) dR_init_462 rfl rfl rfl (by decide) ?_
  rw [fL_t (l := lawL) (i := 25) rfl]
  refine x_dup dR_init_463 rfl ?_
  refine x_bipush (v := 26) dR_init_464 rfl ?_
  refine x_bipush (v := 32) dR_init_466 rfl ?_
  refine x_iastJ (j := 26) dR_init_468 rfl rfl rfl (by decide) ?_
  rw [fL_t (l := lawL) (i := 26) rfl]
  refine x_dup dR_init_469 rfl ?_
  refine x_bipush (v := 27) dR_init_470 rfl ?_
  refine x_bipush (v := 42) dR_init_472 rfl ?_
  refine x_iastJ (j := 27) dR_init_474 rfl rfl rfl (by decide) ?_
  rw [fL_t (l := lawL) (i := 27) rfl]
  refine x_dup dR_init_475 rfl ?_
  refine x_bipush (v := 28) dR_init_476 rfl ?_
  refine x_bipush (v := 32) dR_init_478 rfl ?_
  refine x_iastJ (j := 28) dR_init_480 rfl rfl rfl (by decide) ?_
  rw [fL_t (l := lawL) (i := 28) rfl]
  refine x_dup dR_init_481 rfl ?_
  refine x_bipush (v := 29) dR_init_482 rfl ?_
  refine x_bipush (v := 49) dR_init_484 rfl ?_
  refine x_iastJ (j := 29) dR_init_486 rfl rfl rfl (by decide) ?_
  rw [fL_t (l := lawL) (i := 29) rfl]
  exact h
set_option maxHeartbeats 4000000 in
set_option maxRecDepth 100000 in
theorem ri_91_30 {G : WG} {J : IM} {L : LM} {Post : PostT} {r : Nat × Nat × Nat} (h : X mR_init G r (SP 92 [(59, 43, 0)]) (upr J 91 (fL (List.take 45 lawL))) L 577 [.ref 59, .null] [.ref 91, .ref 59] Post) : X mR_init G r (SP 92 [(59, 43, 0)]) (upr J 91 (fL (List.take 30 lawL))) L 487 [.ref 59, .null] [.ref 91, .ref 59] Post := by
  refine x_dup dR_init_487 rfl ?_
  refine x_bipush (v := 30) dR_init_488 rfl ?_
  refine x_bipush (v := 53) dR_init_490 rfl ?_
  refine x_iastJ (j := 30) dR_init_492 rfl rfl rfl (by decide) ?_
  rw [fL_t (l := lawL) (i := 30) rfl]
  refine x_dup dR_init_493 rfl ?_
  refine x_bipush (v := 31) dR_init_494 rfl ?_
  refine x_bipush (v := 32) dR_init_496 rfl ?_
  refine x_iastJ (j := 31) dR_init_498 rfl rfl rfl (by decide) ?_
  rw [fL_t (l := lawL) (i := 31) rfl]
  refine x_dup dR_init_499 rfl ?_
  refine x_bipush (v := 32) dR_init_500 rfl ?_
  refine x_bipush (v := 43) dR_init_502 rfl ?_
  refine x_iastJ (j := 32) dR_init_504 rfl rfl rfl (by decide) ?_
  rw [fL_t (l := lawL) (i := 32) rfl]
  refine x_dup dR_init_505 rfl ?_
  refine x_bipush (v := 33) dR_init_506 rfl ?_
  refine x_bipush (v := 32) dR_init_508 rfl ?_
  refine x_iastJ (j := 33) dR_init_510 rfl rfl rfl (by decide) ?_
  rw [fL_t (l := lawL) (i := 33) rfl]
  refine x_dup dR_init_511 rfl ?_
  refine x_bipush (v := 34) dR_init_512 rfl ?_
  refine x_bipush (v := 101) dR_init_514 rfl ?_
  refine x_iastJ (j := 34) dR_init_516 rfl rfl rfl (by decide) ?_
  rw [fL_t (l := lawL) (i := 34) rfl]
  refine x_dup dR_init_517 rfl ?_
  refine x_bipush (v := 35) dR_init_518 rfl ?_
  refine x_bipush (v := 97) dR_init_520 rfl ?_
  refine x_iastJ (j := 35) dR_init_522 rfl rfl rfl (by decide) ?_
  rw [fL_t (l := lawL) (i := 35) rfl]
  refine x_dup dR_init_523 rfl ?_
  refine x_bipush (v := 36) dR_init_524 rfl ?_
  refine x_bipush (v := 114) dR_init_526 rfl ?_
  refine x_iastJ (j := 36) dR_init_528 rfl rfl rfl (by decide) ?_
  rw [fL_t (l := lawL) (i := 36) rfl]
  refine x_dup dR_init_529 rfl ?_
  refine x_bipush (v := 37) dR_init_530 rfl ?_
  refine x_bipush (v := 32) dR_init_532 rfl ?_
  refine x_iastJ (j := 37) dR_init_534 rfl rfl rfl (by decide) ?_
  rw [fL_t (l := lawL) (i := 37) rfl]
  refine x_dup dR_init_535 rfl ?_
  refine x_bipush (v := 38) dR_init_536 rfl ?_
  refine x_bipush (v := 42) dR_init_538 rfl ?_
  refine x_iastJ (j := 38) dR_init_540 rfl rfl rfl (by decide) ?_
  rw [fL_t (l := lawL) (i := 38) rfl]
  refine x_dup dR_init_541 rfl ?_
  refine x_bipush (v := 39) dR_init_542 rfl ?_
  refine x_bipush (v := 32) dR_init_544 rfl ?_
  refine x_iastJ (j := 39) dR_init_546 rfl rfl rfl (by decide) ?_
  rw [fL_t (l := lawL) (i := 39) rfl]
  refine x_dup dR_init_547 rfl ?_
  refine x_bipush (v := 40) dR_init_548 rfl ?_
  refine x_bipush (v := 51) dR_init_550 rfl ?_
  refine x_iastJ (j := 40) dR_init_552 rfl rfl rfl (by decide) ?_
  rw [fL_t (l := lawL) (i := 40) rfl]
  refine x_dup dR_init_553 rfl ?_
  refine x_bipush (v := 41) dR_init_554 rfl ?_
  refine x_bipush (v := 32) dR_init_556 rfl ?_
  refine x_iastJ (j := 41) dR_init_558 rfl rfl rfl (by decide) ?_
  rw [fL_t (l := lawL) (i := 41) rfl]
  refine x_dup dR_init_559 rfl ?_
  refine x_bipush (v := 42) dR_init_560 rfl ?_
  refine x_bipush (v := 59) dR_init_562 rfl ?_
  refine x_iastJ (j := 42) dR_init_564 rfl rfl rfl (by decide) ?_
  rw [fL_t (l := lawL) (i := 42) rfl]
  refine x_dup dR_init_565 rfl ?_
  refine x_bipush (v := 43) dR_init_566 rfl ?_
  refine x_bipush (v := 32) dR_init_568 rfl ?_
  refine x_iastJ (j := 43) dR_init_570 rfl rfl rfl (by decide) ?_
  rw [fL_t (l := lawL) (i := 43) rfl]
  refine x_dup dR_init_571 rfl ?_
  refine x_bipush (v := 44) dR_init_572 rfl ?_
  refine x_bipush (v := 115) dR_init_574 rfl ?_
  refine x_iastJ (j := 44) dR_init_576 rfl rfl rfl (by decide) ?_
  rw [fL_t (l := lawL) (i := 44) rfl]
  exact h
set_option maxHeartbeats 4000000 in
set_option maxRecDepth 100000 in
theorem ri_91_45 {G : WG} {J : IM} {L : LM} {Post : PostT} {r : Nat × Nat × Nat} (h : X mR_init G r (SP 92 [(59, 43, 0)]) (upr J 91 (fL (List.take 60 lawL))) L 667 [.ref 59, .null] [.ref 91, .ref 59] Post) : X mR_init G r (SP 92 [(59, 43, 0)]) (upr J 91 (fL (List.take 45 lawL))) L 577 [.ref 59, .null] [.ref 91, .ref 59] Post := by
  refine x_dup dR_init_577 rfl ?_
  refine x_bipush (v := 45) dR_init_578 rfl ?_
  refine x_bipush (v := 104) dR_init_580 rfl ?_
  refine x_iastJ (j := 45) dR_init_582 rfl rfl rfl (by decide) ?_
  rw [fL_t (l := lawL) (i := 45) rfl]
  refine x_dup dR_init_583 rfl ?_
  refine x_bipush (v := 46) dR_init_584 rfl ?_
  refine x_bipush (v := 97) dR_init_586 rfl ?_
  refine x_iastJ (j := 46) dR_init_588 rfl rfl rfl (by decide) ?_
  rw [fL_t (l := lawL) (i := 46) rfl]
  refine x_dup dR_init_589 rfl ?_
  refine x_bipush (v := 47) dR_init_590 rfl ?_
  refine x_bipush (v := 114) dR_init_592 rfl ?_
  refine x_iastJ (j := 47) dR_init_594 rfl rfl rfl (by decide) ?_
  rw [fL_t (l := lawL) (i := 47) rfl]
  refine x_dup dR_init_595 rfl ?_
  refine x_bipush (v := 48) dR_init_596 rfl ?_
  refine x_bipush (v := 101) dR_init_598 rfl ?_
  refine x_iastJ (j := 48) dR_init_600 rfl rfl rfl (by decide) ?_
  rw [fL_t (l := lawL) (i := 48) rfl]
  refine x_dup dR_init_601 rfl ?_
  refine x_bipush (v := 49) dR_init_602 rfl ?_
  refine x_bipush (v := 32) dR_init_604 rfl ?_
  refine x_iastJ (j := 49) dR_init_606 rfl rfl rfl (by decide) ?_
  rw [fL_t (l := lawL) (i := 49) rfl]
  refine x_dup dR_init_607 rfl ?_
  refine x_bipush (v := 50) dR_init_608 rfl ?_
  refine x_bipush (v := 110) dR_init_610 rfl ?_
  refine x_iastJ (j := 50) dR_init_612 rfl rfl rfl (by decide) ?_
  rw [fL_t (l := lawL) (i := 50) rfl]
  refine x_dup dR_init_613 rfl ?_
  refine x_bipush (v := 51) dR_init_614 rfl ?_
  refine x_bipush (v := 101) dR_init_616 rfl ?_
  refine x_iastJ (j := 51) dR_init_618 rfl rfl rfl (by decide) ?_
  rw [fL_t (l := lawL) (i := 51) rfl]
  refine x_dup dR_init_619 rfl ?_
  refine x_bipush (v := 52) dR_init_620 rfl ?_
  refine x_bipush (v := 101) dR_init_622 rfl ?_
  refine x_iastJ (j := 52) dR_init_624 rfl rfl rfl (by decide) ?_
  rw [fL_t (l := lawL) (i := 52) rfl]
  refine x_dup dR_init_625 rfl ?_
  refine x_bipush (v := 53) dR_init_626 rfl ?_
  refine x_bipush (v := 100) dR_init_628 rfl ?_
  refine x_iastJ (j := 53) dR_init_630 rfl rfl rfl (by decide) ?_
  rw [fL_t (l := lawL) (i := 53) rfl]
  refine x_dup dR_init_631 rfl ?_
  refine x_bipush (v := 54) dR_init_632 rfl ?_
  refine x_bipush (v := 32) dR_init_634 rfl ?_
  refine x_iastJ (j := 54) dR_init_636 rfl rfl rfl (by decide) ?_
  rw [fL_t (l := lawL) (i := 54) rfl]
  refine x_dup dR_init_637 rfl ?_
  refine x_bipush (v := 55) dR_init_638 rfl ?_
  refine x_bipush (v := 59) dR_init_640 rfl ?_
  refine x_iastJ (j := 55) dR_init_642 rfl rfl rfl (by decide) ?_
  rw [fL_t (l := lawL) (i := 55) rfl]
  refine x_dup dR_init_643 rfl ?_
  refine x_bipush (v := 56) dR_init_644 rfl ?_
  refine x_bipush (v := 32) dR_init_646 rfl ?_
  refine x_iastJ (j := 56) dR_init_648 rfl rfl rfl (by decide) ?_
  rw [fL_t (l := lawL) (i := 56) rfl]
  refine x_dup dR_init_649 rfl ?_
  refine x_bipush (v := 57) dR_init_650 rfl ?_
  refine x_bipush (v := 112) dR_init_652 rfl ?_
  refine x_iastJ (j := 57) dR_init_654 rfl rfl rfl (by decide) ?_
  rw [fL_t (l := lawL) (i := 57) rfl]
  refine x_dup dR_init_655 rfl ?_
  refine x_bipush (v := 58) dR_init_656 rfl ?_
  refine x_bipush (v := 97) dR_init_658 rfl ?_
  refine x_iastJ (j := 58) dR_init_660 rfl rfl rfl (by decide) ?_
  rw [fL_t (l := lawL) (i := 58) rfl]
  refine x_dup dR_init_661 rfl ?_
  refine x_bipush (v := 59) dR_init_662 rfl ?_
  refine x_bipush (v := 105) dR_init_664 rfl ?_
  refine x_iastJ (j := 59) dR_init_666 rfl rfl rfl (by decide) ?_
  rw [fL_t (l := lawL) (i := 59) rfl]
  exact h
set_option maxHeartbeats 4000000 in
set_option maxRecDepth 100000 in
theorem ri_91_60 {G : WG} {J : IM} {L : LM} {Post : PostT} {r : Nat × Nat × Nat} (h : X mR_init G r (SP 92 [(59, 43, 0)]) (upr J 91 (fL (List.take 75 lawL))) L 757 [.ref 59, .null] [.ref 91, .ref 59] Post) : X mR_init G r (SP 92 [(59, 43, 0)]) (upr J 91 (fL (List.take 60 lawL))) L 667 [.ref 59, .null] [.ref 91, .ref 59] Post := by
  refine x_dup dR_init_667 rfl ?_
  refine x_bipush (v := 60) dR_init_668 rfl ?_
  refine x_bipush (v := 110) dR_init_670 rfl ?_
  refine x_iastJ (j := 60) dR_init_672 rfl rfl rfl (by decide) ?_
  rw [fL_t (l := lawL) (i := 60) rfl]
  refine x_dup dR_init_673 rfl ?_
  refine x_bipush (v := 61) dR_init_674 rfl ?_
  refine x_bipush (v := 32) dR_init_676 rfl ?_
  refine x_iastJ (j := 61) dR_init_678 rfl rfl rfl (by decide) ?_
  rw [fL_t (l := lawL) (i := 61) rfl]
  refine x_dup dR_init_679 rfl ?_
  refine x_bipush (v := 62) dR_init_680 rfl ?_
  refine x_bipush (v := 110) dR_init_682 rfl ?_
  refine x_iastJ (j := 62) dR_init_684 rfl rfl rfl (by decide) ?_
  rw [fL_t (l := lawL) (i := 62) rfl]
  refine x_dup dR_init_685 rfl ?_
  refine x_bipush (v := 63) dR_init_686 rfl ?_
  refine x_bipush (v := 101) dR_init_688 rfl ?_
  refine x_iastJ (j := 63) dR_init_690 rfl rfl rfl (by decide) ?_
  rw [fL_t (l := lawL) (i := 63) rfl]
  refine x_dup dR_init_691 rfl ?_
  refine x_bipush (v := 64) dR_init_692 rfl ?_
  refine x_bipush (v := 101) dR_init_694 rfl ?_
  refine x_iastJ (j := 64) dR_init_696 rfl rfl rfl (by decide) ?_
  rw [fL_t (l := lawL) (i := 64) rfl]
  refine x_dup dR_init_697 rfl ?_
  refine x_bipush (v := 65) dR_init_698 rfl ?_
  refine x_bipush (v := 100) dR_init_700 rfl ?_
  refine x_iastJ (j := 65) dR_init_702 rfl rfl rfl (by decide) ?_
  rw [fL_t (l := lawL) (i := 65) rfl]
  refine x_dup dR_init_703 rfl ?_
  refine x_bipush (v := 66) dR_init_704 rfl ?_
  refine x_bipush (v := 32) dR_init_706 rfl ?_
  refine x_iastJ (j := 66) dR_init_708 rfl rfl rfl (by decide) ?_
  rw [fL_t (l := lawL) (i := 66) rfl]
  refine x_dup dR_init_709 rfl ?_
  refine x_bipush (v := 67) dR_init_710 rfl ?_
  refine x_bipush (v := 42) dR_init_712 rfl ?_
  refine x_iastJ (j := 67) dR_init_714 rfl rfl rfl (by decide) ?_
  rw [fL_t (l := lawL) (i := 67) rfl]
  refine x_dup dR_init_715 rfl ?_
  refine x_bipush (v := 68) dR_init_716 rfl ?_
  refine x_bipush (v := 32) dR_init_718 rfl ?_
  refine x_iastJ (j := 68) dR_init_720 rfl rfl rfl (by decide) ?_
  rw [fL_t (l := lawL) (i := 68) rfl]
  refine x_dup dR_init_721 rfl ?_
  refine x_bipush (v := 69) dR_init_722 rfl ?_
  refine x_bipush (v := 98) dR_init_724 rfl ?_
  refine x_iastJ (j := 69) dR_init_726 rfl rfl rfl (by decide) ?_
  rw [fL_t (l := lawL) (i := 69) rfl]
  refine x_dup dR_init_727 rfl ?_
  refine x_bipush (v := 70) dR_init_728 rfl ?_
  refine x_bipush (v := 97) dR_init_730 rfl ?_
  refine x_iastJ (j := 70) dR_init_732 rfl rfl rfl (by decide) ?_
  rw [fL_t (l := lawL) (i := 70) rfl]
  refine x_dup dR_init_733 rfl ?_
  refine x_bipush (v := 71) dR_init_734 rfl ?_
  refine x_bipush (v := 115) dR_init_736 rfl ?_
  refine x_iastJ (j := 71) dR_init_738 rfl rfl rfl (by decide) ?_
  rw [fL_t (l := lawL) (i := 71) rfl]
  refine x_dup dR_init_739 rfl ?_
  refine x_bipush (v := 72) dR_init_740 rfl ?_
  refine x_bipush (v := 101) dR_init_742 rfl ?_
  refine x_iastJ (j := 72) dR_init_744 rfl rfl rfl (by decide) ?_
  rw [fL_t (l := lawL) (i := 72) rfl]
  refine x_dup dR_init_745 rfl ?_
  refine x_bipush (v := 73) dR_init_746 rfl ?_
  refine x_bipush (v := 32) dR_init_748 rfl ?_
  refine x_iastJ (j := 73) dR_init_750 rfl rfl rfl (by decide) ?_
  rw [fL_t (l := lawL) (i := 73) rfl]
  refine x_dup dR_init_751 rfl ?_
  refine x_bipush (v := 74) dR_init_752 rfl ?_
  refine x_bipush (v := 59) dR_init_754 rfl ?_
  refine x_iastJ (j := 74) dR_init_756 rfl rfl rfl (by decide) ?_
  rw [fL_t (l := lawL) (i := 74) rfl]
  exact h
set_option maxHeartbeats 4000000 in
set_option maxRecDepth 100000 in
theorem ri_92_0 {G : WG} {J : IM} {L : LM} {Post : PostT} {r : Nat × Nat × Nat} (h : X mR_init G r (SP 93 [(59, 44, 0)]) (upr J 92 (fL (List.take 15 wordsL))) L 849 [.ref 59, .null] [.ref 92, .ref 59] Post) : X mR_init G r (SP 93 [(59, 44, 0)]) (upr J 92 (fL (List.take 0 wordsL))) L 765 [.ref 59, .null] [.ref 92, .ref 59] Post := by
  refine x_dup dR_init_765 rfl ?_
  refine x_iconst (v := 0) dR_init_766 rfl ?_
  refine x_bipush (v := 104) dR_init_767 rfl ?_
  refine x_iastJ (j := 0) dR_init_769 rfl rfl rfl (by decide) ?_
  rw [fL_t (l := wordsL) (i := 0) rfl]
  refine x_dup dR_init_770 rfl ?_
  refine x_iconst (v := 1) dR_init_771 rfl ?_
  refine x_bipush (v := 101) dR_init_772 rfl ?_
  refine x_iastJ (j := 1) dR_init_774 rfl rfl rfl (by decide) ?_
  rw [fL_t (l := wordsL) (i := 1) rfl]
  refine x_dup dR_init_775 rfl ?_
  refine x_iconst (v := 2) dR_init_776 rfl ?_
  refine x_bipush (v := 97) dR_init_777 rfl ?_
  refine x_iastJ (j := 2) dR_init_779 rfl rfl rfl (by decide) ?_
  rw [fL_t (l := wordsL) (i := 2) rfl]
  refine x_dup dR_init_780 rfl ?_
  refine x_iconst (v := 3) dR_init_781 rfl ?_
  refine x_bipush (v := 114) dR_init_782 rfl ?_
  refine x_iastJ (j := 3) dR_init_784 rfl rfl rfl (by decide) ?_
  rw [fL_t (l := wordsL) (i := 3) rfl]
  refine x_dup dR_init_785 rfl ?_
  refine x_iconst (v := 4) dR_init_786 rfl ?_
  refine x_bipush (v := 100) dR_init_787 rfl ?_
  refine x_iastJ (j := 4) dR_init_789 rfl rfl rfl (by decide) ?_
  rw [fL_t (l := wordsL) (i := 4) rfl]
  refine x_dup dR_init_790 rfl ?_
  refine x_iconst (v := 5) dR_init_791 rfl ?_
  refine x_bipush (v := 32) dR_init_792 rfl ?_
  refine x_iastJ (j := 5) dR_init_794 rfl rfl rfl (by decide) ?_
  rw [fL_t (l := wordsL) (i := 5) rfl]
  refine x_dup dR_init_795 rfl ?_
  refine x_bipush (v := 6) dR_init_796 rfl ?_
  refine x_bipush (v := 32) dR_init_798 rfl ?_
  refine x_iastJ (j := 6) dR_init_800 rfl rfl rfl (by decide) ?_
  rw [fL_t (l := wordsL) (i := 6) rfl]
  refine x_dup dR_init_801 rfl ?_
  refine x_bipush (v := 7) dR_init_802 rfl ?_
  refine x_bipush (v := 32) dR_init_804 rfl ?_
  refine x_iastJ (j := 7) dR_init_806 rfl rfl rfl (by decide) ?_
  rw [fL_t (l := wordsL) (i := 7) rfl]
  refine x_dup dR_init_807 rfl ?_
  refine x_bipush (v := 8) dR_init_808 rfl ?_
  refine x_bipush (v := 115) dR_init_810 rfl ?_
  refine x_iastJ (j := 8) dR_init_812 rfl rfl rfl (by decide) ?_
  rw [fL_t (l := wordsL) (i := 8) rfl]
  refine x_dup dR_init_813 rfl ?_
  refine x_bipush (v := 9) dR_init_814 rfl ?_
  refine x_bipush (v := 104) dR_init_816 rfl ?_
  refine x_iastJ (j := 9) dR_init_818 rfl rfl rfl (by decide) ?_
  rw [fL_t (l := wordsL) (i := 9) rfl]
  refine x_dup dR_init_819 rfl ?_
  refine x_bipush (v := 10) dR_init_820 rfl ?_
  refine x_bipush (v := 97) dR_init_822 rfl ?_
  refine x_iastJ (j := 10) dR_init_824 rfl rfl rfl (by decide) ?_
  rw [fL_t (l := wordsL) (i := 10) rfl]
  refine x_dup dR_init_825 rfl ?_
  refine x_bipush (v := 11) dR_init_826 rfl ?_
  refine x_bipush (v := 114) dR_init_828 rfl ?_
  refine x_iastJ (j := 11) dR_init_830 rfl rfl rfl (by decide) ?_
  rw [fL_t (l := wordsL) (i := 11) rfl]
  refine x_dup dR_init_831 rfl ?_
  refine x_bipush (v := 12) dR_init_832 rfl ?_
  refine x_bipush (v := 101) dR_init_834 rfl ?_
  refine x_iastJ (j := 12) dR_init_836 rfl rfl rfl (by decide) ?_
  rw [fL_t (l := wordsL) (i := 12) rfl]
  refine x_dup dR_init_837 rfl ?_
  refine x_bipush (v := 13) dR_init_838 rfl ?_
  refine x_bipush (v := 32) dR_init_840 rfl ?_
  refine x_iastJ (j := 13) dR_init_842 rfl rfl rfl (by decide) ?_
  rw [fL_t (l := wordsL) (i := 13) rfl]
  refine x_dup dR_init_843 rfl ?_
  refine x_bipush (v := 14) dR_init_844 rfl ?_
  refine x_bipush (v := 32) dR_init_846 rfl ?_
  refine x_iastJ (j := 14) dR_init_848 rfl rfl rfl (by decide) ?_
  rw [fL_t (l := wordsL) (i := 14) rfl]
  exact h
set_option maxHeartbeats 4000000 in
set_option maxRecDepth 100000 in
theorem ri_92_15 {G : WG} {J : IM} {L : LM} {Post : PostT} {r : Nat × Nat × Nat} (h : X mR_init G r (SP 93 [(59, 44, 0)]) (upr J 92 (fL (List.take 30 wordsL))) L 939 [.ref 59, .null] [.ref 92, .ref 59] Post) : X mR_init G r (SP 93 [(59, 44, 0)]) (upr J 92 (fL (List.take 15 wordsL))) L 849 [.ref 59, .null] [.ref 92, .ref 59] Post := by
  refine x_dup dR_init_849 rfl ?_
  refine x_bipush (v := 15) dR_init_850 rfl ?_
  refine x_bipush (v := 32) dR_init_852 rfl ?_
  refine x_iastJ (j := 15) dR_init_854 rfl rfl rfl (by decide) ?_
  rw [fL_t (l := wordsL) (i := 15) rfl]
  refine x_dup dR_init_855 rfl ?_
  refine x_bipush (v := 16) dR_init_856 rfl ?_
  refine x_bipush (v := 112) dR_init_858 rfl ?_
  refine x_iastJ (j := 16) dR_init_860 rfl rfl rfl (by decide) ?_
  rw [fL_t (l := wordsL) (i := 16) rfl]
  refine x_dup dR_init_861 rfl ?_
  refine x_bipush (v := 17) dR_init_862 rfl ?_
  refine x_bipush (v := 97) dR_init_864 rfl ?_
  refine x_iastJ (j := 17) dR_init_866 rfl rfl rfl (by decide) ?_
  rw [fL_t (l := wordsL) (i := 17) rfl]
  refine x_dup dR_init_867 rfl ?_
  refine x_bipush (v := 18) dR_init_868 rfl ?_
  refine x_bipush (v := 105) dR_init_870 rfl ?_
  refine x_iastJ (j := 18) dR_init_872 rfl rfl rfl (by decide) ?_
  rw [fL_t (l := wordsL) (i := 18) rfl]
  refine x_dup dR_init_873 rfl ?_
  refine x_bipush (v := 19) dR_init_874 rfl ?_
  refine x_bipush (v := 110) dR_init_876 rfl ?_
  refine x_iastJ (j := 19) dR_init_878 rfl rfl rfl (by decide) ?_
  rw [fL_t (l := wordsL) (i := 19) rfl]
  refine x_dup dR_init_879 rfl ?_
  refine x_bipush (v := 20) dR_init_880 rfl ?_
  refine x_bipush (v := 32) dR_init_882 rfl ?_
  refine x_iastJ (j := 20) dR_init_884 rfl rfl rfl (by decide) ?_
  rw [fL_t (l := wordsL) (i := 20) rfl]
  refine x_dup dR_init_885 rfl ?_
  refine x_bipush (v := 21) dR_init_886 rfl ?_
  refine x_bipush (v := 32) dR_init_888 rfl ?_
  refine x_iastJ (j := 21) dR_init_890 rfl rfl rfl (by decide) ?_
  rw [fL_t (l := wordsL) (i := 21) rfl]
  refine x_dup dR_init_891 rfl ?_
  refine x_bipush (v := 22) dR_init_892 rfl ?_
  refine x_bipush (v := 32) dR_init_894 rfl ?_
  refine x_iastJ (j := 22) dR_init_896 rfl rfl rfl (by decide) ?_
  rw [fL_t (l := wordsL) (i := 22) rfl]
  refine x_dup dR_init_897 rfl ?_
  refine x_bipush (v := 23) dR_init_898 rfl ?_
  refine x_bipush (v := 32) dR_init_900 rfl ?_
  refine x_iastJ (j := 23) dR_init_902 rfl rfl rfl (by decide) ?_
  rw [fL_t (l := wordsL) (i := 23) rfl]
  refine x_dup dR_init_903 rfl ?_
  refine x_bipush (v := 24) dR_init_904 rfl ?_
  refine x_bipush (v := 108) dR_init_906 rfl ?_
  refine x_iastJ (j := 24) dR_init_908 rfl rfl rfl (by decide) ?_
  rw [fL_t (l := wordsL) (i := 24) rfl]
  refine x_dup dR_init_909 rfl ?_
  refine x_bipush (v := 25) dR_init_910 rfl ?_
  refine x_bipush (v := 111) dR_init_912 rfl ?_
  refine x_iastJ (j := 25) dR_init_914 rfl rfl rfl (by decide) ?_
  rw [fL_t (l := wordsL) (i := 25) rfl]
  refine x_dup dR_init_915 rfl ?_
  refine x_bipush (v := 26) dR_init_916 rfl ?_
  refine x_bipush (v := 117) dR_init_918 rfl ?_
  refine x_iastJ (j := 26) dR_init_920 rfl rfl rfl (by decide) ?_
  rw [fL_t (l := wordsL) (i := 26) rfl]
  refine x_dup dR_init_921 rfl ?_
  refine x_bipush (v := 27) dR_init_922 rfl ?_
  refine x_bipush (v := 100) dR_init_924 rfl ?_
  refine x_iastJ (j := 27) dR_init_926 rfl rfl rfl (by decide) ?_
  rw [fL_t (l := wordsL) (i := 27) rfl]
  refine x_dup dR_init_927 rfl ?_
  refine x_bipush (v := 28) dR_init_928 rfl ?_
  refine x_bipush (v := 32) dR_init_930 rfl ?_
  refine x_iastJ (j := 28) dR_init_932 rfl rfl rfl (by decide) ?_
  rw [fL_t (l := wordsL) (i := 28) rfl]
  refine x_dup dR_init_933 rfl ?_
  refine x_bipush (v := 29) dR_init_934 rfl ?_
  refine x_bipush (v := 32) dR_init_936 rfl ?_
  refine x_iastJ (j := 29) dR_init_938 rfl rfl rfl (by decide) ?_
  rw [fL_t (l := wordsL) (i := 29) rfl]
  exact h
set_option maxHeartbeats 4000000 in
set_option maxRecDepth 100000 in
theorem ri_92_30 {G : WG} {J : IM} {L : LM} {Post : PostT} {r : Nat × Nat × Nat} (h : X mR_init G r (SP 93 [(59, 44, 0)]) (upr J 92 (fL (List.take 45 wordsL))) L 1029 [.ref 59, .null] [.ref 92, .ref 59] Post) : X mR_init G r (SP 93 [(59, 44, 0)]) (upr J 92 (fL (List.take 30 wordsL))) L 939 [.ref 59, .null] [.ref 92, .ref 59] Post := by
  refine x_dup dR_init_939 rfl ?_
  refine x_bipush (v := 30) dR_init_940 rfl ?_
  refine x_bipush (v := 32) dR_init_942 rfl ?_
  refine x_iastJ (j := 30) dR_init_944 rfl rfl rfl (by decide) ?_
  rw [fL_t (l := wordsL) (i := 30) rfl]
  refine x_dup dR_init_945 rfl ?_
  refine x_bipush (v := 31) dR_init_946 rfl ?_
  refine x_bipush (v := 32) dR_init_948 rfl ?_
  refine x_iastJ (j := 31) dR_init_950 rfl rfl rfl (by decide) ?_
  rw [fL_t (l := wordsL) (i := 31) rfl]
  refine x_dup dR_init_951 rfl ?_
  refine x_bipush (v := 32) dR_init_952 rfl ?_
  refine x_bipush (v := 102) dR_init_954 rfl ?_
  refine x_iastJ (j := 32) dR_init_956 rfl rfl rfl (by decide) ?_
  rw [fL_t (l := wordsL) (i := 32) rfl]
  refine x_dup dR_init_957 rfl ?_
  refine x_bipush (v := 33) dR_init_958 rfl ?_
  refine x_bipush (v := 97) dR_init_960 rfl ?_
  refine x_iastJ (j := 33) dR_init_962 rfl rfl rfl (by decide) ?_
  rw [fL_t (l := wordsL) (i := 33) rfl]
  refine x_dup dR_init_963 rfl ?_
  refine x_bipush (v := 34) dR_init_964 rfl ?_
  refine x_bipush (v := 114) dR_init_966 rfl ?_
  refine x_iastJ (j := 34) dR_init_968 rfl rfl rfl (by decide) ?_
  rw [fL_t (l := wordsL) (i := 34) rfl]
  refine x_dup dR_init_969 rfl ?_
  refine x_bipush (v := 35) dR_init_970 rfl ?_
  refine x_bipush (v := 32) dR_init_972 rfl ?_
  refine x_iastJ (j := 35) dR_init_974 rfl rfl rfl (by decide) ?_
  rw [fL_t (l := wordsL) (i := 35) rfl]
  refine x_dup dR_init_975 rfl ?_
  refine x_bipush (v := 36) dR_init_976 rfl ?_
  refine x_bipush (v := 32) dR_init_978 rfl ?_
  refine x_iastJ (j := 36) dR_init_980 rfl rfl rfl (by decide) ?_
  rw [fL_t (l := wordsL) (i := 36) rfl]
  refine x_dup dR_init_981 rfl ?_
  refine x_bipush (v := 37) dR_init_982 rfl ?_
  refine x_bipush (v := 32) dR_init_984 rfl ?_
  refine x_iastJ (j := 37) dR_init_986 rfl rfl rfl (by decide) ?_
  rw [fL_t (l := wordsL) (i := 37) rfl]
  refine x_dup dR_init_987 rfl ?_
  refine x_bipush (v := 38) dR_init_988 rfl ?_
  refine x_bipush (v := 32) dR_init_990 rfl ?_
  refine x_iastJ (j := 38) dR_init_992 rfl rfl rfl (by decide) ?_
  rw [fL_t (l := wordsL) (i := 38) rfl]
  refine x_dup dR_init_993 rfl ?_
  refine x_bipush (v := 39) dR_init_994 rfl ?_
  refine x_bipush (v := 32) dR_init_996 rfl ?_
  refine x_iastJ (j := 39) dR_init_998 rfl rfl rfl (by decide) ?_
  rw [fL_t (l := wordsL) (i := 39) rfl]
  refine x_dup dR_init_999 rfl ?_
  refine x_bipush (v := 40) dR_init_1000 rfl ?_
  refine x_bipush (v := 101) dR_init_1002 rfl ?_
  refine x_iastJ (j := 40) dR_init_1004 rfl rfl rfl (by decide) ?_
  rw [fL_t (l := wordsL) (i := 40) rfl]
  refine x_dup dR_init_1005 rfl ?_
  refine x_bipush (v := 41) dR_init_1006 rfl ?_
  refine x_bipush (v := 97) dR_init_1008 rfl ?_
  refine x_iastJ (j := 41) dR_init_1010 rfl rfl rfl (by decide) ?_
  rw [fL_t (l := wordsL) (i := 41) rfl]
  refine x_dup dR_init_1011 rfl ?_
  refine x_bipush (v := 42) dR_init_1012 rfl ?_
  refine x_bipush (v := 114) dR_init_1014 rfl ?_
  refine x_iastJ (j := 42) dR_init_1016 rfl rfl rfl (by decide) ?_
  rw [fL_t (l := wordsL) (i := 42) rfl]
  refine x_dup dR_init_1017 rfl ?_
  refine x_bipush (v := 43) dR_init_1018 rfl ?_
  refine x_bipush (v := 32) dR_init_1020 rfl ?_
  refine x_iastJ (j := 43) dR_init_1022 rfl rfl rfl (by decide) ?_
  rw [fL_t (l := wordsL) (i := 43) rfl]
  refine x_dup dR_init_1023 rfl ?_
  refine x_bipush (v := 44) dR_init_1024 rfl ?_
  refine x_bipush (v := 32) dR_init_1026 rfl ?_
  refine x_iastJ (j := 44) dR_init_1028 rfl rfl rfl (by decide) ?_
  rw [fL_t (l := wordsL) (i := 44) rfl]
  exact h
set_option maxHeartbeats 4000000 in
set_option maxRecDepth 100000 in
theorem ri_92_45 {G : WG} {J : IM} {L : LM} {Post : PostT} {r : Nat × Nat × Nat} (h : X mR_init G r (SP 93 [(59, 44, 0)]) (upr J 92 (fL (List.take 60 wordsL))) L 1119 [.ref 59, .null] [.ref 92, .ref 59] Post) : X mR_init G r (SP 93 [(59, 44, 0)]) (upr J 92 (fL (List.take 45 wordsL))) L 1029 [.ref 59, .null] [.ref 92, .ref 59] Post := by
  refine x_dup dR_init_1029 rfl ?_
  refine x_bipush (v := 45) dR_init_1030 rfl ?_
  refine x_bipush (v := 32) dR_init_1032 rfl ?_
  refine x_iastJ (j := 45) dR_init_1034 rfl rfl rfl (by decide) ?_
  rw [fL_t (l := wordsL) (i := 45) rfl]
  refine x_dup dR_init_1035 rfl ?_
  refine x_bipush (v := 46) dR_init_1036 rfl ?_
  refine x_bipush (v := 32) dR_init_1038 rfl ?_
  refine x_iastJ (j := 46) dR_init_1040 rfl rfl rfl (by decide) ?_
  rw [fL_t (l := wordsL) (i := 46) rfl]
  refine x_dup dR_init_1041 rfl ?_
  refine x_bipush (v := 47) dR_init_1042 rfl ?_
  refine x_bipush (v := 32) dR_init_1044 rfl ?_
  refine x_iastJ (j := 47) dR_init_1046 rfl rfl rfl (by decide) ?_
  rw [fL_t (l := wordsL) (i := 47) rfl]
  refine x_dup dR_init_1047 rfl ?_
  refine x_bipush (v := 48) dR_init_1048 rfl ?_
  refine x_bipush (v := 110) dR_init_1050 rfl ?_
  refine x_iastJ (j := 48) dR_init_1052 rfl rfl rfl (by decide) ?_
  rw [fL_t (l := wordsL) (i := 48) rfl]
  refine x_dup dR_init_1053 rfl ?_
  refine x_bipush (v := 49) dR_init_1054 rfl ?_
  refine x_bipush (v := 101) dR_init_1056 rfl ?_
  refine x_iastJ (j := 49) dR_init_1058 rfl rfl rfl (by decide) ?_
  rw [fL_t (l := wordsL) (i := 49) rfl]
  refine x_dup dR_init_1059 rfl ?_
  refine x_bipush (v := 50) dR_init_1060 rfl ?_
  refine x_bipush (v := 101) dR_init_1062 rfl ?_
  refine x_iastJ (j := 50) dR_init_1064 rfl rfl rfl (by decide) ?_
  rw [fL_t (l := wordsL) (i := 50) rfl]
  refine x_dup dR_init_1065 rfl ?_
  refine x_bipush (v := 51) dR_init_1066 rfl ?_
  refine x_bipush (v := 100) dR_init_1068 rfl ?_
  refine x_iastJ (j := 51) dR_init_1070 rfl rfl rfl (by decide) ?_
  rw [fL_t (l := wordsL) (i := 51) rfl]
  refine x_dup dR_init_1071 rfl ?_
  refine x_bipush (v := 52) dR_init_1072 rfl ?_
  refine x_bipush (v := 32) dR_init_1074 rfl ?_
  refine x_iastJ (j := 52) dR_init_1076 rfl rfl rfl (by decide) ?_
  rw [fL_t (l := wordsL) (i := 52) rfl]
  refine x_dup dR_init_1077 rfl ?_
  refine x_bipush (v := 53) dR_init_1078 rfl ?_
  refine x_bipush (v := 32) dR_init_1080 rfl ?_
  refine x_iastJ (j := 53) dR_init_1082 rfl rfl rfl (by decide) ?_
  rw [fL_t (l := wordsL) (i := 53) rfl]
  refine x_dup dR_init_1083 rfl ?_
  refine x_bipush (v := 54) dR_init_1084 rfl ?_
  refine x_bipush (v := 32) dR_init_1086 rfl ?_
  refine x_iastJ (j := 54) dR_init_1088 rfl rfl rfl (by decide) ?_
  rw [fL_t (l := wordsL) (i := 54) rfl]
  refine x_dup dR_init_1089 rfl ?_
  refine x_bipush (v := 55) dR_init_1090 rfl ?_
  refine x_bipush (v := 32) dR_init_1092 rfl ?_
  refine x_iastJ (j := 55) dR_init_1094 rfl rfl rfl (by decide) ?_
  rw [fL_t (l := wordsL) (i := 55) rfl]
  refine x_dup dR_init_1095 rfl ?_
  refine x_bipush (v := 56) dR_init_1096 rfl ?_
  refine x_bipush (v := 109) dR_init_1098 rfl ?_
  refine x_iastJ (j := 56) dR_init_1100 rfl rfl rfl (by decide) ?_
  rw [fL_t (l := wordsL) (i := 56) rfl]
  refine x_dup dR_init_1101 rfl ?_
  refine x_bipush (v := 57) dR_init_1102 rfl ?_
  refine x_bipush (v := 97) dR_init_1104 rfl ?_
  refine x_iastJ (j := 57) dR_init_1106 rfl rfl rfl (by decide) ?_
  rw [fL_t (l := wordsL) (i := 57) rfl]
  refine x_dup dR_init_1107 rfl ?_
  refine x_bipush (v := 58) dR_init_1108 rfl ?_
  refine x_bipush (v := 110) dR_init_1110 rfl ?_
  refine x_iastJ (j := 58) dR_init_1112 rfl rfl rfl (by decide) ?_
  rw [fL_t (l := wordsL) (i := 58) rfl]
  refine x_dup dR_init_1113 rfl ?_
  refine x_bipush (v := 59) dR_init_1114 rfl ?_
  refine x_bipush (v := 121) dR_init_1116 rfl ?_
  refine x_iastJ (j := 59) dR_init_1118 rfl rfl rfl (by decide) ?_
  rw [fL_t (l := wordsL) (i := 59) rfl]
  exact h
set_option maxHeartbeats 4000000 in
set_option maxRecDepth 100000 in
theorem ri_92_60 {G : WG} {J : IM} {L : LM} {Post : PostT} {r : Nat × Nat × Nat} (h : X mR_init G r (SP 93 [(59, 44, 0)]) (upr J 92 (fL (List.take 75 wordsL))) L 1209 [.ref 59, .null] [.ref 92, .ref 59] Post) : X mR_init G r (SP 93 [(59, 44, 0)]) (upr J 92 (fL (List.take 60 wordsL))) L 1119 [.ref 59, .null] [.ref 92, .ref 59] Post := by
  refine x_dup dR_init_1119 rfl ?_
  refine x_bipush (v := 60) dR_init_1120 rfl ?_
  refine x_bipush (v := 32) dR_init_1122 rfl ?_
  refine x_iastJ (j := 60) dR_init_1124 rfl rfl rfl (by decide) ?_
  rw [fL_t (l := wordsL) (i := 60) rfl]
  refine x_dup dR_init_1125 rfl ?_
  refine x_bipush (v := 61) dR_init_1126 rfl ?_
  refine x_bipush (v := 32) dR_init_1128 rfl ?_
  refine x_iastJ (j := 61) dR_init_1130 rfl rfl rfl (by decide) ?_
  rw [fL_t (l := wordsL) (i := 61) rfl]
  refine x_dup dR_init_1131 rfl ?_
  refine x_bipush (v := 62) dR_init_1132 rfl ?_
  refine x_bipush (v := 32) dR_init_1134 rfl ?_
  refine x_iastJ (j := 62) dR_init_1136 rfl rfl rfl (by decide) ?_
  rw [fL_t (l := wordsL) (i := 62) rfl]
  refine x_dup dR_init_1137 rfl ?_
  refine x_bipush (v := 63) dR_init_1138 rfl ?_
  refine x_bipush (v := 32) dR_init_1140 rfl ?_
  refine x_iastJ (j := 63) dR_init_1142 rfl rfl rfl (by decide) ?_
  rw [fL_t (l := wordsL) (i := 63) rfl]
  refine x_dup dR_init_1143 rfl ?_
  refine x_bipush (v := 64) dR_init_1144 rfl ?_
  refine x_bipush (v := 98) dR_init_1146 rfl ?_
  refine x_iastJ (j := 64) dR_init_1148 rfl rfl rfl (by decide) ?_
  rw [fL_t (l := wordsL) (i := 64) rfl]
  refine x_dup dR_init_1149 rfl ?_
  refine x_bipush (v := 65) dR_init_1150 rfl ?_
  refine x_bipush (v := 97) dR_init_1152 rfl ?_
  refine x_iastJ (j := 65) dR_init_1154 rfl rfl rfl (by decide) ?_
  rw [fL_t (l := wordsL) (i := 65) rfl]
  refine x_dup dR_init_1155 rfl ?_
  refine x_bipush (v := 66) dR_init_1156 rfl ?_
  refine x_bipush (v := 115) dR_init_1158 rfl ?_
  refine x_iastJ (j := 66) dR_init_1160 rfl rfl rfl (by decide) ?_
  rw [fL_t (l := wordsL) (i := 66) rfl]
  refine x_dup dR_init_1161 rfl ?_
  refine x_bipush (v := 67) dR_init_1162 rfl ?_
  refine x_bipush (v := 101) dR_init_1164 rfl ?_
  refine x_iastJ (j := 67) dR_init_1166 rfl rfl rfl (by decide) ?_
  rw [fL_t (l := wordsL) (i := 67) rfl]
  refine x_dup dR_init_1167 rfl ?_
  refine x_bipush (v := 68) dR_init_1168 rfl ?_
  refine x_bipush (v := 32) dR_init_1170 rfl ?_
  refine x_iastJ (j := 68) dR_init_1172 rfl rfl rfl (by decide) ?_
  rw [fL_t (l := wordsL) (i := 68) rfl]
  refine x_dup dR_init_1173 rfl ?_
  refine x_bipush (v := 69) dR_init_1174 rfl ?_
  refine x_bipush (v := 32) dR_init_1176 rfl ?_
  refine x_iastJ (j := 69) dR_init_1178 rfl rfl rfl (by decide) ?_
  rw [fL_t (l := wordsL) (i := 69) rfl]
  refine x_dup dR_init_1179 rfl ?_
  refine x_bipush (v := 70) dR_init_1180 rfl ?_
  refine x_bipush (v := 32) dR_init_1182 rfl ?_
  refine x_iastJ (j := 70) dR_init_1184 rfl rfl rfl (by decide) ?_
  rw [fL_t (l := wordsL) (i := 70) rfl]
  refine x_dup dR_init_1185 rfl ?_
  refine x_bipush (v := 71) dR_init_1186 rfl ?_
  refine x_bipush (v := 32) dR_init_1188 rfl ?_
  refine x_iastJ (j := 71) dR_init_1190 rfl rfl rfl (by decide) ?_
  rw [fL_t (l := wordsL) (i := 71) rfl]
  refine x_dup dR_init_1191 rfl ?_
  refine x_bipush (v := 72) dR_init_1192 rfl ?_
  refine x_bipush (v := 111) dR_init_1194 rfl ?_
  refine x_iastJ (j := 72) dR_init_1196 rfl rfl rfl (by decide) ?_
  rw [fL_t (l := wordsL) (i := 72) rfl]
  refine x_dup dR_init_1197 rfl ?_
  refine x_bipush (v := 73) dR_init_1198 rfl ?_
  refine x_bipush (v := 114) dR_init_1200 rfl ?_
  refine x_iastJ (j := 73) dR_init_1202 rfl rfl rfl (by decide) ?_
  rw [fL_t (l := wordsL) (i := 73) rfl]
  refine x_dup dR_init_1203 rfl ?_
  refine x_bipush (v := 74) dR_init_1204 rfl ?_
  refine x_bipush (v := 32) dR_init_1206 rfl ?_
  refine x_iastJ (j := 74) dR_init_1208 rfl rfl rfl (by decide) ?_
  rw [fL_t (l := wordsL) (i := 74) rfl]
  exact h
set_option maxHeartbeats 4000000 in
set_option maxRecDepth 100000 in
theorem ri_92_75 {G : WG} {J : IM} {L : LM} {Post : PostT} {r : Nat × Nat × Nat} (h : X mR_init G r (SP 93 [(59, 44, 0)]) (upr J 92 (fL (List.take 90 wordsL))) L 1299 [.ref 59, .null] [.ref 92, .ref 59] Post) : X mR_init G r (SP 93 [(59, 44, 0)]) (upr J 92 (fL (List.take 75 wordsL))) L 1209 [.ref 59, .null] [.ref 92, .ref 59] Post := by
  refine x_dup dR_init_1209 rfl ?_
  refine x_bipush (v := 75) dR_init_1210 rfl ?_
  refine x_bipush (v := 32) dR_init_1212 rfl ?_
  refine x_iastJ (j := 75) dR_init_1214 rfl rfl rfl (by decide) ?_
  rw [fL_t (l := wordsL) (i := 75) rfl]
  refine x_dup dR_init_1215 rfl ?_
  refine x_bipush (v := 76) dR_init_1216 rfl ?_
  refine x_bipush (v := 32) dR_init_1218 rfl ?_
  refine x_iastJ (j := 76) dR_init_1220 rfl rfl rfl (by decide) ?_
  rw [fL_t (l := wordsL) (i := 76) rfl]
  refine x_dup dR_init_1221 rfl ?_
  refine x_bipush (v := 77) dR_init_1222 rfl ?_
  refine x_bipush (v := 32) dR_init_1224 rfl ?_
  refine x_iastJ (j := 77) dR_init_1226 rfl rfl rfl (by decide) ?_
  rw [fL_t (l := wordsL) (i := 77) rfl]
  refine x_dup dR_init_1227 rfl ?_
  refine x_bipush (v := 78) dR_init_1228 rfl ?_
  refine x_bipush (v := 32) dR_init_1230 rfl ?_
  refine x_iastJ (j := 78) dR_init_1232 rfl rfl rfl (by decide) ?_
  rw [fL_t (l := wordsL) (i := 78) rfl]
  refine x_dup dR_init_1233 rfl ?_
  refine x_bipush (v := 79) dR_init_1234 rfl ?_
  refine x_bipush (v := 32) dR_init_1236 rfl ?_
  refine x_iastJ (j := 79) dR_init_1238 rfl rfl rfl (by decide) ?_
  rw [fL_t (l := wordsL) (i := 79) rfl]
  refine x_dup dR_init_1239 rfl ?_
  refine x_bipush (v := 80) dR_init_1240 rfl ?_
  refine x_bipush (v := 97) dR_init_1242 rfl ?_
  refine x_iastJ (j := 80) dR_init_1244 rfl rfl rfl (by decide) ?_
  rw [fL_t (l := wordsL) (i := 80) rfl]
  refine x_dup dR_init_1245 rfl ?_
  refine x_bipush (v := 81) dR_init_1246 rfl ?_
  refine x_bipush (v := 110) dR_init_1248 rfl ?_
  refine x_iastJ (j := 81) dR_init_1250 rfl rfl rfl (by decide) ?_
  rw [fL_t (l := wordsL) (i := 81) rfl]
  refine x_dup dR_init_1251 rfl ?_
  refine x_bipush (v := 82) dR_init_1252 rfl ?_
  refine x_bipush (v := 100) dR_init_1254 rfl ?_
  refine x_iastJ (j := 82) dR_init_1256 rfl rfl rfl (by decide) ?_
  rw [fL_t (l := wordsL) (i := 82) rfl]
  refine x_dup dR_init_1257 rfl ?_
  refine x_bipush (v := 83) dR_init_1258 rfl ?_
  refine x_bipush (v := 32) dR_init_1260 rfl ?_
  refine x_iastJ (j := 83) dR_init_1262 rfl rfl rfl (by decide) ?_
  rw [fL_t (l := wordsL) (i := 83) rfl]
  refine x_dup dR_init_1263 rfl ?_
  refine x_bipush (v := 84) dR_init_1264 rfl ?_
  refine x_bipush (v := 32) dR_init_1266 rfl ?_
  refine x_iastJ (j := 84) dR_init_1268 rfl rfl rfl (by decide) ?_
  rw [fL_t (l := wordsL) (i := 84) rfl]
  refine x_dup dR_init_1269 rfl ?_
  refine x_bipush (v := 85) dR_init_1270 rfl ?_
  refine x_bipush (v := 32) dR_init_1272 rfl ?_
  refine x_iastJ (j := 85) dR_init_1274 rfl rfl rfl (by decide) ?_
  rw [fL_t (l := wordsL) (i := 85) rfl]
  refine x_dup dR_init_1275 rfl ?_
  refine x_bipush (v := 86) dR_init_1276 rfl ?_
  refine x_bipush (v := 32) dR_init_1278 rfl ?_
  refine x_iastJ (j := 86) dR_init_1280 rfl rfl rfl (by decide) ?_
  rw [fL_t (l := wordsL) (i := 86) rfl]
  refine x_dup dR_init_1281 rfl ?_
  refine x_bipush (v := 87) dR_init_1282 rfl ?_
  refine x_bipush (v := 32) dR_init_1284 rfl ?_
  refine x_iastJ (j := 87) dR_init_1286 rfl rfl rfl (by decide) ?_
  rw [fL_t (l := wordsL) (i := 87) rfl]
  refine x_dup dR_init_1287 rfl ?_
  refine x_bipush (v := 88) dR_init_1288 rfl ?_
  refine x_bipush (v := 110) dR_init_1290 rfl ?_
  refine x_iastJ (j := 88) dR_init_1292 rfl rfl rfl (by decide) ?_
  rw [fL_t (l := wordsL) (i := 88) rfl]
  refine x_dup dR_init_1293 rfl ?_
  refine x_bipush (v := 89) dR_init_1294 rfl ?_
  refine x_bipush (v := 111) dR_init_1296 rfl ?_
  refine x_iastJ (j := 89) dR_init_1298 rfl rfl rfl (by decide) ?_
  rw [fL_t (l := wordsL) (i := 89) rfl]
  exact h
set_option maxHeartbeats 4000000 in
set_option maxRecDepth 100000 in
theorem ri_92_90 {G : WG} {J : IM} {L : LM} {Post : PostT} {r : Nat × Nat × Nat} (h : X mR_init G r (SP 93 [(59, 44, 0)]) (upr J 92 (fL (List.take 96 wordsL))) L 1335 [.ref 59, .null] [.ref 92, .ref 59] Post) : X mR_init G r (SP 93 [(59, 44, 0)]) (upr J 92 (fL (List.take 90 wordsL))) L 1299 [.ref 59, .null] [.ref 92, .ref 59] Post := by
  refine x_dup dR_init_1299 rfl ?_
  refine x_bipush (v := 90) dR_init_1300 rfl ?_
  refine x_bipush (v := 116) dR_init_1302 rfl ?_
  refine x_iastJ (j := 90) dR_init_1304 rfl rfl rfl (by decide) ?_
  rw [fL_t (l := wordsL) (i := 90) rfl]
  refine x_dup dR_init_1305 rfl ?_
  refine x_bipush (v := 91) dR_init_1306 rfl ?_
  refine x_bipush (v := 32) dR_init_1308 rfl ?_
  refine x_iastJ (j := 91) dR_init_1310 rfl rfl rfl (by decide) ?_
  rw [fL_t (l := wordsL) (i := 91) rfl]
  refine x_dup dR_init_1311 rfl ?_
  refine x_bipush (v := 92) dR_init_1312 rfl ?_
  refine x_bipush (v := 32) dR_init_1314 rfl ?_
  refine x_iastJ (j := 92) dR_init_1316 rfl rfl rfl (by decide) ?_
  rw [fL_t (l := wordsL) (i := 92) rfl]
  refine x_dup dR_init_1317 rfl ?_
  refine x_bipush (v := 93) dR_init_1318 rfl ?_
  refine x_bipush (v := 32) dR_init_1320 rfl ?_
  refine x_iastJ (j := 93) dR_init_1322 rfl rfl rfl (by decide) ?_
  rw [fL_t (l := wordsL) (i := 93) rfl]
  refine x_dup dR_init_1323 rfl ?_
  refine x_bipush (v := 94) dR_init_1324 rfl ?_
  refine x_bipush (v := 32) dR_init_1326 rfl ?_
  refine x_iastJ (j := 94) dR_init_1328 rfl rfl rfl (by decide) ?_
  rw [fL_t (l := wordsL) (i := 94) rfl]
  refine x_dup dR_init_1329 rfl ?_
  refine x_bipush (v := 95) dR_init_1330 rfl ?_
  refine x_bipush (v := 32) dR_init_1332 rfl ?_
  refine x_iastJ (j := 95) dR_init_1334 rfl rfl rfl (by decide) ?_
  rw [fL_t (l := wordsL) (i := 95) rfl]
  exact h
def sp_R_size : SpT := fun as S I L Post => ∃ v : Int32, as = [.int v] ∧ Post (some (.int (if 0 ≤ v then v else -v))) S I L
set_option maxHeartbeats 4000000 in
set_option maxRecDepth 100000 in
theorem c_R_size : Con mR_size 2 0 0 sp_R_size := by
  refine con_of_X rfl fun G as S I L Post hs => ?_
  obtain ⟨v, rfl, h1⟩ := hs
  refine ⟨0, Nat.le_of_ble_eq_true rfl, ?_⟩
  show X mR_size G _ S I L 0 [.int v] [] Post
  refine x_iload_n dR_size_0 rfl ?_
  -- at 1: .ifCond .ge 8
  refine x_if_ge (tgt := 9) dR_size_1 (by decide) (fun c1 => ?_) (fun c1 => ?_)
  · rw [if_pos c1] at h1
    refine x_iload_n dR_size_9 rfl ?_
    -- at 10: .ireturn
    refine x_ireturn dR_size_10 rfl rfl ?_
    exact h1
  · rw [if_neg c1] at h1
    refine x_iload_n dR_size_4 rfl ?_
    refine x_ineg dR_size_5 ?_
    refine x_goto (tgt := 10) dR_size_6 (by decide) ?_
    -- at 10: .ireturn
    refine x_ireturn dR_size_10 rfl rfl ?_
    exact h1
theorem tw_r (i : Nat) (hi : i < 36) : (if 0 ≤ nI i / 6 - (nI i - nI i / 6 * 6) then nI i / 6 - (nI i - nI i / 6 * 6) else -(nI i / 6 - (nI i - nI i / 6 * 6))) = fa0 i :=
  (show ∀ i, i < 36 → (if 0 ≤ nI i / 6 - (nI i - nI i / 6 * 6) then nI i / 6 - (nI i - nI i / 6 * 6) else -(nI i / 6 - (nI i - nI i / 6 * 6))) = fa0 i by decide +kernel) i hi
/-- the reference's first state, ahead of how far -/
def EY : IM := upr EZ 0 (fun _ => 0)
theorem rE_first {I0 J : IM} (h : Fill 60 100 (up2 (up2 I0 59 2 2) 59 60 (-1)) J) (hz : I0 59 = fun _ => 0) : (clr (rE (up2 (upr J 78 (fL (lawL.take 75))) 59 23 75)) = EY) ∧ rOwn (up2 (upr J 78 (fL (lawL.take 75))) 59 23 75) := by
  generalize hK : up2 (upr J 78 (fL (lawL.take 75))) 59 23 75 = K
  have h59 : K 59 = up1 (up1 (up1 (fun _ => 0) 2 2) 60 (-1)) 23 75 := by
    rw [← hK, up2_s, upr_n _ _ (by decide), h.1 59 (by decide), up2_s, up2_s, hz]
  have r : ∀ i, 60 ≤ i → i < 100 → i ≠ 78 → K i = rowI i := fun i h1 h2 h3 => by
    rw [← hK, up2_n _ _ _ (by omega), upr_n _ _ h3]
    exact h.2 i h1 h2
  have s : ∀ j, j ≠ 2 → j ≠ 60 → j ≠ 23 → K 59 j = 0 := fun j h1 h2 h3 => by
    rw [h59, up1_n _ _ h3, up1_n _ _ h2, up1_n _ _ h1]
  have c0 : ∀ j, j ≠ 2 → j ≠ 60 → j ≠ 23 → cl (K 59 j) = 0 := fun j h1 h2 h3 => by
    rw [s j h1 h2 h3]
    rfl
  refine ⟨?_, ?_⟩
  · funext x
    unfold clr EY
    by_cases e18 : x = 18
    · subst e18
      rw [upr_s]
      rfl
    rw [upr_n _ _ e18]
    by_cases e29 : x = 29
    · subst e29
      rw [up2_s, upr_n _ _ (by decide)]
      funext j
      by_cases e6 : j = 6
      · subst e6
        rw [up1_s]
        rfl
      · rw [up1_n _ _ e6]
        show rSc K j = if j = 0 ∨ j = 8 then 2 else 0
        unfold rSc
        rw [h59]
        match j with
        | 0 => rfl
        | 1 => rfl
        | 2 => rfl
        | 3 => rfl
        | 4 => rfl
        | 5 => rfl
        | 6 => exact absurd rfl e6
        | 7 => rfl
        | 8 => rfl
        | 9 => rfl
        | 10 => rfl
        | 11 => rfl
        | n + 12 => exact (if_neg (by omega)).symm
    rw [up2_n _ _ _ e29]
    match x with
    | 0 => exact r 60 (by decide) (by decide) (by decide)
    | 1 => exact r 61 (by decide) (by decide) (by decide)
    | 2 => exact r 62 (by decide) (by decide) (by decide)
    | 3 => exact r 63 (by decide) (by decide) (by decide)
    | 4 => exact r 64 (by decide) (by decide) (by decide)
    | 5 => exact r 65 (by decide) (by decide) (by decide)
    | 6 => exact r 66 (by decide) (by decide) (by decide)
    | 7 => exact r 67 (by decide) (by decide) (by decide)
    | 8 => exact r 68 (by decide) (by decide) (by decide)
    | 9 => exact mk_z (c0 3 (by decide) (by decide) (by decide))
    | 10 => exact r 70 (by decide) (by decide) (by decide)
    | 11 => exact r 71 (by decide) (by decide) (by decide)
    | 12 => exact r 72 (by decide) (by decide) (by decide)
    | 13 => exact r 73 (by decide) (by decide) (by decide)
    | 14 => exact mk_z (c0 17 (by decide) (by decide) (by decide))
    | 15 => exact mk_z (c0 17 (by decide) (by decide) (by decide))
    | 16 => exact mk_z (c0 17 (by decide) (by decide) (by decide))
    | 17 => exact mk_z (c0 17 (by decide) (by decide) (by decide))
    | 18 => exact absurd rfl e18
    | 19 => exact (show img0 (K 59 28) (K 81) = fa0 by rw [s 28 (by decide) (by decide) (by decide)]; exact if_pos rfl)
    | 20 => exact r 82 (by decide) (by decide) (by decide)
    | 21 => exact mk_z (c0 30 (by decide) (by decide) (by decide))
    | 22 => exact mk_z (c0 31 (by decide) (by decide) (by decide))
    | 23 => exact mk_z (c0 31 (by decide) (by decide) (by decide))
    | 24 => exact mk_z (c0 31 (by decide) (by decide) (by decide))
    | 25 => exact mk_z (c0 31 (by decide) (by decide) (by decide))
    | 26 => exact r 88 (by decide) (by decide) (by decide)
    | 27 => exact r 89 (by decide) (by decide) (by decide)
    | 28 => exact r 90 (by decide) (by decide) (by decide)
    | 29 => exact absurd rfl e29
    | 30 => exact mk_z (by rw [c0 26 (by decide) (by decide) (by decide)])
    | 31 =>
      funext j
      show (if j / 200 < cl (K 59 26) ∧ j % 200 < cl (K 80 (4 * (j / 200) + 3)) then K 79 j else 0) = 0
      exact if_neg (fun y => by
        have := y.1
        rw [c0 26 (by decide) (by decide) (by decide)] at this
        omega)
    | n + 32 => rfl
  · refine ⟨s 55 (by decide) (by decide) (by decide), ?_, fun k hk => ?_⟩
    · show K 59 60 = -1
      rw [h59, up1_n _ _ (by decide), up1_s]
    · rw [show K 92 = rowI 92 from r 92 (by decide) (by decide) (by decide)]
      rfl
def sp_R_init : SpT := fun as S I L Post => as = [.ref 59] ∧ S = SP 60 [(59, 0, 0)] ∧ I 59 = (fun _ => 0) ∧ ∀ (I' : IM) (L' : LM), (∀ k, k < 59 → I' k = I k) → rOwn I' → rE I' = E0 → Post none S1 I' L'
set_option maxHeartbeats 4000000 in
set_option maxRecDepth 100000 in
theorem ri_end {G : WG} {I0 J : IM} {LL : LM} {Post : PostT} (hF : Fill 60 100 (up2 (up2 I0 59 2 2) 59 60 (-1)) J) (hz : I0 59 = fun _ => 0) (h1 : ∀ (I' : IM) (L' : LM), (∀ k, k < 59 → I' k = I0 k) → rOwn I' → rE I' = E0 → Post none S1 I' L') : X mR_init G (7, 0, 0) S1 J LL 1401 [.ref 59, .null] [] Post := by
  have far : ∀ (I1 : IM) (L1 : LM), (∀ k, k < 59 → I1 k = I0 k) → ∀ (r i : Nat) (K : IM), i + r = 36 → (∀ k, k < 59 → K k = I1 k) → rOwn K → rE K = upr (addT EY 0 LA LB LC) 0 (tw i) → X mR_init G (7, 0, 0) S1 K L1 1440 [.ref 59, .int (nI i)] [] Post := by
    intro I1 L1 hk1 r
    induction r with
    | zero =>
      intro i K hi hk own hE
      obtain rfl : i = 36 := by omega
      refine x_iload_n dR_init_1440 rfl ?_
      refine x_bipush (v := 36) dR_init_1441 rfl ?_
      -- at 1443: .if_icmp .ge 27
      refine x_icmp_ge (tgt := 1470) dR_init_1443 (by decide) (fun _ => ?_) (fun h => absurd (Int32.le_refl _) h)
      refine x_return dR_init_1470 rfl ?_
      refine h1 K L1 (fun k hkk => (hk k hkk).trans (hk1 k hkk)) own ?_
      rw [hE, show tw 36 = fa0 from tw_36]
      funext x
      by_cases hx : x = 0
      · subst hx
        rw [upr_s]
        rfl
      · rw [upr_n _ _ hx]
        unfold E0 addT EY
        by_cases h29 : x = 29
        · subst h29
          rw [up2_s, up2_s, upr_n _ _ (by decide), upr_n _ _ (by decide), upr_n _ _ (by decide), upr_n _ _ (by decide), upr_n _ _ (by decide)]
        · rw [up2_n _ _ _ h29, up2_n _ _ _ h29]
          by_cases h31 : x = 31
          · subst h31
            rw [upr_s, upr_s]
            rfl
          · rw [upr_n _ _ h31, upr_n _ _ h31]
            by_cases h30 : x = 30
            · subst h30
              rw [upr_s, upr_s]
              rfl
            · rw [upr_n _ _ h30, upr_n _ _ h30, upr_n _ _ hx]
    | succ r ih =>
      intro i K hi hk own hE
      refine x_iload_n dR_init_1440 rfl ?_
      refine x_bipush (v := 36) dR_init_1441 rfl ?_
      -- at 1443: .if_icmp .ge 27
      refine x_icmp_ge (tgt := 1470) dR_init_1443 (by decide) (fun h => absurd h (nI_ge (b := 36) (by omega) (by omega))) (fun _ => ?_)
      refine x_aload_n dR_init_1446 rfl ?_
      refine x_getR fl_R_7 rfl dR_init_1447 rfl rfl rfl ?_
      refine x_iload_n dR_init_1450 rfl ?_
      refine x_iload_n dR_init_1451 rfl ?_
      refine x_bipush (v := 6) dR_init_1452 rfl ?_
      refine x_idiv dR_init_1454 (by decide) ?_
      refine x_iload_n dR_init_1455 rfl ?_
      refine x_bipush (v := 6) dR_init_1456 rfl ?_
      refine x_irem dR_init_1458 (by decide) ?_
      refine x_isub dR_init_1459 ?_
      -- at 1460: .invokestatic 144
      refine x_callS_1 c_R_size ok_R_size ml_R_144 dR_init_1460 rfl rfl ?_
      refine ⟨_, rfl, ?_⟩
      rw [tw_r i (by omega)]
      refine x_iastJ (j := i) dR_init_1463 rfl rfl rfl (by omega) ?_
      refine x_iincp_1 dR_init_1464 rfl rfl ?_
      refine x_goto (tgt := 1440) dR_init_1467 (by decide) ?_
      -- at 1440: .iload_n 1
      rw [nI_1]
      refine ih (i + 1) _ (by omega) (fun k hkk => ?_) (own.up (by decide) (Or.inl (by decide))) ?_
      · rw [up2_n _ _ _ (by omega)]
        exact hk k hkk
      · rw [rE_u0, hE, tw_s]
  have tape : ∀ (r i : Nat), i + r = 75 → X mR_init G (7, 0, 0) S1 (upr J 78 (fL (lawL.take i))) LL 1403 [.ref 59, .int (nI i)] [] Post := by
    intro r
    induction r with
    | zero =>
      intro i hi
      obtain rfl : i = 75 := by omega
      refine x_iload_n dR_init_1403 rfl ?_
      refine x_bipush (v := 75) dR_init_1404 rfl ?_
      -- at 1406: .if_icmp .ge 21
      refine x_icmp_ge (tgt := 1427) dR_init_1406 (by decide) (fun _ => ?_) (fun h => absurd (Int32.le_refl _) h)
      refine x_aload_n dR_init_1427 rfl ?_
      refine x_bipush (v := 75) dR_init_1428 rfl ?_
      refine x_putI fl_R_137 rfl dR_init_1430 (by decide) rfl rfl rfl rfl ?_
      refine x_aload_n dR_init_1433 rfl ?_
      -- at 1434: .invokevirtual 140
      obtain ⟨e1, own⟩ := rE_first hF hz
      have e23 : rE (up2 (upr J 78 (fL (lawL.take 75))) 59 23 75) 29 6 = nI 75 := by
        show up2 (upr J 78 (fL (lawL.take 75))) 59 23 75 59 23 = nI 75
        rw [up2_s, up1_s]
        rfl
      have e18 : rE (up2 (upr J 78 (fL (lawL.take 75))) 59 23 75) 18 = mk 75 (fL (lawL.take 75)) := by
        show mk (cl (up2 (upr J 78 (fL (lawL.take 75))) 59 23 75 59 23)) (up2 (upr J 78 (fL (lawL.take 75))) 59 23 75 78) = _
        rw [up2_s, up1_s, up2_n _ _ _ (by decide), upr_s]
        rfl
      have e4 : rE (up2 (upr J 78 (fL (lawL.take 75))) 59 23 75) 29 4 = 0 := by
        have := congrFun (congrFun e1 29) 4
        unfold clr at this
        rw [upr_n _ _ (by decide), up2_s, up1_n _ _ (by decide)] at this
        rw [this]
        rfl
      have lk : ∀ k, k < 59 → up2 (upr J 78 (fL (lawL.take 75))) 59 23 75 k = I0 k := fun k hk => by
        rw [up2_n _ _ _ (by omega), upr_n _ _ (by omega), hF.1 k (by omega), up2_n _ _ _ (by omega), up2_n _ _ _ (by omega)]
      generalize up2 (upr J 78 (fL (lawL.take 75))) 59 23 75 = K at e1 own e23 e18 e4 lk
      have et : tN (rE K) = 0 := by unfold tN; rw [e4]; rfl
      have ez : zN (rE K) = 75 := by unfold zN; rw [e23]; rfl
      have hx : txR (rE K) = .inr (LA, LB, LC) := by
        unfold txR
        rw [ez, e18, tokS_congr (fun i hi => mk_lt hi) 0]
        exact law_pt
      refine x_callV_0 c_R_text ok_R_text ml_R_140 dR_init_1434 rfl rfl rfl rfl rfl ?_
      refine ⟨rfl, rfl, ⟨by rw [et, e4]; rfl, by omega, fun t ht => by omega, by rw [ez]; exact e23, by omega⟩, own, fun I' L' hk own' hE => ?_⟩
      rw [textU, e4, if_neg (not_not_intro (by decide)), hx] at hE
      have hE2 : rE I' = addT EY 0 LA LB LC := by
        rw [hE]
        show addT (clr (rE K)) (tN (rE K)) LA LB LC = _
        rw [e1, et]
      refine x_pop dR_init_1437 rfl ?_
      refine x_iconst (v := 0) dR_init_1438 rfl ?_
      refine x_istoren_1 dR_init_1439 rfl rfl ?_
      -- at 1440: .iload_n 1
      refine far I' L' (fun k hkk => (hk k hkk).trans (lk k hkk)) 36 0 I' rfl (fun _ _ => rfl) own' ?_
      rw [hE2, tw_0]
      funext x
      by_cases hx : x = 0
      · subst hx
        rw [upr_s]
        rfl
      · rw [upr_n _ _ hx]
    | succ r ih =>
      intro i hi
      obtain ⟨b, hb⟩ : ∃ b, lawL[i]? = some b := ⟨lawL[i]'(by show i < 75; omega), List.getElem?_eq_getElem _⟩
      refine x_iload_n dR_init_1403 rfl ?_
      refine x_bipush (v := 75) dR_init_1404 rfl ?_
      -- at 1406: .if_icmp .ge 21
      refine x_icmp_ge (tgt := 1427) dR_init_1406 (by decide) (fun h => absurd h (nI_ge (b := 75) (by omega) (by omega))) (fun _ => ?_)
      refine x_aload_n dR_init_1409 rfl ?_
      refine x_getR fl_R_68 rfl dR_init_1410 rfl rfl rfl ?_
      refine x_iload_n dR_init_1413 rfl ?_
      refine x_aload_n dR_init_1414 rfl ?_
      refine x_getR fl_R_107 rfl dR_init_1415 rfl rfl rfl ?_
      refine x_iload_n dR_init_1418 rfl ?_
      -- at 1419: .iaload
      refine x_ialdJ (j := i) dR_init_1419 rfl rfl rfl (by omega) ?_
      have e : upr J 78 (fL (lawL.take i)) 91 i = b := by
        rw [upr_n _ _ (by decide), hF.2 91 (by decide) (by decide)]
        show (lawL.take 75).getD i 0 = b
        rw [show lawL.take 75 = lawL from rfl, List.getD_eq_getElem?_getD, hb]
        rfl
      rw [e]
      refine x_iastJ (j := i) dR_init_1420 rfl rfl rfl (by omega) ?_
      rw [fL_t hb]
      refine x_iincp_1 dR_init_1421 rfl rfl ?_
      refine x_goto (tgt := 1403) dR_init_1424 (by decide) ?_
      -- at 1403: .iload_n 1
      rw [nI_1]
      exact ih (i + 1) (by omega)
  refine x_iconst (v := 0) dR_init_1401 rfl ?_
  refine x_istoren_1 dR_init_1402 rfl rfl ?_
  -- at 1403: .iload_n 1
  have hp := tape 75 0 rfl
  have e0 : upr J 78 (fL (lawL.take 0)) = J := by
    funext x
    by_cases hx : x = 78
    · subst hx
      rw [upr_s, hF.2 78 (by decide) (by decide)]
      rfl
    · rw [upr_n _ _ hx]
  rw [e0] at hp
  exact hp
set_option maxHeartbeats 4000000 in
set_option maxRecDepth 100000 in
theorem c_R_init : Con mR_init 7 40 2493 sp_R_init := by
  refine con_of_X rfl fun G as S I L Post hs => ?_
  obtain ⟨rfl, rfl, hz, h1⟩ := hs
  refine ⟨1, Nat.le_of_ble_eq_true rfl, ?_⟩
  show X mR_init G _ (SP 60 [(59, 0, 0)]) I L 0 [.ref 59, .null] [] Post
  have hF : Fill 60 60 I I := Fill.nil
  refine x_aload_n dR_init_0 rfl ?_
  refine x_objInit dR_init_1 ml_R_1 im_obj co_obj rfl rfl ?_
  refine x_aload_n dR_init_4 rfl ?_
  refine x_bipush (v := 36) dR_init_5 rfl ?_
  refine x_newSP (N := 36) (n := 60) dR_init_7 rfl rfl rfl rfl ?_
  replace hF := hF.pushf (n := 60) (f := fun _ => 0) (by decide) rfl
  generalize upr I 60 (fun _ => (0 : Int32)) = J at hF ⊢
  refine x_putSP (j := 0) fl_R_7 rfl dR_init_9 (by decide) rfl rfl rfl (by decide) (by decide) (fun _ => rfl) (fun _ => rfl) ?_
  refine x_aload_n dR_init_12 rfl ?_
  refine x_bipush (v := 6) dR_init_13 rfl ?_
  refine x_newSP (N := 6) (n := 61) dR_init_15 rfl rfl rfl rfl ?_
  replace hF := hF.pushf (n := 61) (f := fun _ => 0) (by decide) rfl
  generalize upr J 61 (fun _ => (0 : Int32)) = J at hF ⊢
  refine x_putSP (j := 1) fl_R_13 rfl dR_init_17 (by decide) rfl rfl rfl (by decide) (by decide) (fun _ => rfl) (fun _ => rfl) ?_
  refine x_aload_n dR_init_20 rfl ?_
  refine x_iconst (v := 2) dR_init_21 rfl ?_
  refine x_putI fl_R_16 rfl dR_init_22 (by decide) rfl rfl rfl rfl ?_
  replace hF := hF.lo (q := 59) (j := 2) (x := 2) (by decide)
  generalize up2 J 59 2 2 = J at hF ⊢
  refine x_aload_n dR_init_25 rfl ?_
  refine x_bipush (v := 8) dR_init_26 rfl ?_
  refine x_newSP (N := 8) (n := 62) dR_init_28 rfl rfl rfl rfl ?_
  replace hF := hF.pushf (n := 62) (f := fun _ => 0) (by decide) rfl
  generalize upr J 62 (fun _ => (0 : Int32)) = J at hF ⊢
  refine x_putSP (j := 4) fl_R_20 rfl dR_init_30 (by decide) rfl rfl rfl (by decide) (by decide) (fun _ => rfl) (fun _ => rfl) ?_
  refine x_aload_n dR_init_33 rfl ?_
  refine x_bipush (v := 8) dR_init_34 rfl ?_
  refine x_newSP (N := 8) (n := 63) dR_init_36 rfl rfl rfl rfl ?_
  replace hF := hF.pushf (n := 63) (f := fun _ => 0) (by decide) rfl
  generalize upr J 63 (fun _ => (0 : Int32)) = J at hF ⊢
  refine x_putSP (j := 5) fl_R_23 rfl dR_init_38 (by decide) rfl rfl rfl (by decide) (by decide) (fun _ => rfl) (fun _ => rfl) ?_
  refine x_aload_n dR_init_41 rfl ?_
  refine x_bipush (v := 8) dR_init_42 rfl ?_
  refine x_newSP (N := 8) (n := 64) dR_init_44 rfl rfl rfl rfl ?_
  replace hF := hF.pushf (n := 64) (f := fun _ => 0) (by decide) rfl
  generalize upr J 64 (fun _ => (0 : Int32)) = J at hF ⊢
  refine x_putSP (j := 6) fl_R_26 rfl dR_init_46 (by decide) rfl rfl rfl (by decide) (by decide) (fun _ => rfl) (fun _ => rfl) ?_
  refine x_aload_n dR_init_49 rfl ?_
  refine x_bipush (v := 8) dR_init_50 rfl ?_
  refine x_newSP (N := 8) (n := 65) dR_init_52 rfl rfl rfl rfl ?_
  replace hF := hF.pushf (n := 65) (f := fun _ => 0) (by decide) rfl
  generalize upr J 65 (fun _ => (0 : Int32)) = J at hF ⊢
  refine x_putSP (j := 7) fl_R_29 rfl dR_init_54 (by decide) rfl rfl rfl (by decide) (by decide) (fun _ => rfl) (fun _ => rfl) ?_
  refine x_aload_n dR_init_57 rfl ?_
  refine x_bipush (v := 8) dR_init_58 rfl ?_
  refine x_newSP (N := 8) (n := 66) dR_init_60 rfl rfl rfl rfl ?_
  replace hF := hF.pushf (n := 66) (f := fun _ => 0) (by decide) rfl
  generalize upr J 66 (fun _ => (0 : Int32)) = J at hF ⊢
  refine x_putSP (j := 8) fl_R_32 rfl dR_init_62 (by decide) rfl rfl rfl (by decide) (by decide) (fun _ => rfl) (fun _ => rfl) ?_
  refine x_aload_n dR_init_65 rfl ?_
  refine x_bipush (v := 8) dR_init_66 rfl ?_
  refine x_newSP (N := 8) (n := 67) dR_init_68 rfl rfl rfl rfl ?_
  replace hF := hF.pushf (n := 67) (f := fun _ => 0) (by decide) rfl
  generalize upr J 67 (fun _ => (0 : Int32)) = J at hF ⊢
  refine x_putSP (j := 9) fl_R_35 rfl dR_init_70 (by decide) rfl rfl rfl (by decide) (by decide) (fun _ => rfl) (fun _ => rfl) ?_
  refine x_aload_n dR_init_73 rfl ?_
  refine x_bipush (v := 8) dR_init_74 rfl ?_
  refine x_newSP (N := 8) (n := 68) dR_init_76 rfl rfl rfl rfl ?_
  replace hF := hF.pushf (n := 68) (f := fun _ => 0) (by decide) rfl
  generalize upr J 68 (fun _ => (0 : Int32)) = J at hF ⊢
  refine x_putSP (j := 10) fl_R_38 rfl dR_init_78 (by decide) rfl rfl rfl (by decide) (by decide) (fun _ => rfl) (fun _ => rfl) ?_
  refine x_aload_n dR_init_81 rfl ?_
  refine x_bipush (v := 8) dR_init_82 rfl ?_
  refine x_newSP (N := 8) (n := 69) dR_init_84 rfl rfl rfl rfl ?_
  rw [show upr J 69 (fun _ => (0 : Int32)) = upr J 69 (fL (List.take 0 m8L)) from rfl]
  refine ri_69_0 ?_
  replace hF := hF.pushf (n := 69) (f := fL (List.take 8 m8L)) (by decide) rfl
  generalize upr J 69 (fL (List.take 8 m8L)) = J at hF ⊢
  refine x_putSP (j := 11) fl_R_41 rfl dR_init_120 (by decide) rfl rfl rfl (by decide) (by decide) (fun _ => rfl) (fun _ => rfl) ?_
  refine x_aload_n dR_init_123 rfl ?_
  refine x_bipush (v := 8) dR_init_124 rfl ?_
  refine x_newSP (N := 8) (n := 70) dR_init_126 rfl rfl rfl rfl ?_
  replace hF := hF.pushf (n := 70) (f := fun _ => 0) (by decide) rfl
  generalize upr J 70 (fun _ => (0 : Int32)) = J at hF ⊢
  refine x_putSP (j := 13) fl_R_44 rfl dR_init_128 (by decide) rfl rfl rfl (by decide) (by decide) (fun _ => rfl) (fun _ => rfl) ?_
  refine x_aload_n dR_init_131 rfl ?_
  refine x_bipush (v := 8) dR_init_132 rfl ?_
  refine x_newSP (N := 8) (n := 71) dR_init_134 rfl rfl rfl rfl ?_
  replace hF := hF.pushf (n := 71) (f := fun _ => 0) (by decide) rfl
  generalize upr J 71 (fun _ => (0 : Int32)) = J at hF ⊢
  refine x_putSP (j := 14) fl_R_47 rfl dR_init_136 (by decide) rfl rfl rfl (by decide) (by decide) (fun _ => rfl) (fun _ => rfl) ?_
  refine x_aload_n dR_init_139 rfl ?_
  refine x_bipush (v := 8) dR_init_140 rfl ?_
  refine x_newSP (N := 8) (n := 72) dR_init_142 rfl rfl rfl rfl ?_
  replace hF := hF.pushf (n := 72) (f := fun _ => 0) (by decide) rfl
  generalize upr J 72 (fun _ => (0 : Int32)) = J at hF ⊢
  refine x_putSP (j := 15) fl_R_50 rfl dR_init_144 (by decide) rfl rfl rfl (by decide) (by decide) (fun _ => rfl) (fun _ => rfl) ?_
  refine x_aload_n dR_init_147 rfl ?_
  refine x_bipush (v := 8) dR_init_148 rfl ?_
  refine x_newSP (N := 8) (n := 73) dR_init_150 rfl rfl rfl rfl ?_
  replace hF := hF.pushf (n := 73) (f := fun _ => 0) (by decide) rfl
  generalize upr J 73 (fun _ => (0 : Int32)) = J at hF ⊢
  refine x_putSP (j := 16) fl_R_53 rfl dR_init_152 (by decide) rfl rfl rfl (by decide) (by decide) (fun _ => rfl) (fun _ => rfl) ?_
  refine x_aload_n dR_init_155 rfl ?_
  refine x_bipush (v := 11) dR_init_156 rfl ?_
  refine x_newSP (N := 11) (n := 74) dR_init_158 rfl rfl rfl rfl ?_
  replace hF := hF.pushf (n := 74) (f := fun _ => 0) (by decide) rfl
  generalize upr J 74 (fun _ => (0 : Int32)) = J at hF ⊢
  refine x_putSP (j := 18) fl_R_56 rfl dR_init_160 (by decide) rfl rfl rfl (by decide) (by decide) (fun _ => rfl) (fun _ => rfl) ?_
  refine x_aload_n dR_init_163 rfl ?_
  refine x_bipush (v := 11) dR_init_164 rfl ?_
  refine x_newSP (N := 11) (n := 75) dR_init_166 rfl rfl rfl rfl ?_
  replace hF := hF.pushf (n := 75) (f := fun _ => 0) (by decide) rfl
  generalize upr J 75 (fun _ => (0 : Int32)) = J at hF ⊢
  refine x_putSP (j := 19) fl_R_59 rfl dR_init_168 (by decide) rfl rfl rfl (by decide) (by decide) (fun _ => rfl) (fun _ => rfl) ?_
  refine x_aload_n dR_init_171 rfl ?_
  refine x_bipush (v := 11) dR_init_172 rfl ?_
  refine x_newSP (N := 11) (n := 76) dR_init_174 rfl rfl rfl rfl ?_
  replace hF := hF.pushf (n := 76) (f := fun _ => 0) (by decide) rfl
  generalize upr J 76 (fun _ => (0 : Int32)) = J at hF ⊢
  refine x_putSP (j := 20) fl_R_62 rfl dR_init_176 (by decide) rfl rfl rfl (by decide) (by decide) (fun _ => rfl) (fun _ => rfl) ?_
  refine x_aload_n dR_init_179 rfl ?_
  refine x_bipush (v := 11) dR_init_180 rfl ?_
  refine x_newSP (N := 11) (n := 77) dR_init_182 rfl rfl rfl rfl ?_
  replace hF := hF.pushf (n := 77) (f := fun _ => 0) (by decide) rfl
  generalize upr J 77 (fun _ => (0 : Int32)) = J at hF ⊢
  refine x_putSP (j := 21) fl_R_65 rfl dR_init_184 (by decide) rfl rfl rfl (by decide) (by decide) (fun _ => rfl) (fun _ => rfl) ?_
  refine x_aload_n dR_init_187 rfl ?_
  refine x_sipush (v := 160) dR_init_188 rfl ?_
  refine x_newSP (N := 160) (n := 78) dR_init_191 rfl rfl rfl rfl ?_
  replace hF := hF.pushf (n := 78) (f := fun _ => 0) (by decide) rfl
  generalize upr J 78 (fun _ => (0 : Int32)) = J at hF ⊢
  refine x_putSP (j := 22) fl_R_68 rfl dR_init_193 (by decide) rfl rfl rfl (by decide) (by decide) (fun _ => rfl) (fun _ => rfl) ?_
  refine x_aload_n dR_init_196 rfl ?_
  refine x_sipush (v := 1200) dR_init_197 rfl ?_
  refine x_newSP (N := 1200) (n := 79) dR_init_200 rfl rfl rfl rfl ?_
  replace hF := hF.pushf (n := 79) (f := fun _ => 0) (by decide) rfl
  generalize upr J 79 (fun _ => (0 : Int32)) = J at hF ⊢
  refine x_putSP (j := 24) fl_R_71 rfl dR_init_202 (by decide) rfl rfl rfl (by decide) (by decide) (fun _ => rfl) (fun _ => rfl) ?_
  refine x_aload_n dR_init_205 rfl ?_
  refine x_bipush (v := 24) dR_init_206 rfl ?_
  refine x_newSP (N := 24) (n := 80) dR_init_208 rfl rfl rfl rfl ?_
  replace hF := hF.pushf (n := 80) (f := fun _ => 0) (by decide) rfl
  generalize upr J 80 (fun _ => (0 : Int32)) = J at hF ⊢
  refine x_putSP (j := 25) fl_R_74 rfl dR_init_210 (by decide) rfl rfl rfl (by decide) (by decide) (fun _ => rfl) (fun _ => rfl) ?_
  refine x_aload_n dR_init_213 rfl ?_
  refine x_bipush (v := 36) dR_init_214 rfl ?_
  refine x_newSP (N := 36) (n := 81) dR_init_216 rfl rfl rfl rfl ?_
  replace hF := hF.pushf (n := 81) (f := fun _ => 0) (by decide) rfl
  generalize upr J 81 (fun _ => (0 : Int32)) = J at hF ⊢
  refine x_putSP (j := 33) fl_R_77 rfl dR_init_218 (by decide) rfl rfl rfl (by decide) (by decide) (fun _ => rfl) (fun _ => rfl) ?_
  refine x_aload_n dR_init_221 rfl ?_
  refine x_bipush (v := 6) dR_init_222 rfl ?_
  refine x_newSP (N := 6) (n := 82) dR_init_224 rfl rfl rfl rfl ?_
  replace hF := hF.pushf (n := 82) (f := fun _ => 0) (by decide) rfl
  generalize upr J 82 (fun _ => (0 : Int32)) = J at hF ⊢
  refine x_putSP (j := 34) fl_R_80 rfl dR_init_226 (by decide) rfl rfl rfl (by decide) (by decide) (fun _ => rfl) (fun _ => rfl) ?_
  refine x_aload_n dR_init_229 rfl ?_
  refine x_bipush (v := 8) dR_init_230 rfl ?_
  refine x_newSP (N := 8) (n := 83) dR_init_232 rfl rfl rfl rfl ?_
  replace hF := hF.pushf (n := 83) (f := fun _ => 0) (by decide) rfl
  generalize upr J 83 (fun _ => (0 : Int32)) = J at hF ⊢
  refine x_putSP (j := 35) fl_R_83 rfl dR_init_234 (by decide) rfl rfl rfl (by decide) (by decide) (fun _ => rfl) (fun _ => rfl) ?_
  refine x_aload_n dR_init_237 rfl ?_
  refine x_bipush (v := 11) dR_init_238 rfl ?_
  refine x_newSP (N := 11) (n := 84) dR_init_240 rfl rfl rfl rfl ?_
  replace hF := hF.pushf (n := 84) (f := fun _ => 0) (by decide) rfl
  generalize upr J 84 (fun _ => (0 : Int32)) = J at hF ⊢
  refine x_putSP (j := 36) fl_R_86 rfl dR_init_242 (by decide) rfl rfl rfl (by decide) (by decide) (fun _ => rfl) (fun _ => rfl) ?_
  refine x_aload_n dR_init_245 rfl ?_
  refine x_bipush (v := 11) dR_init_246 rfl ?_
  refine x_newSP (N := 11) (n := 85) dR_init_248 rfl rfl rfl rfl ?_
  replace hF := hF.pushf (n := 85) (f := fun _ => 0) (by decide) rfl
  generalize upr J 85 (fun _ => (0 : Int32)) = J at hF ⊢
  refine x_putSP (j := 37) fl_R_89 rfl dR_init_250 (by decide) rfl rfl rfl (by decide) (by decide) (fun _ => rfl) (fun _ => rfl) ?_
  refine x_aload_n dR_init_253 rfl ?_
  refine x_bipush (v := 11) dR_init_254 rfl ?_
  refine x_newSP (N := 11) (n := 86) dR_init_256 rfl rfl rfl rfl ?_
  replace hF := hF.pushf (n := 86) (f := fun _ => 0) (by decide) rfl
  generalize upr J 86 (fun _ => (0 : Int32)) = J at hF ⊢
  refine x_putSP (j := 38) fl_R_92 rfl dR_init_258 (by decide) rfl rfl rfl (by decide) (by decide) (fun _ => rfl) (fun _ => rfl) ?_
  refine x_aload_n dR_init_261 rfl ?_
  refine x_bipush (v := 11) dR_init_262 rfl ?_
  refine x_newSP (N := 11) (n := 87) dR_init_264 rfl rfl rfl rfl ?_
  replace hF := hF.pushf (n := 87) (f := fun _ => 0) (by decide) rfl
  generalize upr J 87 (fun _ => (0 : Int32)) = J at hF ⊢
  refine x_putSP (j := 39) fl_R_95 rfl dR_init_266 (by decide) rfl rfl rfl (by decide) (by decide) (fun _ => rfl) (fun _ => rfl) ?_
  refine x_aload_n dR_init_269 rfl ?_
  refine x_iconst (v := 4) dR_init_270 rfl ?_
  refine x_newSP (N := 4) (n := 88) dR_init_271 rfl rfl rfl rfl ?_
  rw [show upr J 88 (fun _ => (0 : Int32)) = upr J 88 (fL (List.take 0 m4L)) from rfl]
  refine ri_88_0 ?_
  replace hF := hF.pushf (n := 88) (f := fL (List.take 4 m4L)) (by decide) rfl
  generalize upr J 88 (fL (List.take 4 m4L)) = J at hF ⊢
  refine x_putSP (j := 40) fl_R_98 rfl dR_init_289 (by decide) rfl rfl rfl (by decide) (by decide) (fun _ => rfl) (fun _ => rfl) ?_
  refine x_aload_n dR_init_292 rfl ?_
  refine x_iconst (v := 4) dR_init_293 rfl ?_
  refine x_newSP (N := 4) (n := 89) dR_init_294 rfl rfl rfl rfl ?_
  replace hF := hF.pushf (n := 89) (f := fun _ => 0) (by decide) rfl
  generalize upr J 89 (fun _ => (0 : Int32)) = J at hF ⊢
  refine x_putSP (j := 41) fl_R_101 rfl dR_init_296 (by decide) rfl rfl rfl (by decide) (by decide) (fun _ => rfl) (fun _ => rfl) ?_
  refine x_aload_n dR_init_299 rfl ?_
  refine x_sipush (v := 160) dR_init_300 rfl ?_
  refine x_newSP (N := 160) (n := 90) dR_init_303 rfl rfl rfl rfl ?_
  replace hF := hF.pushf (n := 90) (f := fun _ => 0) (by decide) rfl
  generalize upr J 90 (fun _ => (0 : Int32)) = J at hF ⊢
  refine x_putSP (j := 42) fl_R_104 rfl dR_init_305 (by decide) rfl rfl rfl (by decide) (by decide) (fun _ => rfl) (fun _ => rfl) ?_
  refine x_aload_n dR_init_308 rfl ?_
  refine x_bipush (v := 75) dR_init_309 rfl ?_
  refine x_newSP (N := 75) (n := 91) dR_init_311 rfl rfl rfl rfl ?_
  rw [show upr J 91 (fun _ => (0 : Int32)) = upr J 91 (fL (List.take 0 lawL)) from rfl]
  refine ri_91_0 ?_
  refine ri_91_15 ?_
  refine ri_91_30 ?_
  refine ri_91_45 ?_
  refine ri_91_60 ?_
  replace hF := hF.pushf (n := 91) (f := fL (List.take 75 lawL)) (by decide) rfl
  generalize upr J 91 (fL (List.take 75 lawL)) = J at hF ⊢
  refine x_putSP (j := 43) fl_R_107 rfl dR_init_757 (by decide) rfl rfl rfl (by decide) (by decide) (fun _ => rfl) (fun _ => rfl) ?_
  refine x_aload_n dR_init_760 rfl ?_
  refine x_bipush (v := 96) dR_init_761 rfl ?_
  refine x_newSP (N := 96) (n := 92) dR_init_763 rfl rfl rfl rfl ?_
  rw [show upr J 92 (fun _ => (0 : Int32)) = upr J 92 (fL (List.take 0 wordsL)) from rfl]
  refine ri_92_0 ?_
  refine ri_92_15 ?_
  refine ri_92_30 ?_
  refine ri_92_45 ?_
  refine ri_92_60 ?_
  refine ri_92_75 ?_
  refine ri_92_90 ?_
  replace hF := hF.pushf (n := 92) (f := fL (List.take 96 wordsL)) (by decide) rfl
  generalize upr J 92 (fL (List.take 96 wordsL)) = J at hF ⊢
  refine x_putSP (j := 48) fl_R_110 rfl dR_init_1335 (by decide) rfl rfl rfl (by decide) (by decide) (fun _ => rfl) (fun _ => rfl) ?_
  refine x_aload_n dR_init_1338 rfl ?_
  refine x_sipush (v := 200) dR_init_1339 rfl ?_
  refine x_newSP (N := 200) (n := 93) dR_init_1342 rfl rfl rfl rfl ?_
  replace hF := hF.pushf (n := 93) (f := fun _ => 0) (by decide) rfl
  generalize upr J 93 (fun _ => (0 : Int32)) = J at hF ⊢
  refine x_putSP (j := 49) fl_R_113 rfl dR_init_1344 (by decide) rfl rfl rfl (by decide) (by decide) (fun _ => rfl) (fun _ => rfl) ?_
  refine x_aload_n dR_init_1347 rfl ?_
  refine x_sipush (v := 200) dR_init_1348 rfl ?_
  refine x_newSP (N := 200) (n := 94) dR_init_1351 rfl rfl rfl rfl ?_
  replace hF := hF.pushf (n := 94) (f := fun _ => 0) (by decide) rfl
  generalize upr J 94 (fun _ => (0 : Int32)) = J at hF ⊢
  refine x_putSP (j := 53) fl_R_116 rfl dR_init_1353 (by decide) rfl rfl rfl (by decide) (by decide) (fun _ => rfl) (fun _ => rfl) ?_
  refine x_aload_n dR_init_1356 rfl ?_
  refine x_bipush (v := 6) dR_init_1357 rfl ?_
  refine x_newSP (N := 6) (n := 95) dR_init_1359 rfl rfl rfl rfl ?_
  replace hF := hF.pushf (n := 95) (f := fun _ => 0) (by decide) rfl
  generalize upr J 95 (fun _ => (0 : Int32)) = J at hF ⊢
  refine x_putSP (j := 54) fl_R_119 rfl dR_init_1361 (by decide) rfl rfl rfl (by decide) (by decide) (fun _ => rfl) (fun _ => rfl) ?_
  refine x_aload_n dR_init_1364 rfl ?_
  refine x_bipush (v := 64) dR_init_1365 rfl ?_
  refine x_newSP (N := 64) (n := 96) dR_init_1367 rfl rfl rfl rfl ?_
  replace hF := hF.pushf (n := 96) (f := fun _ => 0) (by decide) rfl
  generalize upr J 96 (fun _ => (0 : Int32)) = J at hF ⊢
  refine x_putSP (j := 57) fl_R_122 rfl dR_init_1369 (by decide) rfl rfl rfl (by decide) (by decide) (fun _ => rfl) (fun _ => rfl) ?_
  refine x_aload_n dR_init_1372 rfl ?_
  refine x_bipush (v := 8) dR_init_1373 rfl ?_
  refine x_newSP (N := 8) (n := 97) dR_init_1375 rfl rfl rfl rfl ?_
  replace hF := hF.pushf (n := 97) (f := fun _ => 0) (by decide) rfl
  generalize upr J 97 (fun _ => (0 : Int32)) = J at hF ⊢
  refine x_putSP (j := 58) fl_R_125 rfl dR_init_1377 (by decide) rfl rfl rfl (by decide) (by decide) (fun _ => rfl) (fun _ => rfl) ?_
  refine x_aload_n dR_init_1380 rfl ?_
  refine x_bipush (v := 8) dR_init_1381 rfl ?_
  refine x_newSP (N := 8) (n := 98) dR_init_1383 rfl rfl rfl rfl ?_
  replace hF := hF.pushf (n := 98) (f := fun _ => 0) (by decide) rfl
  generalize upr J 98 (fun _ => (0 : Int32)) = J at hF ⊢
  refine x_putSP (j := 59) fl_R_128 rfl dR_init_1385 (by decide) rfl rfl rfl (by decide) (by decide) (fun _ => rfl) (fun _ => rfl) ?_
  refine x_aload_n dR_init_1388 rfl ?_
  refine x_iconst (v := -1) dR_init_1389 rfl ?_
  refine x_putI fl_R_131 rfl dR_init_1390 (by decide) rfl rfl rfl rfl ?_
  replace hF := hF.lo (q := 59) (j := 60) (x := -1) (by decide)
  generalize up2 J 59 60 (-1) = J at hF ⊢
  refine x_aload_n dR_init_1393 rfl ?_
  refine x_bipush (v := 8) dR_init_1394 rfl ?_
  refine x_newSP (N := 8) (n := 99) dR_init_1396 rfl rfl rfl rfl ?_
  replace hF := hF.pushf (n := 99) (f := fun _ => 0) (by decide) rfl
  generalize upr J 99 (fun _ => (0 : Int32)) = J at hF ⊢
  refine x_putSP (j := 61) fl_R_134 rfl dR_init_1398 (by decide) rfl rfl rfl (by decide) (by decide) (fun _ => rfl) (fun _ => rfl) ?_
  rw [SP_close (by decide) (fun _ => rfl), SP_100]
  exact ri_end hF hz h1
end
