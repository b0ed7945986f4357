/-! the class's reader while the class is being made: 59 cells -/
def S5 : Shp := (59, kd S1, rr S1)
def sp_Reader_lettersEnd5 : SpT := fun as S I L Post => ∃ a z : Nat, as = [.ref 23, .int (nI a)] ∧ S = S5 ∧ I 23 1 = nI z ∧ z ≤ 160 ∧ a ≤ z ∧ Post (some (.int (nI (letE (I 24) z (z - a) a)))) S5 I L
set_option maxHeartbeats 4000000 in
set_option maxRecDepth 100000 in
theorem c_Reader_lettersEnd5 : Con mReader_lettersEnd 4 0 0 sp_Reader_lettersEnd5 := by
  refine con_of_X rfl fun G as S I L Post hs => ?_
  obtain ⟨a, z, rfl, rfl, hz, hz2, ha, h1⟩ := hs
  refine ⟨1, Nat.le_of_ble_eq_true rfl, ?_⟩
  show X mReader_lettersEnd G _ S5 I L 0 [.ref 23, .int (nI a), .null] [] Post
  refine x_iload_n dReader_lettersEnd_0 rfl ?_
  refine x_istoren_2 dReader_lettersEnd_1 rfl rfl ?_
  -- at 2: .iload_n 2
  have loop : ∀ (k i : Nat), i + k = z → letE (I 24) z (z - a) a = letE (I 24) z k i → X mReader_lettersEnd G (4, 0, 0) S5 I L 2 [.ref 23, .int (nI a), .int (nI i)] [] Post := by
    intro k
    induction k with
    | zero =>
      intro i hi he
      obtain rfl : i = z := by omega
      refine x_iload_n dReader_lettersEnd_2 rfl ?_
      refine x_aload_n dReader_lettersEnd_3 rfl ?_
      refine x_getI fl_Reader_15 rfl dReader_lettersEnd_4 rfl rfl ?_
      -- at 7: .if_icmp .ge 21
      rw [hz]
      refine x_icmp_ge (tgt := 28) dReader_lettersEnd_7 (by decide) (fun _ => ?_) (fun h => absurd (Int32.le_refl _) h)
      refine x_iload_n dReader_lettersEnd_28 rfl ?_
      -- at 29: .ireturn
      refine x_ireturn dReader_lettersEnd_29 rfl rfl ?_
      rw [he] at h1
      exact h1
    | succ k ih =>
      intro i hi he
      rw [letE] at he
      refine x_iload_n dReader_lettersEnd_2 rfl ?_
      refine x_aload_n dReader_lettersEnd_3 rfl ?_
      refine x_getI fl_Reader_15 rfl dReader_lettersEnd_4 rfl rfl ?_
      -- at 7: .if_icmp .ge 21
      rw [hz]
      refine x_icmp_ge (tgt := 28) dReader_lettersEnd_7 (by decide) (fun h => absurd h (nI_ge (b := z) (by omega) (by omega))) (fun _ => ?_)
      refine x_aload_n dReader_lettersEnd_10 rfl ?_
      refine x_getR fl_Reader_9 rfl dReader_lettersEnd_11 rfl rfl rfl ?_
      refine x_iload_n dReader_lettersEnd_14 rfl ?_
      refine x_ialdJ (j := i) dReader_lettersEnd_15 rfl rfl (by first | rfl | (simp only [← nI_add, ← pk_mul]; rfl)) (by omega) ?_
      -- at 16: .invokestatic 54
      refine x_callS_1 c_Reader_isLetter ok_Reader_isLetter ml_Reader_54 dReader_lettersEnd_16 rfl rfl ?_
      refine ⟨_, rfl, fun q => ?_, fun q => ?_⟩
      · rw [if_pos ⟨by omega, q⟩] at he
        refine x_if_eq (tgt := 28) dReader_lettersEnd_19 (by decide) (fun h => absurd h (by decide)) (fun _ => ?_)
        refine x_iincp_2 dReader_lettersEnd_22 rfl rfl ?_
        refine x_goto (tgt := 2) dReader_lettersEnd_25 (by decide) ?_
        -- at 2: .iload_n 2
        rw [nI_1]
        exact ih (i + 1) (by omega) he
      · rw [if_neg (fun y => q y.2)] at he
        refine x_if_eq (tgt := 28) dReader_lettersEnd_19 (by decide) (fun _ => ?_) (fun h => absurd (by decide) h)
        refine x_iload_n dReader_lettersEnd_28 rfl ?_
        -- at 29: .ireturn
        refine x_ireturn dReader_lettersEnd_29 rfl rfl ?_
        rw [he] at h1
        exact h1
  exact loop (z - a) a (by omega) rfl
def sp_Reader_digitsEnd5 : SpT := fun as S I L Post => ∃ a z : Nat, as = [.ref 23, .int (nI a)] ∧ S = S5 ∧ I 23 1 = nI z ∧ z ≤ 160 ∧ a ≤ z ∧ Post (some (.int (nI (digE (I 24) z (z - a) a)))) S5 I L
set_option maxHeartbeats 4000000 in
set_option maxRecDepth 100000 in
theorem c_Reader_digitsEnd5 : Con mReader_digitsEnd 4 0 0 sp_Reader_digitsEnd5 := by
  refine con_of_X rfl fun G as S I L Post hs => ?_
  obtain ⟨a, z, rfl, rfl, hz, hz2, ha, h1⟩ := hs
  refine ⟨1, Nat.le_of_ble_eq_true rfl, ?_⟩
  show X mReader_digitsEnd G _ S5 I L 0 [.ref 23, .int (nI a), .null] [] Post
  refine x_iload_n dReader_digitsEnd_0 rfl ?_
  refine x_istoren_2 dReader_digitsEnd_1 rfl rfl ?_
  -- at 2: .iload_n 2
  have loop : ∀ (k i : Nat), i + k = z → digE (I 24) z (z - a) a = digE (I 24) z k i → X mReader_digitsEnd G (4, 0, 0) S5 I L 2 [.ref 23, .int (nI a), .int (nI i)] [] Post := by
    intro k
    induction k with
    | zero =>
      intro i hi he
      obtain rfl : i = z := by omega
      refine x_iload_n dReader_digitsEnd_2 rfl ?_
      refine x_aload_n dReader_digitsEnd_3 rfl ?_
      refine x_getI fl_Reader_15 rfl dReader_digitsEnd_4 rfl rfl ?_
      -- at 7: .if_icmp .ge 21
      rw [hz]
      refine x_icmp_ge (tgt := 28) dReader_digitsEnd_7 (by decide) (fun _ => ?_) (fun h => absurd (Int32.le_refl _) h)
      refine x_iload_n dReader_digitsEnd_28 rfl ?_
      -- at 29: .ireturn
      refine x_ireturn dReader_digitsEnd_29 rfl rfl ?_
      rw [he] at h1
      exact h1
    | succ k ih =>
      intro i hi he
      rw [digE] at he
      refine x_iload_n dReader_digitsEnd_2 rfl ?_
      refine x_aload_n dReader_digitsEnd_3 rfl ?_
      refine x_getI fl_Reader_15 rfl dReader_digitsEnd_4 rfl rfl ?_
      -- at 7: .if_icmp .ge 21
      rw [hz]
      refine x_icmp_ge (tgt := 28) dReader_digitsEnd_7 (by decide) (fun h => absurd h (nI_ge (b := z) (by omega) (by omega))) (fun _ => ?_)
      refine x_aload_n dReader_digitsEnd_10 rfl ?_
      refine x_getR fl_Reader_9 rfl dReader_digitsEnd_11 rfl rfl rfl ?_
      refine x_iload_n dReader_digitsEnd_14 rfl ?_
      refine x_ialdJ (j := i) dReader_digitsEnd_15 rfl rfl (by first | rfl | (simp only [← nI_add, ← pk_mul]; rfl)) (by omega) ?_
      -- at 16: .invokestatic 65
      refine x_callS_1 c_Reader_isDigit ok_Reader_isDigit ml_Reader_65 dReader_digitsEnd_16 rfl rfl ?_
      refine ⟨_, rfl, fun q => ?_, fun q => ?_⟩
      · rw [if_pos ⟨by omega, q⟩] at he
        refine x_if_eq (tgt := 28) dReader_digitsEnd_19 (by decide) (fun h => absurd h (by decide)) (fun _ => ?_)
        refine x_iincp_2 dReader_digitsEnd_22 rfl rfl ?_
        refine x_goto (tgt := 2) dReader_digitsEnd_25 (by decide) ?_
        -- at 2: .iload_n 2
        rw [nI_1]
        exact ih (i + 1) (by omega) he
      · rw [if_neg (fun y => q y.2)] at he
        refine x_if_eq (tgt := 28) dReader_digitsEnd_19 (by decide) (fun _ => ?_) (fun h => absurd (by decide) h)
        refine x_iload_n dReader_digitsEnd_28 rfl ?_
        -- at 29: .ireturn
        refine x_ireturn dReader_digitsEnd_29 rfl rfl ?_
        rw [he] at h1
        exact h1
  exact loop (z - a) a (by omega) rfl
def sp_Reader_putToken5 : SpT := fun as S I L Post => ∃ (n : Nat) (s p v : Int32), as = [.ref 23, .int s, .int p, .int v] ∧ S = S5 ∧ I 23 5 = nI n ∧ n ≤ 160 ∧ Post none S5 (ptk I n s p v) L
set_option maxHeartbeats 4000000 in
set_option maxRecDepth 100000 in
theorem c_Reader_putToken5 : Con mReader_putToken 2 0 0 sp_Reader_putToken5 := by
  refine con_of_X rfl fun G as S I L Post hs => ?_
  obtain ⟨n, s, p, v, rfl, rfl, hn, h160, h1⟩ := hs
  refine ⟨0, Nat.le_of_ble_eq_true rfl, ?_⟩
  show X mReader_putToken G _ S5 I L 0 [.ref 23, .int s, .int p, .int v] [] Post
  refine x_aload_n dReader_putToken_0 rfl ?_
  refine x_getI fl_Reader_28 rfl dReader_putToken_1 rfl rfl ?_
  refine x_sipush (v := 160) dReader_putToken_4 rfl ?_
  -- at 7: .if_icmp .gt 43
  rw [hn]
  refine x_icmp_gt (tgt := 50) dReader_putToken_7 (by decide) (fun h => absurd h (Int32.not_lt.mpr (nI_le (b := 160) h160 (by omega)))) (fun _ => ?_)
  refine x_aload_n dReader_putToken_10 rfl ?_
  refine x_getR fl_Reader_19 rfl dReader_putToken_11 rfl rfl rfl ?_
  refine x_aload_n dReader_putToken_14 rfl ?_
  refine x_getI fl_Reader_28 rfl dReader_putToken_15 rfl rfl ?_
  -- at 18: .iload_n 1
  rw [hn]
  refine x_iload_n dReader_putToken_18 rfl ?_
  refine x_iastJ (j := n) dReader_putToken_19 rfl rfl (by first | rfl | (simp only [← nI_add, ← pk_mul]; rfl)) (by omega) ?_
  refine x_aload_n dReader_putToken_20 rfl ?_
  refine x_getR fl_Reader_22 rfl dReader_putToken_21 rfl rfl rfl ?_
  refine x_aload_n dReader_putToken_24 rfl ?_
  refine x_getI fl_Reader_28 rfl dReader_putToken_25 rfl rfl ?_
  -- at 28: .iload_n 2
  simp only [up2_n, up2_s, ne_eq, Nat.reduceEqDiff, not_false_eq_true, hn]
  refine x_iload_n dReader_putToken_28 rfl ?_
  refine x_iastJ (j := n) dReader_putToken_29 rfl rfl (by first | rfl | (simp only [← nI_add, ← pk_mul]; rfl)) (by omega) ?_
  refine x_aload_n dReader_putToken_30 rfl ?_
  refine x_getR fl_Reader_25 rfl dReader_putToken_31 rfl rfl rfl ?_
  refine x_aload_n dReader_putToken_34 rfl ?_
  refine x_getI fl_Reader_28 rfl dReader_putToken_35 rfl rfl ?_
  -- at 38: .iload_n 3
  simp only [up2_n, up2_s, ne_eq, Nat.reduceEqDiff, not_false_eq_true, hn]
  refine x_iload_n dReader_putToken_38 rfl ?_
  refine x_iastJ (j := n) dReader_putToken_39 rfl rfl (by first | rfl | (simp only [← nI_add, ← pk_mul]; rfl)) (by omega) ?_
  refine x_aload_n dReader_putToken_40 rfl ?_
  refine x_dup dReader_putToken_41 rfl ?_
  refine x_getI fl_Reader_28 rfl dReader_putToken_42 rfl rfl ?_
  refine x_iconst (v := 1) dReader_putToken_45 rfl ?_
  refine x_iadd dReader_putToken_46 ?_
  refine x_putI fl_Reader_28 rfl dReader_putToken_47 (by decide) rfl rfl rfl rfl ?_
  -- at 50: .return_
  simp only [up2_n, up2_s, ne_eq, Nat.reduceEqDiff, not_false_eq_true, hn]
  refine x_return dReader_putToken_50 rfl ?_
  exact h1
def sp_Reader_putNumber5 : SpT := fun as S I L Post => ∃ a e n : Nat, as = [.ref 23, .int (nI a), .int (nI e)] ∧ S = S5 ∧ I 23 5 = nI n ∧ n ≤ 160 ∧ a ≤ e ∧ e ≤ 160 ∧
  Post none S5 (if 4 < e - a then ptk I n 1 (nI a) 0 else ptk I n 2 (nI a) (numV (I 24) (e - a) a)) L
set_option maxHeartbeats 4000000 in
set_option maxRecDepth 100000 in
theorem c_Reader_putNumber5 : Con mReader_putNumber 3 0 0 sp_Reader_putNumber5 := by
  refine con_of_X rfl fun G as S I L Post hs => ?_
  obtain ⟨a, e, n, rfl, rfl, hn, h160, hae, he, h1⟩ := hs
  refine ⟨2, Nat.le_of_ble_eq_true rfl, ?_⟩
  show X mReader_putNumber G _ S5 I L 0 [.ref 23, .int (nI a), .int (nI e), .null, .null] [] Post
  refine x_iload_n dReader_putNumber_0 rfl ?_
  refine x_iload_n dReader_putNumber_1 rfl ?_
  refine x_isub dReader_putNumber_2 ?_
  -- at 3: .iconst 4
  refine x_eqi (y := nI (e - a)) (pk_sub hae) ?_
  refine x_iconst (v := 4) dReader_putNumber_3 rfl ?_
  -- at 4: .if_icmp .le 11
  by_cases h4 : 4 < e - a
  · rw [if_pos h4] at h1
    refine x_icmp_le (tgt := 15) dReader_putNumber_4 (by decide) (fun h => absurd h (nI_ge (a := 4) h4 (by omega))) (fun _ => ?_)
    refine x_aload_n dReader_putNumber_7 rfl ?_
    refine x_iconst (v := 1) dReader_putNumber_8 rfl ?_
    refine x_iload_n dReader_putNumber_9 rfl ?_
    refine x_iconst (v := 0) dReader_putNumber_10 rfl ?_
    -- at 11: .invokevirtual 77
    refine x_callV_3 c_Reader_putToken5 ok_Reader_putToken ml_Reader_77 dReader_putNumber_11 rfl rfl rfl rfl rfl ?_
    refine ⟨n, _, _, _, rfl, rfl, hn, h160, ?_⟩
    refine x_return dReader_putNumber_14 rfl ?_
    exact h1
  · rw [if_neg h4] at h1
    refine x_icmp_le (tgt := 15) dReader_putNumber_4 (by decide) (fun _ => ?_) (fun h => absurd (nI_le (b := 4) (by omega) (by omega)) h)
    refine x_iconst (v := 0) dReader_putNumber_15 rfl ?_
    refine x_istoren_3 dReader_putNumber_16 rfl rfl ?_
    refine x_iload_n dReader_putNumber_17 rfl ?_
    refine x_istore_4 dReader_putNumber_18 rfl rfl ?_
    -- at 20: .iload 4
    have loop : ∀ (k i : Nat) (acc : Int32), i + k = e - a → acc = numV (I 24) i a → X mReader_putNumber G (3, 0, 0) S5 I L 20 [.ref 23, .int (nI a), .int (nI e), .int acc, .int (nI (a + i))] [] Post := by
      intro k
      induction k with
      | zero =>
        intro i acc hi hacc
        refine x_iload dReader_putNumber_20 rfl ?_
        refine x_iload_n dReader_putNumber_22 rfl ?_
        -- at 23: .if_icmp .ge 25
        refine x_icmp_ge (tgt := 48) dReader_putNumber_23 (by decide) (fun _ => ?_) (fun h => absurd (nI_le (by omega) (by omega)) h)
        refine x_aload_n dReader_putNumber_48 rfl ?_
        refine x_iconst (v := 2) dReader_putNumber_49 rfl ?_
        refine x_iload_n dReader_putNumber_50 rfl ?_
        refine x_iload_n dReader_putNumber_51 rfl ?_
        -- at 52: .invokevirtual 77
        refine x_callV_3 c_Reader_putToken5 ok_Reader_putToken ml_Reader_77 dReader_putNumber_52 rfl rfl rfl rfl rfl ?_
        refine ⟨n, _, _, _, rfl, rfl, hn, h160, ?_⟩
        refine x_return dReader_putNumber_55 rfl ?_
        obtain rfl : i = e - a := by omega
        rw [hacc]
        exact h1
      | succ k ih =>
        intro i acc hi hacc
        refine x_iload dReader_putNumber_20 rfl ?_
        refine x_iload_n dReader_putNumber_22 rfl ?_
        -- at 23: .if_icmp .ge 25
        refine x_icmp_ge (tgt := 48) dReader_putNumber_23 (by decide) (fun h => absurd h (nI_ge (b := e) (by omega) (by omega))) (fun _ => ?_)
        refine x_iload_n dReader_putNumber_26 rfl ?_
        refine x_bipush (v := 10) dReader_putNumber_27 rfl ?_
        refine x_imul dReader_putNumber_29 ?_
        refine x_aload_n dReader_putNumber_30 rfl ?_
        refine x_getR fl_Reader_9 rfl dReader_putNumber_31 rfl rfl rfl ?_
        refine x_iload dReader_putNumber_34 rfl ?_
        refine x_ialdJ (j := a + i) dReader_putNumber_36 rfl rfl (by first | rfl | (simp only [← nI_add, ← pk_mul]; rfl)) (by omega) ?_
        refine x_iadd dReader_putNumber_37 ?_
        refine x_bipush (v := 48) dReader_putNumber_38 rfl ?_
        refine x_isub dReader_putNumber_40 ?_
        refine x_istoren_3 dReader_putNumber_41 rfl rfl ?_
        refine x_iincp_4 dReader_putNumber_42 rfl rfl ?_
        refine x_goto (tgt := 20) dReader_putNumber_45 (by decide) ?_
        -- at 20: .iload 4
        rw [nI_1]
        refine ih (i + 1) _ (by omega) ?_
        rw [numV, hacc]
    exact loop (e - a) 0 0 (by omega) rfl
def sp_Reader_spells5 : SpT := fun as S I L Post => ∃ q a e : Nat, as = [.ref 23, .ref (1000000 + q), .int (nI a), .int (nI e)] ∧ S = S5 ∧ q < nStr ∧ a ≤ e ∧ e ≤ 160 ∧ bPost (wordAt (I 24) a e = stB.getD q []) S5 I L Post
set_option maxHeartbeats 4000000 in
set_option maxRecDepth 100000 in
theorem c_Reader_spells5 : Con mReader_spells 7 0 0 sp_Reader_spells5 := by
  refine con_of_X rfl fun G as S I L Post hs => ?_
  obtain ⟨q, a, e, rfl, rfl, hq, hae, he, h1, h2⟩ := hs
  have h75 := len_ok q hq
  refine ⟨1, Nat.le_of_ble_eq_true rfl, ?_⟩
  show X mReader_spells G _ S5 I L 0 [.ref 23, .ref (1000000 + q), .int (nI a), .int (nI e), .null] [] Post
  refine x_aload_n dReader_spells_0 rfl ?_
  -- at 1: .invokevirtual 116
  refine x_callT (As := []) (rest := []) c_String_length ok_String_length ml_Reader_116 dReader_spells_1 rfl rfl rfl hq rfl rfl ?_
  refine ⟨q, rfl, hq, ?_⟩
  refine x_iload_n dReader_spells_4 rfl ?_
  refine x_iload_n dReader_spells_5 rfl ?_
  -- at 6: .isub
  refine (x_isub dReader_spells_6 ?_)
  refine x_eqi (y := nI (e - a)) (pk_sub hae) ?_
  by_cases hl : stL.getD q 0 = e - a
  · refine x_icmp_eq (tgt := 12) dReader_spells_7 (by decide) (fun _ => ?_) (fun h => absurd (congrArg nI hl) h)
    refine x_iload_n dReader_spells_12 rfl ?_
    refine x_istore_4 dReader_spells_13 rfl rfl ?_
    -- at 15: .iload 4
    have loop : ∀ (k i : Nat), i + k = e - a → (∀ j, j < i → (stB.getD q []).getD j 0 = I 24 (a + j)) → X mReader_spells G (7, 0, 0) S5 I L 15 [.ref 23, .ref (1000000 + q), .int (nI a), .int (nI e), .int (nI (a + i))] [] Post := by
      intro k
      induction k with
      | zero =>
        intro i hi hall
        refine x_iload dReader_spells_15 rfl ?_
        refine x_iload_n dReader_spells_17 rfl ?_
        -- at 18: .if_icmp .ge 29
        refine x_icmp_ge (tgt := 47) dReader_spells_18 (by decide) (fun _ => ?_) (fun h => absurd (nI_le (by omega) (by omega)) h)
        refine x_iconst (v := 1) dReader_spells_47 rfl ?_
        -- at 48: .ireturn
        refine x_ireturn dReader_spells_48 rfl rfl ?_
        exact h1 (word_eq hq hl (fun j hj => hall j (by omega)))
      | succ k ih =>
        intro i hi hall
        refine x_iload dReader_spells_15 rfl ?_
        refine x_iload_n dReader_spells_17 rfl ?_
        -- at 18: .if_icmp .ge 29
        refine x_icmp_ge (tgt := 47) dReader_spells_18 (by decide) (fun h => absurd h (nI_ge (b := e) (by omega) (by omega))) (fun _ => ?_)
        refine x_aload_n dReader_spells_21 rfl ?_
        refine x_iload dReader_spells_22 rfl ?_
        refine x_iload_n dReader_spells_24 rfl ?_
        refine x_isub dReader_spells_25 ?_
        -- at 26: .invokevirtual 122
        refine x_eqi (y := nI i) (by rw [pk_sub (by omega)]; congr 1; omega) ?_
        refine x_callT (As := [.int (nI i)]) (rest := []) c_String_charAt ok_String_charAt ml_Reader_122 dReader_spells_26 rfl rfl rfl hq rfl rfl ?_
        refine ⟨q, i, rfl, hq, by omega, ?_⟩
        refine x_aload_n dReader_spells_29 rfl ?_
        refine x_getR fl_Reader_9 rfl dReader_spells_30 rfl rfl rfl ?_
        refine x_iload dReader_spells_33 rfl ?_
        refine x_ialdJ (j := a + i) dReader_spells_35 rfl rfl (by first | rfl | (simp only [← nI_add, ← pk_mul]; rfl)) (by omega) ?_
        -- at 36: .if_icmp .eq 5
        refine x_icmp_eq (tgt := 41) dReader_spells_36 (by decide) (fun d1 => ?_) (fun d1 => ?_)
        · refine x_iincp_4 dReader_spells_41 rfl rfl ?_
          refine x_goto (tgt := 15) dReader_spells_44 (by decide) ?_
          -- at 15: .iload 4
          rw [nI_1]
          refine ih (i + 1) (by omega) (fun j hj => ?_)
          by_cases y : j = i
          · subst y; exact d1
          · exact hall j (by omega)
        · refine x_iconst (v := 0) dReader_spells_39 rfl ?_
          -- at 40: .ireturn
          refine x_ireturn dReader_spells_40 rfl rfl ?_
          exact h2 (word_ne2 (i := i) (by omega) d1)
    exact loop (e - a) 0 (by omega) (fun j hj => absurd hj (Nat.not_lt_zero j))
  · refine x_icmp_eq (tgt := 12) dReader_spells_7 (by decide) (fun h => absurd h (fun z => hl ((nI_eq (by omega) (by omega)).mp z))) (fun _ => ?_)
    refine x_iconst (v := 0) dReader_spells_10 rfl ?_
    -- at 11: .ireturn
    refine x_ireturn dReader_spells_11 rfl rfl ?_
    exact h2 (word_ne1 hq hl)
def sp_Reader_nameAt5 : SpT := fun as S I L Post => ∃ a e : Nat, as = [.ref 23, .int (nI a), .int (nI e)] ∧ S = S5 ∧ a ≤ e ∧ e ≤ 160 ∧ Post (some (.int (if wordAt (I 24) a e = stB.getD 1 [] then 0 else if wordAt (I 24) a e = stB.getD 2 [] then 1 else if wordAt (I 24) a e = stB.getD 3 [] then 2 else if wordAt (I 24) a e = stB.getD 4 [] then 3 else if wordAt (I 24) a e = stB.getD 5 [] then 4 else if wordAt (I 24) a e = stB.getD 6 [] then 5 else -1))) S5 I L
set_option maxHeartbeats 4000000 in
set_option maxRecDepth 100000 in
theorem c_Reader_nameAt5 : Con mReader_nameAt 8 0 0 sp_Reader_nameAt5 := by
  refine con_of_X rfl fun G as S I L Post hs => ?_
  obtain ⟨a, e, rfl, rfl, hae, he, h1⟩ := hs
  refine ⟨0, Nat.le_of_ble_eq_true rfl, ?_⟩
  show X mReader_nameAt G _ S5 I L 0 [.ref 23, .int (nI a), .int (nI e)] [] Post
  refine x_aload_n dReader_nameAt_0 rfl ?_
  refine x_ldcS (i := 1) dReader_nameAt_1 rfl rfl rfl ?_
  refine x_iload_n dReader_nameAt_3 rfl ?_
  refine x_iload_n dReader_nameAt_4 rfl ?_
  -- at 5: .invokevirtual 90
  refine x_callV_3 c_Reader_spells5 ok_Reader_spells ml_Reader_90 dReader_nameAt_5 rfl rfl rfl rfl rfl ?_
  refine ⟨1, a, e, rfl, rfl, by decide, hae, he, fun w => ?_, fun w => ?_⟩
  · rw [if_pos w] at h1
    refine x_if_eq (tgt := 13) dReader_nameAt_8 (by decide) (fun h => absurd h (by decide)) (fun _ => ?_)
    refine x_iconst (v := 0) dReader_nameAt_11 rfl ?_
    -- at 12: .ireturn
    refine x_ireturn dReader_nameAt_12 rfl rfl ?_
    exact h1
  · rw [if_neg w] at h1
    refine x_if_eq (tgt := 13) dReader_nameAt_8 (by decide) (fun _ => ?_) (fun h => absurd (by decide) h)
    refine x_aload_n dReader_nameAt_13 rfl ?_
    refine x_ldcS (i := 2) dReader_nameAt_14 rfl rfl rfl ?_
    refine x_iload_n dReader_nameAt_16 rfl ?_
    refine x_iload_n dReader_nameAt_17 rfl ?_
    -- at 18: .invokevirtual 90
    refine x_callV_3 c_Reader_spells5 ok_Reader_spells ml_Reader_90 dReader_nameAt_18 rfl rfl rfl rfl rfl ?_
    refine ⟨2, a, e, rfl, rfl, by decide, hae, he, fun w => ?_, fun w => ?_⟩
    · rw [if_pos w] at h1
      refine x_if_eq (tgt := 26) dReader_nameAt_21 (by decide) (fun h => absurd h (by decide)) (fun _ => ?_)
      refine x_iconst (v := 1) dReader_nameAt_24 rfl ?_
      -- at 25: .ireturn
      refine x_ireturn dReader_nameAt_25 rfl rfl ?_
      exact h1
    · rw [if_neg w] at h1
      refine x_if_eq (tgt := 26) dReader_nameAt_21 (by decide) (fun _ => ?_) (fun h => absurd (by decide) h)
      refine x_aload_n dReader_nameAt_26 rfl ?_
      refine x_ldcS (i := 3) dReader_nameAt_27 rfl rfl rfl ?_
      refine x_iload_n dReader_nameAt_29 rfl ?_
      refine x_iload_n dReader_nameAt_30 rfl ?_
      -- at 31: .invokevirtual 90
      refine x_callV_3 c_Reader_spells5 ok_Reader_spells ml_Reader_90 dReader_nameAt_31 rfl rfl rfl rfl rfl ?_
      refine ⟨3, a, e, rfl, rfl, by decide, hae, he, fun w => ?_, fun w => ?_⟩
      · rw [if_pos w] at h1
        refine x_if_eq (tgt := 39) dReader_nameAt_34 (by decide) (fun h => absurd h (by decide)) (fun _ => ?_)
        refine x_iconst (v := 2) dReader_nameAt_37 rfl ?_
        -- at 38: .ireturn
        refine x_ireturn dReader_nameAt_38 rfl rfl ?_
        exact h1
      · rw [if_neg w] at h1
        refine x_if_eq (tgt := 39) dReader_nameAt_34 (by decide) (fun _ => ?_) (fun h => absurd (by decide) h)
        refine x_aload_n dReader_nameAt_39 rfl ?_
        refine x_ldcS (i := 4) dReader_nameAt_40 rfl rfl rfl ?_
        refine x_iload_n dReader_nameAt_42 rfl ?_
        refine x_iload_n dReader_nameAt_43 rfl ?_
        -- at 44: .invokevirtual 90
        refine x_callV_3 c_Reader_spells5 ok_Reader_spells ml_Reader_90 dReader_nameAt_44 rfl rfl rfl rfl rfl ?_
        refine ⟨4, a, e, rfl, rfl, by decide, hae, he, fun w => ?_, fun w => ?_⟩
        · rw [if_pos w] at h1
          refine x_if_eq (tgt := 52) dReader_nameAt_47 (by decide) (fun h => absurd h (by decide)) (fun _ => ?_)
          refine x_iconst (v := 3) dReader_nameAt_50 rfl ?_
          -- at 51: .ireturn
          refine x_ireturn dReader_nameAt_51 rfl rfl ?_
          exact h1
        · rw [if_neg w] at h1
          refine x_if_eq (tgt := 52) dReader_nameAt_47 (by decide) (fun _ => ?_) (fun h => absurd (by decide) h)
          refine x_aload_n dReader_nameAt_52 rfl ?_
          refine x_ldcS (i := 5) dReader_nameAt_53 rfl rfl rfl ?_
          refine x_iload_n dReader_nameAt_55 rfl ?_
          refine x_iload_n dReader_nameAt_56 rfl ?_
          -- at 57: .invokevirtual 90
          refine x_callV_3 c_Reader_spells5 ok_Reader_spells ml_Reader_90 dReader_nameAt_57 rfl rfl rfl rfl rfl ?_
          refine ⟨5, a, e, rfl, rfl, by decide, hae, he, fun w => ?_, fun w => ?_⟩
          · rw [if_pos w] at h1
            refine x_if_eq (tgt := 65) dReader_nameAt_60 (by decide) (fun h => absurd h (by decide)) (fun _ => ?_)
            refine x_iconst (v := 4) dReader_nameAt_63 rfl ?_
            -- at 64: .ireturn
            refine x_ireturn dReader_nameAt_64 rfl rfl ?_
            exact h1
          · rw [if_neg w] at h1
            refine x_if_eq (tgt := 65) dReader_nameAt_60 (by decide) (fun _ => ?_) (fun h => absurd (by decide) h)
            refine x_aload_n dReader_nameAt_65 rfl ?_
            refine x_ldcS (i := 6) dReader_nameAt_66 rfl rfl rfl ?_
            refine x_iload_n dReader_nameAt_68 rfl ?_
            refine x_iload_n dReader_nameAt_69 rfl ?_
            -- at 70: .invokevirtual 90
            refine x_callV_3 c_Reader_spells5 ok_Reader_spells ml_Reader_90 dReader_nameAt_70 rfl rfl rfl rfl rfl ?_
            refine ⟨6, a, e, rfl, rfl, by decide, hae, he, fun w => ?_, fun w => ?_⟩
            · rw [if_pos w] at h1
              refine x_if_eq (tgt := 78) dReader_nameAt_73 (by decide) (fun h => absurd h (by decide)) (fun _ => ?_)
              refine x_iconst (v := 5) dReader_nameAt_76 rfl ?_
              -- at 77: .ireturn
              refine x_ireturn dReader_nameAt_77 rfl rfl ?_
              exact h1
            · rw [if_neg w] at h1
              refine x_if_eq (tgt := 78) dReader_nameAt_73 (by decide) (fun _ => ?_) (fun h => absurd (by decide) h)
              refine x_iconst (v := -1) dReader_nameAt_78 rfl ?_
              -- at 79: .ireturn
              refine x_ireturn dReader_nameAt_79 rfl rfl ?_
              exact h1
def sp_Reader_keyAt5 : SpT := fun as S I L Post => ∃ a e : Nat, as = [.ref 23, .int (nI a), .int (nI e)] ∧ S = S5 ∧ a ≤ e ∧ e ≤ 160 ∧ Post (some (.int (if wordAt (I 24) a e = stB.getD 7 [] then 4 else if wordAt (I 24) a e = stB.getD 8 [] then 5 else if wordAt (I 24) a e = stB.getD 9 [] then 6 else if wordAt (I 24) a e = stB.getD 10 [] then 7 else if wordAt (I 24) a e = stB.getD 11 [] then 8 else if wordAt (I 24) a e = stB.getD 12 [] then 9 else 1))) S5 I L
set_option maxHeartbeats 4000000 in
set_option maxRecDepth 100000 in
theorem c_Reader_keyAt5 : Con mReader_keyAt 8 0 0 sp_Reader_keyAt5 := by
  refine con_of_X rfl fun G as S I L Post hs => ?_
  obtain ⟨a, e, rfl, rfl, hae, he, h1⟩ := hs
  refine ⟨0, Nat.le_of_ble_eq_true rfl, ?_⟩
  show X mReader_keyAt G _ S5 I L 0 [.ref 23, .int (nI a), .int (nI e)] [] Post
  refine x_aload_n dReader_keyAt_0 rfl ?_
  refine x_ldcS (i := 7) dReader_keyAt_1 rfl rfl rfl ?_
  refine x_iload_n dReader_keyAt_3 rfl ?_
  refine x_iload_n dReader_keyAt_4 rfl ?_
  -- at 5: .invokevirtual 90
  refine x_callV_3 c_Reader_spells5 ok_Reader_spells ml_Reader_90 dReader_keyAt_5 rfl rfl rfl rfl rfl ?_
  refine ⟨7, a, e, rfl, rfl, by decide, hae, he, fun w => ?_, fun w => ?_⟩
  · rw [if_pos w] at h1
    refine x_if_eq (tgt := 13) dReader_keyAt_8 (by decide) (fun h => absurd h (by decide)) (fun _ => ?_)
    refine x_iconst (v := 4) dReader_keyAt_11 rfl ?_
    -- at 12: .ireturn
    refine x_ireturn dReader_keyAt_12 rfl rfl ?_
    exact h1
  · rw [if_neg w] at h1
    refine x_if_eq (tgt := 13) dReader_keyAt_8 (by decide) (fun _ => ?_) (fun h => absurd (by decide) h)
    refine x_aload_n dReader_keyAt_13 rfl ?_
    refine x_ldcS (i := 8) dReader_keyAt_14 rfl rfl rfl ?_
    refine x_iload_n dReader_keyAt_16 rfl ?_
    refine x_iload_n dReader_keyAt_17 rfl ?_
    -- at 18: .invokevirtual 90
    refine x_callV_3 c_Reader_spells5 ok_Reader_spells ml_Reader_90 dReader_keyAt_18 rfl rfl rfl rfl rfl ?_
    refine ⟨8, a, e, rfl, rfl, by decide, hae, he, fun w => ?_, fun w => ?_⟩
    · rw [if_pos w] at h1
      refine x_if_eq (tgt := 26) dReader_keyAt_21 (by decide) (fun h => absurd h (by decide)) (fun _ => ?_)
      refine x_iconst (v := 5) dReader_keyAt_24 rfl ?_
      -- at 25: .ireturn
      refine x_ireturn dReader_keyAt_25 rfl rfl ?_
      exact h1
    · rw [if_neg w] at h1
      refine x_if_eq (tgt := 26) dReader_keyAt_21 (by decide) (fun _ => ?_) (fun h => absurd (by decide) h)
      refine x_aload_n dReader_keyAt_26 rfl ?_
      refine x_ldcS (i := 9) dReader_keyAt_27 rfl rfl rfl ?_
      refine x_iload_n dReader_keyAt_29 rfl ?_
      refine x_iload_n dReader_keyAt_30 rfl ?_
      -- at 31: .invokevirtual 90
      refine x_callV_3 c_Reader_spells5 ok_Reader_spells ml_Reader_90 dReader_keyAt_31 rfl rfl rfl rfl rfl ?_
      refine ⟨9, a, e, rfl, rfl, by decide, hae, he, fun w => ?_, fun w => ?_⟩
      · rw [if_pos w] at h1
        refine x_if_eq (tgt := 40) dReader_keyAt_34 (by decide) (fun h => absurd h (by decide)) (fun _ => ?_)
        refine x_bipush (v := 6) dReader_keyAt_37 rfl ?_
        -- at 39: .ireturn
        refine x_ireturn dReader_keyAt_39 rfl rfl ?_
        exact h1
      · rw [if_neg w] at h1
        refine x_if_eq (tgt := 40) dReader_keyAt_34 (by decide) (fun _ => ?_) (fun h => absurd (by decide) h)
        refine x_aload_n dReader_keyAt_40 rfl ?_
        refine x_ldcS (i := 10) dReader_keyAt_41 rfl rfl rfl ?_
        refine x_iload_n dReader_keyAt_43 rfl ?_
        refine x_iload_n dReader_keyAt_44 rfl ?_
        -- at 45: .invokevirtual 90
        refine x_callV_3 c_Reader_spells5 ok_Reader_spells ml_Reader_90 dReader_keyAt_45 rfl rfl rfl rfl rfl ?_
        refine ⟨10, a, e, rfl, rfl, by decide, hae, he, fun w => ?_, fun w => ?_⟩
        · rw [if_pos w] at h1
          refine x_if_eq (tgt := 54) dReader_keyAt_48 (by decide) (fun h => absurd h (by decide)) (fun _ => ?_)
          refine x_bipush (v := 7) dReader_keyAt_51 rfl ?_
          -- at 53: .ireturn
          refine x_ireturn dReader_keyAt_53 rfl rfl ?_
          exact h1
        · rw [if_neg w] at h1
          refine x_if_eq (tgt := 54) dReader_keyAt_48 (by decide) (fun _ => ?_) (fun h => absurd (by decide) h)
          refine x_aload_n dReader_keyAt_54 rfl ?_
          refine x_ldcS (i := 11) dReader_keyAt_55 rfl rfl rfl ?_
          refine x_iload_n dReader_keyAt_57 rfl ?_
          refine x_iload_n dReader_keyAt_58 rfl ?_
          -- at 59: .invokevirtual 90
          refine x_callV_3 c_Reader_spells5 ok_Reader_spells ml_Reader_90 dReader_keyAt_59 rfl rfl rfl rfl rfl ?_
          refine ⟨11, a, e, rfl, rfl, by decide, hae, he, fun w => ?_, fun w => ?_⟩
          · rw [if_pos w] at h1
            refine x_if_eq (tgt := 68) dReader_keyAt_62 (by decide) (fun h => absurd h (by decide)) (fun _ => ?_)
            refine x_bipush (v := 8) dReader_keyAt_65 rfl ?_
            -- at 67: .ireturn
            refine x_ireturn dReader_keyAt_67 rfl rfl ?_
            exact h1
          · rw [if_neg w] at h1
            refine x_if_eq (tgt := 68) dReader_keyAt_62 (by decide) (fun _ => ?_) (fun h => absurd (by decide) h)
            refine x_aload_n dReader_keyAt_68 rfl ?_
            refine x_ldcS (i := 12) dReader_keyAt_69 rfl rfl rfl ?_
            refine x_iload_n dReader_keyAt_71 rfl ?_
            refine x_iload_n dReader_keyAt_72 rfl ?_
            -- at 73: .invokevirtual 90
            refine x_callV_3 c_Reader_spells5 ok_Reader_spells ml_Reader_90 dReader_keyAt_73 rfl rfl rfl rfl rfl ?_
            refine ⟨12, a, e, rfl, rfl, by decide, hae, he, fun w => ?_, fun w => ?_⟩
            · rw [if_pos w] at h1
              refine x_if_eq (tgt := 82) dReader_keyAt_76 (by decide) (fun h => absurd h (by decide)) (fun _ => ?_)
              refine x_bipush (v := 9) dReader_keyAt_79 rfl ?_
              -- at 81: .ireturn
              refine x_ireturn dReader_keyAt_81 rfl rfl ?_
              exact h1
            · rw [if_neg w] at h1
              refine x_if_eq (tgt := 82) dReader_keyAt_76 (by decide) (fun _ => ?_) (fun h => absurd (by decide) h)
              refine x_iconst (v := 1) dReader_keyAt_82 rfl ?_
              -- at 83: .ireturn
              refine x_ireturn dReader_keyAt_83 rfl rfl ?_
              exact h1
def sp_Reader_putWord5 : SpT := fun as S I L Post => ∃ a e n : Nat, as = [.ref 23, .int (nI a), .int (nI e)] ∧ S = S5 ∧ I 23 5 = nI n ∧ n ≤ 160 ∧ a ≤ e ∧ e ≤ 160 ∧ Post none S5 (ptk I n (kindW (wordAt (I 24) a e)).1 (nI a) (kindW (wordAt (I 24) a e)).2) L
set_option maxHeartbeats 4000000 in
set_option maxRecDepth 100000 in
theorem c_Reader_putWord5 : Con mReader_putWord 9 0 0 sp_Reader_putWord5 := by
  refine con_of_X rfl fun G as S I L Post hs => ?_
  obtain ⟨a, e, n, rfl, rfl, hn, h160, hae, he, h1⟩ := hs
  refine ⟨1, Nat.le_of_ble_eq_true rfl, ?_⟩
  show X mReader_putWord G _ S5 I L 0 [.ref 23, .int (nI a), .int (nI e), .null] [] Post
  refine x_aload_n dReader_putWord_0 rfl ?_
  refine x_iload_n dReader_putWord_1 rfl ?_
  refine x_iload_n dReader_putWord_2 rfl ?_
  -- at 3: .invokevirtual 81
  refine x_callV_2 c_Reader_nameAt5 ok_Reader_nameAt ml_Reader_81 dReader_putWord_3 rfl rfl rfl rfl rfl ?_
  refine ⟨a, e, rfl, rfl, hae, he, ?_⟩
  rw [kindW_name]
  by_cases h3 : (kindW (wordAt (I 24) a e)).1 = 3
  · rw [if_pos h3]
    refine x_istoren_3 dReader_putWord_6 rfl rfl ?_
    refine x_iload_n dReader_putWord_7 rfl ?_
    refine x_iconst (v := -1) dReader_putWord_8 rfl ?_
    -- at 9: .if_icmp .eq 13
    refine x_icmp_eq (tgt := 22) dReader_putWord_9 (by decide) (fun h => absurd h (name_nn h3)) (fun _ => ?_)
    refine x_aload_n dReader_putWord_12 rfl ?_
    refine x_iconst (v := 3) dReader_putWord_13 rfl ?_
    refine x_iload_n dReader_putWord_14 rfl ?_
    refine x_iload_n dReader_putWord_15 rfl ?_
    -- at 16: .invokevirtual 77
    refine x_callV_3 c_Reader_putToken5 ok_Reader_putToken ml_Reader_77 dReader_putWord_16 rfl rfl rfl rfl rfl ?_
    refine ⟨n, _, _, _, rfl, rfl, hn, h160, ?_⟩
    refine x_goto (tgt := 34) dReader_putWord_19 (by decide) ?_
    -- at 34: .return_
    refine x_return dReader_putWord_34 rfl ?_
    rw [← h3]
    exact h1
  · rw [if_neg h3]
    obtain ⟨k1, k2⟩ := kindW_key _ h3
    refine x_istoren_3 dReader_putWord_6 rfl rfl ?_
    refine x_iload_n dReader_putWord_7 rfl ?_
    refine x_iconst (v := -1) dReader_putWord_8 rfl ?_
    -- at 9: .if_icmp .eq 13
    refine x_icmp_eq (tgt := 22) dReader_putWord_9 (by decide) (fun _ => ?_) (fun h => absurd rfl h)
    refine x_aload_n dReader_putWord_22 rfl ?_
    refine x_aload_n dReader_putWord_23 rfl ?_
    refine x_iload_n dReader_putWord_24 rfl ?_
    refine x_iload_n dReader_putWord_25 rfl ?_
    -- at 26: .invokevirtual 85
    refine x_callV_2 c_Reader_keyAt5 ok_Reader_keyAt ml_Reader_85 dReader_putWord_26 rfl rfl rfl rfl rfl ?_
    refine ⟨a, e, rfl, rfl, hae, he, ?_⟩
    rw [k1]
    refine x_iload_n dReader_putWord_29 rfl ?_
    refine x_iconst (v := 0) dReader_putWord_30 rfl ?_
    -- at 31: .invokevirtual 77
    refine x_callV_3 c_Reader_putToken5 ok_Reader_putToken ml_Reader_77 dReader_putWord_31 rfl rfl rfl rfl rfl ?_
    refine ⟨n, _, _, _, rfl, rfl, hn, h160, ?_⟩
    -- at 34: .return_
    refine x_return dReader_putWord_34 rfl ?_
    rw [k2] at h1
    exact h1
def sp_Reader_cut5 : SpT := fun as S I L Post => ∃ z : Nat, as = [.ref 23] ∧ S = S5 ∧ I 23 1 = nI z ∧ z ≤ 160 ∧
  ∀ I' : IM, Fr rScr I I' → (∀ j, j ≠ 5 → I' 23 j = I 23 j) → Tin I' (tokS (I 24) z 0) → Post none S5 I' L
set_option maxHeartbeats 4000000 in
set_option maxRecDepth 100000 in
theorem c_Reader_cut5 : Con mReader_cut 10 0 0 sp_Reader_cut5 := by
  refine con_of_X rfl fun G as S I L Post hs => ?_
  obtain ⟨z, rfl, rfl, hz, hz2, h1⟩ := hs
  refine ⟨4, Nat.le_of_ble_eq_true rfl, ?_⟩
  show X mReader_cut G _ S5 I L 0 [.ref 23, .null, .null, .null, .null] [] Post
  refine x_aload_n dReader_cut_0 rfl ?_
  refine x_iconst (v := 0) dReader_cut_1 rfl ?_
  refine x_putI fl_Reader_28 rfl dReader_cut_2 (by decide) rfl rfl rfl rfl ?_
  refine x_iconst (v := 0) dReader_cut_5 rfl ?_
  refine x_istoren_1 dReader_cut_6 rfl rfl ?_
  refine x_iconst (v := 0) dReader_cut_7 rfl ?_
  refine x_istoren_2 dReader_cut_8 rfl rfl ?_
  -- at 9: .iload_n 2
  have fin : ∀ (i at0 : Nat) (I' : IM) (D : List Tok) (a3 a4 : Value), at0 = z → Fr rScr I I' → (∀ j, j ≠ 5 → I' 23 j = I 23 j) → I' 23 5 = nI D.length → D.length ≤ at0 → Tin I' D → D ++ tokS (I 24) z at0 = tokS (I 24) z 0 →
      X mReader_cut G (10, 0, 0) S5 I' L 123 [.ref 23, .int (nI at0), .int (nI i), a3, a4] [] Post := by
    intro i at0 I' D a3 a4 hat hF hs h5 hD hT hE
    have hz' : I' 23 1 = nI z := (hs 1 (by omega)).trans hz
    refine x_aload_n dReader_cut_123 rfl ?_
    refine x_iconst (v := 0) dReader_cut_124 rfl ?_
    refine x_aload_n dReader_cut_125 rfl ?_
    refine x_getI fl_Reader_15 rfl dReader_cut_126 rfl rfl ?_
    -- at 129: .iconst 0
    rw [hz']
    refine x_iconst (v := 0) dReader_cut_129 rfl ?_
    -- at 130: .invokevirtual 77
    refine x_callV_3 c_Reader_putToken5 ok_Reader_putToken ml_Reader_77 dReader_cut_130 rfl rfl rfl rfl rfl ?_
    refine ⟨D.length, 0, nI z, 0, rfl, rfl, h5, by omega, ?_⟩
    refine x_return dReader_cut_133 rfl ?_
    refine h1 _ (fun k hk => ?_) (fun j hj => ?_) ?_
    · simp only [List.mem_cons, List.not_mem_nil, or_false, not_or] at hk
      rw [ptk_o _ _ _ _ _ ⟨hk.1, hk.2.1, hk.2.2.1, hk.2.2.2⟩]
      exact hF k (by simp [hk])
    · rw [ptk_s _ _ _ _ _ hj]
      exact hs j hj
    · rw [← hE, hat, tokS_end (by omega)]
      exact Tin_put hT rfl
  have loop : ∀ (k i at0 : Nat) (I' : IM) (D : List Tok) (a3 a4 : Value), i + k = 160 → i ≤ at0 → at0 ≤ z → Fr rScr I I' → (∀ j, j ≠ 5 → I' 23 j = I 23 j) → I' 23 5 = nI D.length → D.length ≤ at0 → Tin I' D → D ++ tokS (I 24) z at0 = tokS (I 24) z 0 →
      X mReader_cut G (10, 0, 0) S5 I' L 9 [.ref 23, .int (nI at0), .int (nI i), a3, a4] [] Post := by
    intro k
    induction k with
    | zero =>
      intro i at0 I' D a3 a4 hi hia haz hF hs h5 hD hT hE
      obtain rfl : i = 160 := by omega
      refine x_iload_n dReader_cut_9 rfl ?_
      refine x_sipush (v := 160) dReader_cut_10 rfl ?_
      -- at 13: .if_icmp .ge 110
      refine x_icmp_ge (tgt := 123) dReader_cut_13 (by decide) (fun _ => ?_) (fun h => absurd (Int32.le_refl _) h)
      exact fin 160 at0 I' D a3 a4 (by omega) hF hs h5 hD hT hE
    | succ k ih =>
      intro i at0 I' D a3 a4 hi hia haz hF hs h5 hD hT hE
      have hz' : I' 23 1 = nI z := (hs 1 (by omega)).trans hz
      have e24 : I' 24 = I 24 := hF 24 (by decide)
      refine x_iload_n dReader_cut_9 rfl ?_
      refine x_sipush (v := 160) dReader_cut_10 rfl ?_
      -- at 13: .if_icmp .ge 110
      refine x_icmp_ge (tgt := 123) dReader_cut_13 (by decide) (fun h => absurd h (nI_ge (b := 160) (by omega) (by omega))) (fun _ => ?_)
      refine x_iload_n dReader_cut_16 rfl ?_
      refine x_aload_n dReader_cut_17 rfl ?_
      refine x_getI fl_Reader_15 rfl dReader_cut_18 rfl rfl ?_
      -- at 21: .if_icmp .ge 102
      rw [hz']
      by_cases hlt : at0 < z
      · refine x_icmp_ge (tgt := 123) dReader_cut_21 (by decide) (fun h => absurd h (nI_ge (b := z) hlt (by omega))) (fun _ => ?_)
        have next : ∀ (e : Nat) (I2 : IM) (D2 : List Tok) (b : Int32), at0 < e → e ≤ z → Fr rScr I I2 → (∀ j, j ≠ 5 → I2 23 j = I 23 j) → I2 23 5 = nI D2.length → D2.length ≤ D.length + 1 → Tin I2 D2 → D2 ++ tokS (I 24) z e = tokS (I 24) z 0 →
            X mReader_cut G (10, 0, 0) S5 I2 L 114 [.ref 23, .int (nI at0), .int (nI i), .int b, .int (nI e)] [] Post := by
          intro e I2 D2 b h0 h2 hF2 hs2 h52 hD2 hT2 hE2
          refine x_iload dReader_cut_114 rfl ?_
          refine x_istoren_1 dReader_cut_116 rfl rfl ?_
          refine x_iincp_2 dReader_cut_117 rfl rfl ?_
          refine x_goto (tgt := 9) dReader_cut_120 (by decide) ?_
          -- at 9: .iload_n 2
          rw [nI_1]
          exact ih (i + 1) e I2 D2 _ _ (by omega) (by omega) h2 hF2 hs2 h52 (by omega) hT2 hE2
        have put : ∀ (e : Nat) (s v b : Int32), at0 < e → e ≤ z → tokS (I 24) z at0 = (s, at0, v) :: tokS (I 24) z e → X mReader_cut G (10, 0, 0) S5 (ptk I' D.length s (nI at0) v) L 114 [.ref 23, .int (nI at0), .int (nI i), .int b, .int (nI e)] [] Post := by
          intro e s v b h0 h2 hE2
          refine next e _ (D ++ [(s, at0, v)]) b h0 h2 (fun k hk => ?_) (fun j hj => ?_) ?_ (by simp) (Tin_put hT rfl) ?_
          · simp only [List.mem_cons, List.not_mem_nil, or_false, not_or] at hk
            rw [ptk_o _ _ _ _ _ ⟨hk.1, hk.2.1, hk.2.2.1, hk.2.2.2⟩]
            exact hF k (by simp [hk])
          · rw [ptk_s _ _ _ _ _ hj]
            exact hs j hj
          · rw [ptk_5]
            simp
          · rw [← hE, hE2, List.append_assoc]
            rfl
        refine x_aload_n dReader_cut_24 rfl ?_
        refine x_getR fl_Reader_9 rfl dReader_cut_25 rfl rfl rfl ?_
        refine x_iload_n dReader_cut_28 rfl ?_
        refine x_ialdJ (j := at0) dReader_cut_29 rfl rfl (by first | rfl | (simp only [← nI_add, ← pk_mul]; rfl)) (by omega) ?_
        refine x_istoren_3 dReader_cut_30 rfl rfl ?_
        refine x_iload_n dReader_cut_31 rfl ?_
        refine x_iconst (v := 1) dReader_cut_32 rfl ?_
        refine x_iadd dReader_cut_33 ?_
        refine x_istore_4 dReader_cut_34 rfl rfl ?_
        refine x_iload_n dReader_cut_36 rfl ?_
        -- at 37: .invokestatic 54
        rw [e24]
        refine x_callS_1 c_Reader_isLetter ok_Reader_isLetter ml_Reader_54 dReader_cut_37 rfl rfl ?_
        refine ⟨_, rfl, fun q => ?_, fun q => ?_⟩
        · have hnb := let_nb q
          have hE2 : tokS (I 24) z at0 = ((kindW (wordAt (I 24) at0 (letE (I 24) z (z - at0) at0))).1, at0, (kindW (wordAt (I 24) at0 (letE (I 24) z (z - at0) at0))).2) :: tokS (I 24) z (letE (I 24) z (z - at0) at0) := by
            rw [tokS_tok hlt hnb, tokAt, if_pos q]
          have he1 := letE_gt hlt q
          have he2 := (letE_ge (I 24) z (z - at0) at0).2 haz
          refine x_if_eq (tgt := 60) dReader_cut_40 (by decide) (fun h => absurd h (by decide)) (fun _ => ?_)
          refine x_aload_n dReader_cut_43 rfl ?_
          refine x_iload_n dReader_cut_44 rfl ?_
          -- at 45: .invokevirtual 57
          refine x_callV_1 c_Reader_lettersEnd5 ok_Reader_lettersEnd ml_Reader_57 dReader_cut_45 rfl rfl rfl rfl rfl ?_
          refine ⟨at0, z, rfl, rfl, hz', hz2, haz, ?_⟩
          rw [e24]
          refine x_istore_4 dReader_cut_48 rfl rfl ?_
          refine x_aload_n dReader_cut_50 rfl ?_
          refine x_iload_n dReader_cut_51 rfl ?_
          refine x_iload dReader_cut_52 rfl ?_
          -- at 54: .invokevirtual 61
          refine x_callV_2 c_Reader_putWord5 ok_Reader_putWord ml_Reader_61 dReader_cut_54 rfl rfl rfl rfl rfl ?_
          refine ⟨at0, letE (I 24) z (z - at0) at0, D.length, rfl, rfl, h5, by omega, by omega, by omega, ?_⟩
          rw [e24]
          refine x_goto (tgt := 114) dReader_cut_57 (by decide) ?_
          -- at 114: .iload 4
          exact put _ _ _ _ he1 he2 hE2
        · refine x_if_eq (tgt := 60) dReader_cut_40 (by decide) (fun _ => ?_) (fun h => absurd (by decide) h)
          refine x_iload_n dReader_cut_60 rfl ?_
          -- at 61: .invokestatic 65
          refine x_callS_1 c_Reader_isDigit ok_Reader_isDigit ml_Reader_65 dReader_cut_61 rfl rfl ?_
          refine ⟨_, rfl, fun q2 => ?_, fun q2 => ?_⟩
          · have hnb := dig_nb q2
            have he1 := digE_gt hlt q2
            have he2 := (digE_ge (I 24) z (z - at0) at0).2 haz
            refine x_if_eq (tgt := 84) dReader_cut_64 (by decide) (fun h => absurd h (by decide)) (fun _ => ?_)
            refine x_aload_n dReader_cut_67 rfl ?_
            refine x_iload_n dReader_cut_68 rfl ?_
            -- at 69: .invokevirtual 68
            refine x_callV_1 c_Reader_digitsEnd5 ok_Reader_digitsEnd ml_Reader_68 dReader_cut_69 rfl rfl rfl rfl rfl ?_
            refine ⟨at0, z, rfl, rfl, hz', hz2, haz, ?_⟩
            rw [e24]
            refine x_istore_4 dReader_cut_72 rfl rfl ?_
            refine x_aload_n dReader_cut_74 rfl ?_
            refine x_iload_n dReader_cut_75 rfl ?_
            refine x_iload dReader_cut_76 rfl ?_
            -- at 78: .invokevirtual 71
            refine x_callV_2 c_Reader_putNumber5 ok_Reader_putNumber ml_Reader_71 dReader_cut_78 rfl rfl rfl rfl rfl ?_
            refine ⟨at0, digE (I 24) z (z - at0) at0, D.length, rfl, rfl, h5, by omega, by omega, by omega, ?_⟩
            rw [e24]
            have hE0 : tokS (I 24) z at0 = _ := tokS_tok hlt hnb
            rw [tokAt, if_neg q, if_pos q2] at hE0
            by_cases h4 : 4 < digE (I 24) z (z - at0) at0 - at0
            · rw [if_pos h4]
              rw [if_pos h4] at hE0
              refine x_goto (tgt := 114) dReader_cut_81 (by decide) ?_
              -- at 114: .iload 4
              exact put _ _ _ _ he1 he2 hE0
            · rw [if_neg h4]
              rw [if_neg h4] at hE0
              refine x_goto (tgt := 114) dReader_cut_81 (by decide) ?_
              -- at 114: .iload 4
              exact put _ _ _ _ he1 he2 hE0
          · refine x_if_eq (tgt := 84) dReader_cut_64 (by decide) (fun _ => ?_) (fun h => absurd (by decide) h)
            have bla : isBla (I 24 at0) → X mReader_cut G (10, 0, 0) S5 I' L 114 [.ref 23, .int (nI at0), .int (nI i), .int (I 24 at0), .int (nI at0 + 1)] [] Post := by
              intro hb
              rw [nI_1]
              exact next (at0 + 1) I' D _ (by omega) (by omega) hF hs h5 (by omega) hT (by rw [← hE, tokS_bla hlt hb])
            refine x_iload_n dReader_cut_84 rfl ?_
            refine x_bipush (v := 32) dReader_cut_85 rfl ?_
            -- at 87: .if_icmp .eq 27
            refine x_icmp_eq (tgt := 114) dReader_cut_87 (by decide) (fun c1 => ?_) (fun c1 => ?_)
            · exact bla (Or.inl c1)
            · refine x_iload_n dReader_cut_90 rfl ?_
              refine x_bipush (v := 10) dReader_cut_91 rfl ?_
              -- at 93: .if_icmp .eq 21
              refine x_icmp_eq (tgt := 114) dReader_cut_93 (by decide) (fun c2 => ?_) (fun c2 => ?_)
              · exact bla (Or.inr c2)
              · have hnb : ¬ isBla (I 24 at0) := fun y => y.elim c1 c2
                have hE0 : tokS (I 24) z at0 = _ := tokS_tok hlt hnb
                rw [tokAt, if_neg q, if_neg q2] at hE0
                refine x_aload_n dReader_cut_96 rfl ?_
                refine x_iload_n dReader_cut_97 rfl ?_
                -- at 98: .invokestatic 74
                refine x_callS_1 c_Reader_isSign ok_Reader_isSign ml_Reader_74 dReader_cut_98 rfl rfl ?_
                refine ⟨_, rfl, fun g => ?_, fun g => ?_⟩
                · rw [if_pos g] at hE0
                  refine x_if_eq (tgt := 108) dReader_cut_101 (by decide) (fun h => absurd h (by decide)) (fun _ => ?_)
                  refine x_iload_n dReader_cut_104 rfl ?_
                  refine x_goto (tgt := 109) dReader_cut_105 (by decide) ?_
                  refine x_iload_n dReader_cut_109 rfl ?_
                  refine x_iconst (v := 0) dReader_cut_110 rfl ?_
                  -- at 111: .invokevirtual 77
                  refine x_callV_3 c_Reader_putToken5 ok_Reader_putToken ml_Reader_77 dReader_cut_111 rfl rfl rfl rfl rfl ?_
                  refine ⟨D.length, _, _, _, rfl, rfl, h5, by omega, ?_⟩
                  rw [nI_1]
                  exact put _ _ _ _ (by omega) (by omega) hE0
                · rw [if_neg g] at hE0
                  refine x_if_eq (tgt := 108) dReader_cut_101 (by decide) (fun _ => ?_) (fun h => absurd (by decide) h)
                  refine x_iconst (v := 1) dReader_cut_108 rfl ?_
                  refine x_iload_n dReader_cut_109 rfl ?_
                  refine x_iconst (v := 0) dReader_cut_110 rfl ?_
                  -- at 111: .invokevirtual 77
                  refine x_callV_3 c_Reader_putToken5 ok_Reader_putToken ml_Reader_77 dReader_cut_111 rfl rfl rfl rfl rfl ?_
                  refine ⟨D.length, _, _, _, rfl, rfl, h5, by omega, ?_⟩
                  rw [nI_1]
                  exact put _ _ _ _ (by omega) (by omega) hE0
      · refine x_icmp_ge (tgt := 123) dReader_cut_21 (by decide) (fun _ => ?_) (fun h => absurd (nI_le (by omega) (by omega)) h)
        exact fin i at0 I' D a3 a4 (by omega) hF hs h5 hD hT hE
  refine loop 160 0 0 _ [] _ _ rfl (Nat.le_refl _) (Nat.zero_le _) (Fr.rfl.up (by decide) _ _) (fun j hj => by rw [up2_s, up1_n _ _ hj]) (by rw [up2_s, up1_s]; rfl) (Nat.le_refl _) (fun k hk => absurd hk (Nat.not_lt_zero k)) rfl
def sp_Reader_passes5 : SpT := fun as S I L Post => ∃ (T : List Tok) (i u : Nat) (w : Int32), as = [.ref 23, .int w] ∧ S = S5 ∧ PS I T i u ∧ (ts T i = w → Post (some (.int 1)) S5 (up2 I 23 6 (nI (i + 1))) L) ∧ (¬ ts T i = w → Post (some (.int 0)) S5 I L)
set_option maxHeartbeats 4000000 in
set_option maxRecDepth 100000 in
theorem c_Reader_passes5 : Con mReader_passes 2 0 0 sp_Reader_passes5 := by
  refine con_of_X rfl fun G as S I L Post hs => ?_
  obtain ⟨T, i, u, w, rfl, rfl, hP, h1, h2⟩ := hs
  have e6 := hP.2.1
  have hi : i < 161 := by have := hP.2.2.2.2.1; have := hP.2.2.2.2.2.2; omega
  refine ⟨0, Nat.le_of_ble_eq_true rfl, ?_⟩
  show X mReader_passes G _ S5 I L 0 [.ref 23, .int w] [] Post
  refine x_aload_n dReader_passes_0 rfl ?_
  refine x_getR fl_Reader_19 rfl dReader_passes_1 rfl rfl rfl ?_
  refine x_aload_n dReader_passes_4 rfl ?_
  refine x_getI fl_Reader_31 rfl dReader_passes_5 rfl rfl ?_
  -- at 8: .iaload
  rw [e6]
  refine x_ialdJ (j := i) dReader_passes_8 rfl rfl (by first | rfl | (simp only [← nI_add, ← pk_mul]; rfl)) (by omega) ?_
  -- at 9: .iload_n 1
  rw [hP.s25]
  refine x_iload_n dReader_passes_9 rfl ?_
  -- at 10: .if_icmp .eq 5
  refine x_icmp_eq (tgt := 15) dReader_passes_10 (by decide) (fun c1 => ?_) (fun c1 => ?_)
  · refine x_aload_n dReader_passes_15 rfl ?_
    refine x_dup dReader_passes_16 rfl ?_
    refine x_getI fl_Reader_31 rfl dReader_passes_17 rfl rfl ?_
    -- at 20: .iconst 1
    rw [e6]
    refine x_iconst (v := 1) dReader_passes_20 rfl ?_
    refine x_iadd dReader_passes_21 ?_
    refine x_putI fl_Reader_31 rfl dReader_passes_22 (by decide) rfl rfl rfl rfl ?_
    refine x_iconst (v := 1) dReader_passes_25 rfl ?_
    -- at 26: .ireturn
    rw [nI_1]
    refine x_ireturn dReader_passes_26 rfl rfl ?_
    exact h1 c1
  · refine x_iconst (v := 0) dReader_passes_13 rfl ?_
    -- at 14: .ireturn
    refine x_ireturn dReader_passes_14 rfl rfl ?_
    exact h2 c1
def sp_Reader_step5 : SpT := fun as S I L Post => ∃ (u : Nat) (x : Int32), as = [.ref 23, .int x] ∧ S = S5 ∧ I 23 9 = nI u ∧ u < 160 ∧ Post none S5 (stU I u x) L
set_option maxHeartbeats 4000000 in
set_option maxRecDepth 100000 in
theorem c_Reader_step5 : Con mReader_step 2 0 0 sp_Reader_step5 := by
  refine con_of_X rfl fun G as S I L Post hs => ?_
  obtain ⟨u, x, rfl, rfl, hu, h160, h1⟩ := hs
  refine ⟨0, Nat.le_of_ble_eq_true rfl, ?_⟩
  show X mReader_step G _ S5 I L 0 [.ref 23, .int x] [] Post
  refine x_aload_n dReader_step_0 rfl ?_
  refine x_getI fl_Reader_40 rfl dReader_step_1 rfl rfl ?_
  refine x_sipush (v := 160) dReader_step_4 rfl ?_
  -- at 7: .if_icmp .ge 23
  rw [hu]
  refine x_icmp_ge (tgt := 30) dReader_step_7 (by decide) (fun h => absurd h (nI_ge (b := 160) h160 (by omega))) (fun _ => ?_)
  refine x_aload_n dReader_step_10 rfl ?_
  refine x_getR fl_Reader_34 rfl dReader_step_11 rfl rfl rfl ?_
  refine x_aload_n dReader_step_14 rfl ?_
  refine x_getI fl_Reader_40 rfl dReader_step_15 rfl rfl ?_
  -- at 18: .iload_n 1
  rw [hu]
  refine x_iload_n dReader_step_18 rfl ?_
  refine x_iastJ (j := u) dReader_step_19 rfl rfl (by first | rfl | (simp only [← nI_add, ← pk_mul]; rfl)) (by omega) ?_
  refine x_aload_n dReader_step_20 rfl ?_
  refine x_dup dReader_step_21 rfl ?_
  refine x_getI fl_Reader_40 rfl dReader_step_22 rfl rfl ?_
  -- at 25: .iconst 1
  simp only [up2_n, up2_s, ne_eq, Nat.reduceEqDiff, not_false_eq_true, hu]
  refine x_iconst (v := 1) dReader_step_25 rfl ?_
  refine x_iadd dReader_step_26 ?_
  refine x_putI fl_Reader_40 rfl dReader_step_27 (by decide) rfl rfl rfl rfl ?_
  -- at 30: .return_
  refine x_return dReader_step_30 rfl ?_
  exact h1
def sp_Reader_did5 : SpT := fun as S I L Post => ∃ (u : Nat) (x : Int32), as = [.ref 23, .int x] ∧ S = S5 ∧ I 23 9 = nI u ∧ u < 160 ∧ Post (some (.int 1)) S5 (stU I u (20000 + x)) L
set_option maxHeartbeats 4000000 in
set_option maxRecDepth 100000 in
theorem c_Reader_did5 : Con mReader_did 3 0 0 sp_Reader_did5 := by
  refine con_of_X rfl fun G as S I L Post hs => ?_
  obtain ⟨u, x, rfl, rfl, hu, h160, h1⟩ := hs
  refine ⟨0, Nat.le_of_ble_eq_true rfl, ?_⟩
  show X mReader_did G _ S5 I L 0 [.ref 23, .int x] [] Post
  refine x_aload_n dReader_did_0 rfl ?_
  refine x_sipush (v := 20000) dReader_did_1 rfl ?_
  refine x_iload_n dReader_did_4 rfl ?_
  refine x_iadd dReader_did_5 ?_
  -- at 6: .invokevirtual 139
  refine x_callV_1 c_Reader_step5 ok_Reader_step ml_Reader_139 dReader_did_6 rfl rfl rfl rfl rfl ?_
  refine ⟨u, _, rfl, rfl, hu, h160, ?_⟩
  refine x_iconst (v := 1) dReader_did_9 rfl ?_
  -- at 10: .ireturn
  refine x_ireturn dReader_did_10 rfl rfl ?_
  exact h1
def sp_Reader_opens5 : SpT := fun as S I L Post => ∃ (T : List Tok) (i u op : Nat) (w : Int32), as = [.ref 23, .int w, .int (nI op)] ∧ S = S5 ∧ op ≤ 5 ∧ PS I T i u ∧ (op < 5 ∧ ts T i = w → Post (some (.int 1)) S5 (up2 I 23 6 (nI (i + 1))) L) ∧ (¬ (op < 5 ∧ ts T i = w) → Post (some (.int 0)) S5 I L)
set_option maxHeartbeats 4000000 in
set_option maxRecDepth 100000 in
theorem c_Reader_opens5 : Con mReader_opens 3 0 0 sp_Reader_opens5 := by
  refine con_of_X rfl fun G as S I L Post hs => ?_
  obtain ⟨T, i, u, op, w, rfl, rfl, hop, hP, h1, h2⟩ := hs
  refine ⟨0, Nat.le_of_ble_eq_true rfl, ?_⟩
  show X mReader_opens G _ S5 I L 0 [.ref 23, .int w, .int (nI op)] [] Post
  refine x_iload_n dReader_opens_0 rfl ?_
  refine x_iconst (v := 5) dReader_opens_1 rfl ?_
  -- at 2: .if_icmp .ge 15
  by_cases h5 : op < 5
  · refine x_icmp_ge (tgt := 17) dReader_opens_2 (by decide) (fun h => absurd h (nI_ge (b := 5) h5 (by omega))) (fun _ => ?_)
    refine x_aload_n dReader_opens_5 rfl ?_
    refine x_iload_n dReader_opens_6 rfl ?_
    -- at 7: .invokevirtual 46
    refine x_callV_1 c_Reader_passes5 ok_Reader_passes ml_Reader_46 dReader_opens_7 rfl rfl rfl rfl rfl ?_
    refine ⟨T, i, u, w, rfl, rfl, hP, fun q => ?_, fun q => ?_⟩
    · refine x_if_eq (tgt := 17) dReader_opens_10 (by decide) (fun h => absurd h (by decide)) (fun _ => ?_)
      refine x_iconst (v := 1) dReader_opens_13 rfl ?_
      refine x_goto (tgt := 18) dReader_opens_14 (by decide) ?_
      -- at 18: .ireturn
      refine x_ireturn dReader_opens_18 rfl rfl ?_
      exact h1 ⟨h5, q⟩
    · refine x_if_eq (tgt := 17) dReader_opens_10 (by decide) (fun _ => ?_) (fun h => absurd (by decide) h)
      refine x_iconst (v := 0) dReader_opens_17 rfl ?_
      -- at 18: .ireturn
      refine x_ireturn dReader_opens_18 rfl rfl ?_
      exact h2 (fun z => q z.2)
  · refine x_icmp_ge (tgt := 17) dReader_opens_2 (by decide) (fun _ => ?_) (fun h => absurd (nI_le (a := 5) (by omega) (by omega)) h)
    refine x_iconst (v := 0) dReader_opens_17 rfl ?_
    -- at 18: .ireturn
    refine x_ireturn dReader_opens_18 rfl rfl ?_
    exact h2 (fun z => h5 z.1)
def sp_lev5 (l op : Nat) : SpT := fun as S I L Post => ∃ (T : List Tok) (i u : Nat), as = [.ref 23, .int (nI l), .int (nI op)] ∧ S = S5 ∧ PS I T i u ∧
  (∀ (I' : IM) (j : Nat) (C : List Int32), PSok I u I' j C → LevOk T l op i j C → Post (some (.int 1)) S5 I' L) ∧ (∀ (I' : IM) (j : Nat), PSno I I' j → LevNo T l op i j → Post (some (.int 0)) S5 I' L)
def sp_negn5 (op : Nat) : SpT := fun as S I L Post => ∃ (T : List Tok) (i u : Nat), as = [.ref 23, .int (nI op)] ∧ S = S5 ∧ PS I T i u ∧
  (∀ (I' : IM) (j : Nat) (C : List Int32), PSok I u I' j C → LevOk T 2 op i j C → Post (some (.int 1)) S5 I' L) ∧ (∀ (I' : IM) (j : Nat), PSno I I' j → LevNo T 2 op i j → Post (some (.int 0)) S5 I' L)
def sp_onen5 (op : Nat) : SpT := fun as S I L Post => ∃ (T : List Tok) (i u : Nat), as = [.ref 23, .int (nI op)] ∧ S = S5 ∧ PS I T i u ∧
  (∀ (I' : IM) (j : Nat) (C : List Int32), PSok I u I' j C → OneOk T op i j C → Post (some (.int 1)) S5 I' L) ∧ (∀ (I' : IM) (j : Nat), PSno I I' j → OneNo T op i j → Post (some (.int 0)) S5 I' L)
set_option maxHeartbeats 4000000 in
set_option maxRecDepth 100000 in
theorem c_lev_bin5 {l op d : Nat} (hl : isBin l) (hd : 3 ≤ d) (h : Con mReader_level d 0 0 (sp_lev5 (l + 1) op)) : Con mReader_level (d + 1) 0 0 (sp_lev5 l op) := by
  refine con_of_X rfl fun G as S I L Post hs => ?_
  obtain ⟨T, i, u, rfl, rfl, hP, h1, h2⟩ := hs
  refine ⟨2, Nat.le_of_ble_eq_true rfl, ?_⟩
  show X mReader_level G (d + 1, 0, 0) S5 I L 0 [.ref 23, .int (nI l), .int (nI op), .null, .null] [] Post
  have hui := hP.2.2.2.1
  have h161 := hP.2.2.2.2.2.2
  refine x_iload_n dReader_level_0 rfl ?_
  refine x_iconst (v := 2) dReader_level_1 rfl ?_
  -- at 2: .if_icmp .ne 9
  refine x_icmp_ne (tgt := 11) dReader_level_2 (by decide) (fun _ => ?_) (fun h => absurd h (by rcases hl with rfl | rfl | rfl | rfl <;> decide))
  refine x_iload_n dReader_level_11 rfl ?_
  refine x_iconst (v := 5) dReader_level_12 rfl ?_
  -- at 13: .if_icmp .lt 9
  refine x_icmp_lt (tgt := 22) dReader_level_13 (by decide) (fun _ => ?_) (fun h => absurd (by rcases hl with rfl | rfl | rfl | rfl <;> decide) h)
  refine x_aload_n dReader_level_22 rfl ?_
  refine x_iload_n dReader_level_23 rfl ?_
  refine x_iconst (v := 1) dReader_level_24 rfl ?_
  refine x_iadd dReader_level_25 ?_
  -- at 26: .iload_n 2
  rw [nI_1]
  refine x_iload_n dReader_level_26 rfl ?_
  -- at 27: .invokevirtual 50
  refine x_callV_2 h ok_Reader_level ml_Reader_50 dReader_level_27 (ble_of (Nat.le_refl _)) rfl rfl rfl rfl ?_
  refine ⟨T, i, u, rfl, rfl, hP, fun I1 j C k1 k2 => ?_, fun I1 j k1 k2 => ?_⟩
  · refine x_if_ne (tgt := 35) dReader_level_30 (by decide) (fun _ => ?_) (fun h => absurd h (by decide))
    refine x_iconst (v := 0) dReader_level_35 rfl ?_
    refine x_istoren_3 dReader_level_36 rfl rfl ?_
    -- at 37: .iload_n 3
    have loop : ∀ (k n j : Nat) (I' : IM) (C : List Int32) (a4 : Value), n + k = 160 → i + n ≤ j → PSok I u I' j C → BinIn T l op i j C →
        X mReader_level G (d + 1, 0, 0) S5 I' L 37 [.ref 23, .int (nI l), .int (nI op), .int (nI n), a4] [] Post := by
      intro k
      induction k with
      | zero =>
        intro n j I' C a4 hn hj k1 k2
        obtain rfl : n = 160 := by omega
        refine x_iload_n dReader_level_37 rfl ?_
        refine x_sipush (v := 160) dReader_level_38 rfl ?_
        -- at 41: .if_icmp .ge 69
        refine x_icmp_ge (tgt := 110) dReader_level_41 (by decide) (fun _ => ?_) (fun h => absurd (Int32.le_refl _) h)
        refine x_iconst (v := 1) dReader_level_110 rfl ?_
        -- at 111: .ireturn
        refine x_ireturn dReader_level_111 rfl rfl ?_
        have hjT := k2.2.1
        refine h1 I' j C k1 (bin_done hl k2 (fun z => ?_))
        have := hP.2.2.2.2.2.1.2.1 j hjT (enc_sgn z).2
        omega
      | succ k ih =>
        intro n j I' C a4 hn hj k1 k2
        have hjT := k2.2.1
        have hPj : PS I' T j (u + C.length) := PSok.ps hP k1 (by have := k2.1; omega) hjT
        refine x_iload_n dReader_level_37 rfl ?_
        refine x_sipush (v := 160) dReader_level_38 rfl ?_
        -- at 41: .if_icmp .ge 69
        refine x_icmp_ge (tgt := 110) dReader_level_41 (by decide) (fun h => absurd h (nI_ge (b := 160) (by omega) (by omega))) (fun _ => ?_)
        refine x_iload_n dReader_level_44 rfl ?_
        refine x_aload_n dReader_level_45 rfl ?_
        refine x_getR fl_Reader_19 rfl dReader_level_46 rfl rfl rfl ?_
        refine x_aload_n dReader_level_49 rfl ?_
        refine x_getI fl_Reader_31 rfl dReader_level_50 rfl rfl ?_
        -- at 53: .iaload
        rw [k1.2.1]
        refine x_ialdJ (j := j) dReader_level_53 rfl rfl (by first | rfl | (simp only [← nI_add, ← pk_mul]; rfl)) (by omega) ?_
        -- at 54: .invokestatic 136
        rw [hPj.s25]
        refine x_callS_2 c_Reader_joins ok_Reader_joins ml_Reader_136 dReader_level_54 (ble_of (by omega)) rfl ?_
        refine ⟨l, _, rfl, hl, fun q => ?_, fun q => ?_⟩
        · obtain ⟨q1, q2⟩ := enc_sgn q
          have hj1 := hPj.more q2
          refine x_if_eq (tgt := 110) dReader_level_57 (by decide) (fun h => absurd h (by decide)) (fun _ => ?_)
          refine x_aload_n dReader_level_60 rfl ?_
          refine x_getR fl_Reader_19 rfl dReader_level_61 rfl rfl rfl ?_
          refine x_aload_n dReader_level_64 rfl ?_
          refine x_getI fl_Reader_31 rfl dReader_level_65 rfl rfl ?_
          -- at 68: .iaload
          rw [k1.2.1]
          refine x_ialdJ (j := j) dReader_level_68 rfl rfl (by first | rfl | (simp only [← nI_add, ← pk_mul]; rfl)) (by omega) ?_
          -- at 69: .istore 4
          rw [hPj.s25]
          refine x_istore_4 dReader_level_69 rfl rfl ?_
          refine x_aload_n dReader_level_71 rfl ?_
          refine x_dup dReader_level_72 rfl ?_
          refine x_getI fl_Reader_31 rfl dReader_level_73 rfl rfl ?_
          -- at 76: .iconst 1
          rw [k1.2.1]
          refine x_iconst (v := 1) dReader_level_76 rfl ?_
          refine x_iadd dReader_level_77 ?_
          -- at 78: .putfield 31
          rw [nI_1]
          refine x_putI fl_Reader_31 rfl dReader_level_78 (by decide) rfl rfl rfl rfl ?_
          refine x_aload_n dReader_level_81 rfl ?_
          refine x_iload_n dReader_level_82 rfl ?_
          refine x_iconst (v := 1) dReader_level_83 rfl ?_
          refine x_iadd dReader_level_84 ?_
          -- at 85: .iload_n 2
          rw [nI_1]
          refine x_iload_n dReader_level_85 rfl ?_
          -- at 86: .invokevirtual 50
          refine x_callV_2 h ok_Reader_level ml_Reader_50 dReader_level_86 (ble_of (Nat.le_refl _)) rfl rfl rfl rfl ?_
          refine ⟨T, j + 1, u + C.length, rfl, rfl, hPj.nx hj1, fun I3 j2 D k3 k4 => ?_, fun I3 j2 k3 k4 => ?_⟩
          · refine x_if_ne (tgt := 94) dReader_level_89 (by decide) (fun _ => ?_) (fun h => absurd h (by decide))
            refine x_aload_n dReader_level_94 rfl ?_
            refine x_sipush (v := 20000) dReader_level_95 rfl ?_
            refine x_iload dReader_level_98 rfl ?_
            refine x_iadd dReader_level_100 ?_
            -- at 101: .invokevirtual 139
            refine x_callV_1 c_Reader_step5 ok_Reader_step ml_Reader_139 dReader_level_101 (ble_of (by omega)) rfl rfl rfl rfl ?_
            have k5 : PSok I u I3 j2 (C ++ D) := (k1.nx (j + 1)).tr k3
            have hj2 := k4.2.1
            have hj3 := k4.1
            have hj4 := k2.1
            refine ⟨u + (C ++ D).length, _, rfl, rfl, k5.2.2.1, by rw [List.length_append]; omega, ?_⟩
            refine x_iincp_3 dReader_level_104 rfl rfl ?_
            refine x_goto (tgt := 37) dReader_level_107 (by decide) ?_
            -- at 37: .iload_n 3
            rw [nI_1]
            have k6 := k5.stp rfl (20000 + ts T j)
            rw [q1] at k6
            exact ih (n + 1) j2 _ _ _ (by omega) (by omega) k6 (bin_step hl k2 q k4)
          · refine x_if_ne (tgt := 94) dReader_level_89 (by decide) (fun h => absurd (by decide) h) (fun _ => ?_)
            refine x_iconst (v := 0) dReader_level_92 rfl ?_
            -- at 93: .ireturn
            refine x_ireturn dReader_level_93 rfl rfl ?_
            exact h2 I3 j2 ⟨((k1.1.nx _).tr k3.1), k3.2⟩ (bin_fail hl k2 q k4)
        · refine x_if_eq (tgt := 110) dReader_level_57 (by decide) (fun _ => ?_) (fun h => absurd (by decide) h)
          refine x_iconst (v := 1) dReader_level_110 rfl ?_
          -- at 111: .ireturn
          refine x_ireturn dReader_level_111 rfl rfl ?_
          exact h1 I' j C k1 (bin_done hl k2 q)
    exact loop 160 0 j I1 C _ rfl (by have := k2.1; omega) k1 (bin_init hl k2)
  · refine x_if_ne (tgt := 35) dReader_level_30 (by decide) (fun h => absurd (by decide) h) (fun _ => ?_)
    refine x_iconst (v := 0) dReader_level_33 rfl ?_
    -- at 34: .ireturn
    refine x_ireturn dReader_level_34 rfl rfl ?_
    exact h2 I1 j k1 (bin_no hl k2)
set_option maxHeartbeats 4000000 in
set_option maxRecDepth 100000 in
theorem c_lev_25 {op d : Nat} (h : Con mReader_negation d 0 0 (sp_negn5 op)) : Con mReader_level (d + 1) 0 0 (sp_lev5 2 op) := by
  refine con_of_X rfl fun G as S I L Post hs => ?_
  obtain ⟨T, i, u, rfl, rfl, hP, h1, h2⟩ := hs
  refine ⟨2, Nat.le_of_ble_eq_true rfl, ?_⟩
  show X mReader_level G (d + 1, 0, 0) S5 I L 0 [.ref 23, .int (nI 2), .int (nI op), .null, .null] [] Post
  refine x_iload_n dReader_level_0 rfl ?_
  refine x_iconst (v := 2) dReader_level_1 rfl ?_
  -- at 2: .if_icmp .ne 9
  refine x_icmp_ne (tgt := 11) dReader_level_2 (by decide) (fun h => absurd rfl h) (fun _ => ?_)
  refine x_aload_n dReader_level_5 rfl ?_
  refine x_iload_n dReader_level_6 rfl ?_
  -- at 7: .invokevirtual 130
  refine x_callV_1 h ok_Reader_negation ml_Reader_130 dReader_level_7 (ble_of (Nat.le_refl _)) rfl rfl rfl rfl ?_
  refine ⟨T, i, u, rfl, rfl, hP, fun I1 j C k1 k2 => ?_, fun I1 j k1 k2 => ?_⟩
  · refine x_ireturn dReader_level_10 rfl rfl ?_
    exact h1 I1 j C k1 k2
  · refine x_ireturn dReader_level_10 rfl rfl ?_
    exact h2 I1 j k1 k2
set_option maxHeartbeats 4000000 in
set_option maxRecDepth 100000 in
theorem c_lev_55 {op d : Nat} (h : Con mReader_one d 0 0 (sp_onen5 op)) : Con mReader_level (d + 1) 0 0 (sp_lev5 5 op) := by
  refine con_of_X rfl fun G as S I L Post hs => ?_
  obtain ⟨T, i, u, rfl, rfl, hP, h1, h2⟩ := hs
  refine ⟨2, Nat.le_of_ble_eq_true rfl, ?_⟩
  show X mReader_level G (d + 1, 0, 0) S5 I L 0 [.ref 23, .int (nI 5), .int (nI op), .null, .null] [] Post
  refine x_iload_n dReader_level_0 rfl ?_
  refine x_iconst (v := 2) dReader_level_1 rfl ?_
  -- at 2: .if_icmp .ne 9
  refine x_icmp_ne (tgt := 11) dReader_level_2 (by decide) (fun _ => ?_) (fun h => absurd h (by decide))
  refine x_iload_n dReader_level_11 rfl ?_
  refine x_iconst (v := 5) dReader_level_12 rfl ?_
  -- at 13: .if_icmp .lt 9
  refine x_icmp_lt (tgt := 22) dReader_level_13 (by decide) (fun h => absurd h (by decide)) (fun _ => ?_)
  refine x_aload_n dReader_level_16 rfl ?_
  refine x_iload_n dReader_level_17 rfl ?_
  -- at 18: .invokevirtual 133
  refine x_callV_1 h ok_Reader_one ml_Reader_133 dReader_level_18 (ble_of (Nat.le_refl _)) rfl rfl rfl rfl ?_
  refine ⟨T, i, u, rfl, rfl, hP, fun I1 j C k1 k2 => ?_, fun I1 j k1 k2 => ?_⟩
  · refine x_ireturn dReader_level_21 rfl rfl ?_
    exact h1 I1 j C k1 (one_lev k2)
  · refine x_ireturn dReader_level_21 rfl rfl ?_
    exact h2 I1 j k1 (one_levN k2)
set_option maxHeartbeats 4000000 in
set_option maxRecDepth 100000 in
theorem c_negn5 {op d : Nat} (hop : op ≤ 5) (hd : 3 ≤ d) (h3 : Con mReader_level d 0 0 (sp_lev5 3 op)) (hn : op < 5 → ∃ d2, d2 ≤ d ∧ Con mReader_negation d2 0 0 (sp_negn5 (op + 1))) : Con mReader_negation (d + 1) 0 0 (sp_negn5 op) := by
  refine con_of_X rfl fun G as S I L Post hs => ?_
  obtain ⟨T, i, u, rfl, rfl, hP, h1, h2⟩ := hs
  have hui := hP.2.2.2.1
  have hiT := hP.2.2.2.2.1
  have h161 := hP.2.2.2.2.2.2
  refine ⟨1, Nat.le_of_ble_eq_true rfl, ?_⟩
  show X mReader_negation G (d + 1, 0, 0) S5 I L 0 [.ref 23, .int (nI op), .null] [] Post
  refine x_aload_n dReader_negation_0 rfl ?_
  refine x_getR fl_Reader_19 rfl dReader_negation_1 rfl rfl rfl ?_
  refine x_aload_n dReader_negation_4 rfl ?_
  refine x_getI fl_Reader_31 rfl dReader_negation_5 rfl rfl ?_
  -- at 8: .iaload
  rw [hP.2.1]
  refine x_ialdJ (j := i) dReader_negation_8 rfl rfl (by first | rfl | (simp only [← nI_add, ← pk_mul]; rfl)) (by omega) ?_
  -- at 9: .bipush 9
  rw [hP.s25]
  refine x_bipush (v := 9) dReader_negation_9 rfl ?_
  -- at 11: .if_icmp .ne 38
  by_cases h9 : ts T i = 9
  · refine x_icmp_ne (tgt := 49) dReader_negation_11 (by decide) (fun h => absurd h9 h) (fun _ => ?_)
    have no : ∀ (I' : IM) (j : Nat), PSno I I' j → LevNo T 2 op i j → X mReader_negation G (d + 1, 0, 0) S5 I' L 47 [.ref 23, .int (nI op), .null] [] Post := by
      intro I' j k1 k2
      refine x_iconst (v := 0) dReader_negation_47 rfl ?_
      -- at 48: .ireturn
      refine x_ireturn dReader_negation_48 rfl rfl ?_
      exact h2 I' j k1 k2
    refine x_aload_n dReader_negation_14 rfl ?_
    refine x_bipush (v := 9) dReader_negation_15 rfl ?_
    refine x_iload_n dReader_negation_17 rfl ?_
    -- at 18: .invokevirtual 143
    refine x_callV_2 c_Reader_opens5 ok_Reader_opens ml_Reader_143 dReader_negation_18 (ble_of (by omega)) rfl rfl rfl rfl ?_
    refine ⟨T, i, u, op, 9, rfl, rfl, hop, hP, fun q => ?_, fun q => ?_⟩
    · refine x_if_eq (tgt := 47) dReader_negation_21 (by decide) (fun h => absurd h (by decide)) (fun _ => ?_)
      obtain ⟨d2, hd2, hc⟩ := hn q.1
      have hi1 := hP.more (by rw [h9]; decide)
      refine x_aload_n dReader_negation_24 rfl ?_
      refine x_iload_n dReader_negation_25 rfl ?_
      refine x_iconst (v := 1) dReader_negation_26 rfl ?_
      refine x_iadd dReader_negation_27 ?_
      -- at 28: .invokevirtual 130
      rw [nI_1]
      refine x_callV_1 hc ok_Reader_negation ml_Reader_130 dReader_negation_28 (ble_of (by omega)) rfl rfl rfl rfl ?_
      refine ⟨T, i + 1, u, rfl, rfl, hP.nx hi1, fun I2 j C k1 k2 => ?_, fun I2 j k1 k2 => ?_⟩
      · refine x_if_eq (tgt := 47) dReader_negation_31 (by decide) (fun h => absurd h (by decide)) (fun _ => ?_)
        refine x_aload_n dReader_negation_34 rfl ?_
        refine x_bipush (v := 9) dReader_negation_35 rfl ?_
        -- at 37: .invokevirtual 146
        refine x_callV_1 c_Reader_did5 ok_Reader_did ml_Reader_146 dReader_negation_37 (ble_of (by omega)) rfl rfl rfl rfl ?_
        have k3 : PSok I u I2 j ([] ++ C) := ((PSok.nil hP.2.1 hP.2.2.1).nx (i + 1)).tr k1
        have hj1 := k2.1
        have hj2 := k2.2.1
        refine ⟨u + C.length, 9, rfl, rfl, k1.2.2.1, by omega, ?_⟩
        refine x_if_eq (tgt := 47) dReader_negation_40 (by decide) (fun h => absurd h (by decide)) (fun _ => ?_)
        refine x_iconst (v := 1) dReader_negation_43 rfl ?_
        refine x_goto (tgt := 48) dReader_negation_44 (by decide) ?_
        -- at 48: .ireturn
        refine x_ireturn dReader_negation_48 rfl rfl ?_
        exact h1 _ j _ (k3.stp rfl (20000 + 9)) (not_ok hiT h9 q.1 k2)
      · refine x_if_eq (tgt := 47) dReader_negation_31 (by decide) (fun _ => ?_) (fun h => absurd (by decide) h)
        exact no I2 j ⟨(PSf.rfl.nx _).tr k1.1, k1.2⟩ (not_no hiT h9 q.1 k2)
    · refine x_if_eq (tgt := 47) dReader_negation_21 (by decide) (fun _ => ?_) (fun h => absurd (by decide) h)
      exact no I i ⟨PSf.rfl, hP.2.1⟩ (not_full hiT h9 (fun z => q ⟨z, h9⟩))
  · refine x_icmp_ne (tgt := 49) dReader_negation_11 (by decide) (fun _ => ?_) (fun h => absurd h h9)
    refine x_aload_n dReader_negation_49 rfl ?_
    refine x_iconst (v := 3) dReader_negation_50 rfl ?_
    refine x_iload_n dReader_negation_51 rfl ?_
    -- at 52: .invokevirtual 50
    refine x_callV_2 h3 ok_Reader_level ml_Reader_50 dReader_negation_52 (ble_of (Nat.le_refl _)) rfl rfl rfl rfl ?_
    refine ⟨T, i, u, rfl, rfl, hP, fun I1 j C k1 k2 => ?_, fun I1 j k1 k2 => ?_⟩
    · have hj1 := k2.1
      have hj2 := k2.2.1
      have hPj : PS I1 T j (u + C.length) := PSok.ps hP k1 (by omega) hj2
      refine x_if_ne (tgt := 60) dReader_negation_55 (by decide) (fun _ => ?_) (fun h => absurd h (by decide))
      refine x_aload_n dReader_negation_60 rfl ?_
      refine x_getR fl_Reader_19 rfl dReader_negation_61 rfl rfl rfl ?_
      refine x_aload_n dReader_negation_64 rfl ?_
      refine x_getI fl_Reader_31 rfl dReader_negation_65 rfl rfl ?_
      -- at 68: .iaload
      rw [k1.2.1]
      refine x_ialdJ (j := j) dReader_negation_68 rfl rfl (by first | rfl | (simp only [← nI_add, ← pk_mul]; rfl)) (by omega) ?_
      -- at 69: .istore_n 2
      rw [hPj.s25]
      refine x_istoren_2 dReader_negation_69 rfl rfl ?_
      refine x_iload_n dReader_negation_70 rfl ?_
      refine x_bipush (v := 60) dReader_negation_71 rfl ?_
      -- at 73: .if_icmp .eq 11
      have go84 : cmpP (ts T j) → X mReader_negation G (d + 1, 0, 0) S5 I1 L 84 [.ref 23, .int (nI op), .int (ts T j)] [] Post := by
        intro hc
        obtain ⟨q1, q2⟩ := enc_cmp hc
        have hj3 := hPj.more q2
        refine x_aload_n dReader_negation_84 rfl ?_
        refine x_dup dReader_negation_85 rfl ?_
        refine x_getI fl_Reader_31 rfl dReader_negation_86 rfl rfl ?_
        -- at 89: .iconst 1
        rw [k1.2.1]
        refine x_iconst (v := 1) dReader_negation_89 rfl ?_
        refine x_iadd dReader_negation_90 ?_
        -- at 91: .putfield 31
        rw [nI_1]
        refine x_putI fl_Reader_31 rfl dReader_negation_91 (by decide) rfl rfl rfl rfl ?_
        refine x_aload_n dReader_negation_94 rfl ?_
        refine x_iconst (v := 3) dReader_negation_95 rfl ?_
        refine x_iload_n dReader_negation_96 rfl ?_
        -- at 97: .invokevirtual 50
        refine x_callV_2 h3 ok_Reader_level ml_Reader_50 dReader_negation_97 (ble_of (Nat.le_refl _)) rfl rfl rfl rfl ?_
        refine ⟨T, j + 1, u + C.length, rfl, rfl, hPj.nx hj3, fun I3 j2 D k3 k4 => ?_, fun I3 j2 k3 k4 => ?_⟩
        · have k5 : PSok I u I3 j2 (C ++ D) := (k1.nx (j + 1)).tr k3
          have hj4 := k4.1
          have hj5 := k4.2.1
          refine x_if_eq (tgt := 115) dReader_negation_100 (by decide) (fun h => absurd h (by decide)) (fun _ => ?_)
          refine x_aload_n dReader_negation_103 rfl ?_
          refine x_iload_n dReader_negation_104 rfl ?_
          -- at 105: .invokevirtual 146
          refine x_callV_1 c_Reader_did5 ok_Reader_did ml_Reader_146 dReader_negation_105 (ble_of (by omega)) rfl rfl rfl rfl ?_
          refine ⟨u + (C ++ D).length, _, rfl, rfl, k5.2.2.1, by rw [List.length_append]; omega, ?_⟩
          refine x_if_eq (tgt := 115) dReader_negation_108 (by decide) (fun h => absurd h (by decide)) (fun _ => ?_)
          refine x_iconst (v := 1) dReader_negation_111 rfl ?_
          refine x_goto (tgt := 116) dReader_negation_112 (by decide) ?_
          -- at 116: .ireturn
          refine x_ireturn dReader_negation_116 rfl rfl ?_
          have k6 := k5.stp rfl (20000 + ts T j)
          rw [q1] at k6
          exact h1 _ j2 _ k6 (cmp_ok hiT h9 k2 hc k4)
        · refine x_if_eq (tgt := 115) dReader_negation_100 (by decide) (fun _ => ?_) (fun h => absurd (by decide) h)
          refine x_iconst (v := 0) dReader_negation_115 rfl ?_
          -- at 116: .ireturn
          refine x_ireturn dReader_negation_116 rfl rfl ?_
          exact h2 I3 j2 ⟨(k1.1.nx _).tr k3.1, k3.2⟩ (cmp_no hiT h9 k2 hc k4)
      refine x_icmp_eq (tgt := 84) dReader_negation_73 (by decide) (fun c1 => ?_) (fun c1 => ?_)
      · exact go84 (Or.inl c1)
      · refine x_iload_n dReader_negation_76 rfl ?_
        refine x_bipush (v := 61) dReader_negation_77 rfl ?_
        -- at 79: .if_icmp .eq 5
        refine x_icmp_eq (tgt := 84) dReader_negation_79 (by decide) (fun c2 => ?_) (fun c2 => ?_)
        · exact go84 (Or.inr c2)
        · refine x_iconst (v := 1) dReader_negation_82 rfl ?_
          -- at 83: .ireturn
          refine x_ireturn dReader_negation_83 rfl rfl ?_
          exact h1 I1 j C k1 (sum_only hiT h9 k2 (fun z => z.elim c1 c2))
    · refine x_if_ne (tgt := 60) dReader_negation_55 (by decide) (fun h => absurd (by decide) h) (fun _ => ?_)
      refine x_iconst (v := 0) dReader_negation_58 rfl ?_
      -- at 59: .ireturn
      refine x_ireturn dReader_negation_59 rfl rfl ?_
      exact h2 I1 j k1 (sum_no hiT h9 k2)
set_option maxHeartbeats 4000000 in
set_option maxRecDepth 100000 in
theorem c_onen5 {op d : Nat} (hop : op ≤ 5) (hd : 3 ≤ d) (hn : op < 5 → ∃ d2, d2 ≤ d ∧ Con mReader_one d2 0 0 (sp_onen5 (op + 1))) (hp : op < 5 → ∃ d2, d2 ≤ d ∧ Con mReader_level d2 0 0 (sp_lev5 0 (op + 1))) : Con mReader_one (d + 1) 0 0 (sp_onen5 op) := by
  refine con_of_X rfl fun G as S I L Post hs => ?_
  obtain ⟨T, i, u, rfl, rfl, hP, h1, h2⟩ := hs
  have hui := hP.2.2.2.1
  have hiT := hP.2.2.2.2.1
  have h161 := hP.2.2.2.2.2.2
  have hTok := hP.2.2.2.2.2.1.2.2 i hiT
  have e27 : I 27 i = (tk T i).2.2 := (hP.1 i hiT).2.2
  refine ⟨1, Nat.le_of_ble_eq_true rfl, ?_⟩
  show X mReader_one G (d + 1, 0, 0) S5 I L 0 [.ref 23, .int (nI op), .null] [] Post
  refine x_aload_n dReader_one_0 rfl ?_
  refine x_getR fl_Reader_19 rfl dReader_one_1 rfl rfl rfl ?_
  refine x_aload_n dReader_one_4 rfl ?_
  refine x_getI fl_Reader_31 rfl dReader_one_5 rfl rfl ?_
  -- at 8: .iaload
  rw [hP.2.1]
  refine x_ialdJ (j := i) dReader_one_8 rfl rfl (by first | rfl | (simp only [← nI_add, ← pk_mul]; rfl)) (by omega) ?_
  -- at 9: .istore_n 2
  rw [hP.s25]
  refine x_istoren_2 dReader_one_9 rfl rfl ?_
  refine x_iload_n dReader_one_10 rfl ?_
  refine x_iconst (v := 2) dReader_one_11 rfl ?_
  -- at 12: .if_icmp .eq 8
  have lit : ∀ x : Int32, (ts T i = 2 ∨ ts T i = 3) → enc x = cod (tk T i) → X mReader_one G (d + 1, 0, 0) S5 I L 51 [.ref 23, .int (nI op), .int (ts T i)] [.int x, .ref 23] Post := by
    intro x hl hx
    have hi1 := hP.more (by rcases hl with e | e <;> rw [e] <;> decide)
    refine x_callV_1 c_Reader_step5 ok_Reader_step ml_Reader_139 dReader_one_51 (ble_of (by omega)) rfl rfl rfl rfl ?_
    refine ⟨u, x, rfl, rfl, hP.2.2.1, by omega, ?_⟩
    refine x_aload_n dReader_one_54 rfl ?_
    refine x_dup dReader_one_55 rfl ?_
    refine x_getI fl_Reader_31 rfl dReader_one_56 rfl rfl ?_
    -- at 59: .iconst 1
    rw [stU_next hP.2.1]
    refine x_iconst (v := 1) dReader_one_59 rfl ?_
    refine x_iadd dReader_one_60 ?_
    -- at 61: .putfield 31
    rw [nI_1]
    refine x_putI fl_Reader_31 rfl dReader_one_61 (by decide) rfl rfl rfl rfl ?_
    refine x_iconst (v := 1) dReader_one_64 rfl ?_
    -- at 65: .ireturn
    refine x_ireturn dReader_one_65 rfl rfl ?_
    have k := ((PSok.nil hP.2.1 hP.2.2.1).stp rfl x).nx (i + 1)
    rw [hx] at k
    exact h1 _ (i + 1) _ k (one_lit hi1 hl (tok_lit hTok hl).1)
  have at20 : (ts T i = 2 ∨ ts T i = 3) → X mReader_one G (d + 1, 0, 0) S5 I L 20 [.ref 23, .int (nI op), .int (ts T i)] [] Post := by
    intro hl
    obtain ⟨-, t1, t2⟩ := tok_lit hTok hl
    refine x_aload_n dReader_one_20 rfl ?_
    refine x_iload_n dReader_one_21 rfl ?_
    refine x_iconst (v := 2) dReader_one_22 rfl ?_
    -- at 23: .if_icmp .ne 15
    by_cases e2 : ts T i = 2
    · refine x_icmp_ne (tgt := 38) dReader_one_23 (by decide) (fun h => absurd e2 h) (fun _ => ?_)
      refine x_aload_n dReader_one_26 rfl ?_
      refine x_getR fl_Reader_25 rfl dReader_one_27 rfl rfl rfl ?_
      refine x_aload_n dReader_one_30 rfl ?_
      refine x_getI fl_Reader_31 rfl dReader_one_31 rfl rfl ?_
      -- at 34: .iaload
      rw [hP.2.1]
      refine x_ialdJ (j := i) dReader_one_34 rfl rfl (by first | rfl | (simp only [← nI_add, ← pk_mul]; rfl)) (by omega) ?_
      -- at 35: .goto 16
      rw [e27]
      refine x_goto (tgt := 51) dReader_one_35 (by decide) ?_
      -- at 51: .invokevirtual 139
      exact lit _ hl (t1 e2)
    · refine x_icmp_ne (tgt := 38) dReader_one_23 (by decide) (fun _ => ?_) (fun h => absurd h e2)
      refine x_sipush (v := 10000) dReader_one_38 rfl ?_
      refine x_aload_n dReader_one_41 rfl ?_
      refine x_getR fl_Reader_25 rfl dReader_one_42 rfl rfl rfl ?_
      refine x_aload_n dReader_one_45 rfl ?_
      refine x_getI fl_Reader_31 rfl dReader_one_46 rfl rfl ?_
      -- at 49: .iaload
      rw [hP.2.1]
      refine x_ialdJ (j := i) dReader_one_49 rfl rfl (by first | rfl | (simp only [← nI_add, ← pk_mul]; rfl)) (by omega) ?_
      -- at 50: .iadd
      rw [e27]
      refine x_iadd dReader_one_50 ?_
      -- at 51: .invokevirtual 139
      exact lit _ hl (t2 (hl.elim (fun z => absurd z e2) id))
  by_cases e2 : ts T i = 2
  · refine x_icmp_eq (tgt := 20) dReader_one_12 (by decide) (fun _ => ?_) (fun h => absurd e2 h)
    exact at20 (Or.inl e2)
  refine x_icmp_eq (tgt := 20) dReader_one_12 (by decide) (fun h => absurd h e2) (fun _ => ?_)
  refine x_iload_n dReader_one_15 rfl ?_
  refine x_iconst (v := 3) dReader_one_16 rfl ?_
  -- at 17: .if_icmp .ne 49
  by_cases e3 : ts T i = 3
  · refine x_icmp_ne (tgt := 66) dReader_one_17 (by decide) (fun h => absurd e3 h) (fun _ => ?_)
    exact at20 (Or.inr e3)
  refine x_icmp_ne (tgt := 66) dReader_one_17 (by decide) (fun _ => ?_) (fun h => absurd h e3)
  refine x_iload_n dReader_one_66 rfl ?_
  refine x_bipush (v := 45) dReader_one_67 rfl ?_
  -- at 69: .if_icmp .ne 38
  by_cases e45 : ts T i = 45
  · refine x_icmp_ne (tgt := 107) dReader_one_69 (by decide) (fun h => absurd e45 h) (fun _ => ?_)
    have no : ∀ (I' : IM) (j : Nat), PSno I I' j → OneNo T op i j → X mReader_one G (d + 1, 0, 0) S5 I' L 105 [.ref 23, .int (nI op), .int (ts T i)] [] Post := by
      intro I' j k1 k2
      refine x_iconst (v := 0) dReader_one_105 rfl ?_
      -- at 106: .ireturn
      refine x_ireturn dReader_one_106 rfl rfl ?_
      exact h2 I' j k1 k2
    refine x_aload_n dReader_one_72 rfl ?_
    refine x_bipush (v := 45) dReader_one_73 rfl ?_
    refine x_iload_n dReader_one_75 rfl ?_
    -- at 76: .invokevirtual 143
    refine x_callV_2 c_Reader_opens5 ok_Reader_opens ml_Reader_143 dReader_one_76 (ble_of (by omega)) rfl rfl rfl rfl ?_
    refine ⟨T, i, u, op, 45, rfl, rfl, hop, hP, fun q => ?_, fun q => ?_⟩
    · refine x_if_eq (tgt := 105) dReader_one_79 (by decide) (fun h => absurd h (by decide)) (fun _ => ?_)
      obtain ⟨d2, hd2, hc⟩ := hn q.1
      have hi1 := hP.more (by rw [e45]; decide)
      refine x_aload_n dReader_one_82 rfl ?_
      refine x_iload_n dReader_one_83 rfl ?_
      refine x_iconst (v := 1) dReader_one_84 rfl ?_
      refine x_iadd dReader_one_85 ?_
      -- at 86: .invokevirtual 133
      rw [nI_1]
      refine x_callV_1 hc ok_Reader_one ml_Reader_133 dReader_one_86 (ble_of (by omega)) rfl rfl rfl rfl ?_
      refine ⟨T, i + 1, u, rfl, rfl, hP.nx hi1, fun I2 j C k1 k2 => ?_, fun I2 j k1 k2 => ?_⟩
      · refine x_if_eq (tgt := 105) dReader_one_89 (by decide) (fun h => absurd h (by decide)) (fun _ => ?_)
        refine x_aload_n dReader_one_92 rfl ?_
        refine x_bipush (v := 10) dReader_one_93 rfl ?_
        -- at 95: .invokevirtual 146
        refine x_callV_1 c_Reader_did5 ok_Reader_did ml_Reader_146 dReader_one_95 (ble_of (by omega)) rfl rfl rfl rfl ?_
        have k3 : PSok I u I2 j ([] ++ C) := ((PSok.nil hP.2.1 hP.2.2.1).nx (i + 1)).tr k1
        have hj1 := k2.1
        have hj2 := k2.2.1
        refine ⟨u + C.length, 10, rfl, rfl, k1.2.2.1, by omega, ?_⟩
        refine x_if_eq (tgt := 105) dReader_one_98 (by decide) (fun h => absurd h (by decide)) (fun _ => ?_)
        refine x_iconst (v := 1) dReader_one_101 rfl ?_
        refine x_goto (tgt := 106) dReader_one_102 (by decide) ?_
        -- at 106: .ireturn
        refine x_ireturn dReader_one_106 rfl rfl ?_
        exact h1 _ j _ (k3.stp rfl (20000 + 10)) (neg_ok hiT e45 q.1 k2)
      · refine x_if_eq (tgt := 105) dReader_one_89 (by decide) (fun _ => ?_) (fun h => absurd (by decide) h)
        exact no I2 j ⟨(PSf.rfl.nx _).tr k1.1, k1.2⟩ (neg_no hiT e45 q.1 k2)
    · refine x_if_eq (tgt := 105) dReader_one_79 (by decide) (fun _ => ?_) (fun h => absurd (by decide) h)
      exact no I i ⟨PSf.rfl, hP.2.1⟩ (neg_full hiT e45 (fun z => q ⟨z, e45⟩))
  · refine x_icmp_ne (tgt := 107) dReader_one_69 (by decide) (fun _ => ?_) (fun h => absurd h e45)
    have no : ∀ (I' : IM) (j : Nat), PSno I I' j → OneNo T op i j → X mReader_one G (d + 1, 0, 0) S5 I' L 141 [.ref 23, .int (nI op), .int (ts T i)] [] Post := by
      intro I' j k1 k2
      refine x_iconst (v := 0) dReader_one_141 rfl ?_
      -- at 142: .ireturn
      refine x_ireturn dReader_one_142 rfl rfl ?_
      exact h2 I' j k1 k2
    refine x_aload_n dReader_one_107 rfl ?_
    refine x_bipush (v := 40) dReader_one_108 rfl ?_
    refine x_iload_n dReader_one_110 rfl ?_
    -- at 111: .invokevirtual 143
    refine x_callV_2 c_Reader_opens5 ok_Reader_opens ml_Reader_143 dReader_one_111 (ble_of (by omega)) rfl rfl rfl rfl ?_
    refine ⟨T, i, u, op, 40, rfl, rfl, hop, hP, fun q => ?_, fun q => ?_⟩
    · refine x_if_eq (tgt := 141) dReader_one_114 (by decide) (fun h => absurd h (by decide)) (fun _ => ?_)
      obtain ⟨d2, hd2, hc⟩ := hp q.1
      have hi1 := hP.more (by rw [q.2]; decide)
      refine x_aload_n dReader_one_117 rfl ?_
      refine x_iconst (v := 0) dReader_one_118 rfl ?_
      refine x_iload_n dReader_one_119 rfl ?_
      refine x_iconst (v := 1) dReader_one_120 rfl ?_
      refine x_iadd dReader_one_121 ?_
      -- at 122: .invokevirtual 50
      rw [nI_1]
      refine x_callV_2 hc ok_Reader_level ml_Reader_50 dReader_one_122 (ble_of (by omega)) rfl rfl rfl rfl ?_
      refine ⟨T, i + 1, u, rfl, rfl, hP.nx hi1, fun I2 j C k1 k2 => ?_, fun I2 j k1 k2 => ?_⟩
      · refine x_if_eq (tgt := 141) dReader_one_125 (by decide) (fun h => absurd h (by decide)) (fun _ => ?_)
        refine x_aload_n dReader_one_128 rfl ?_
        refine x_bipush (v := 41) dReader_one_129 rfl ?_
        -- at 131: .invokevirtual 46
        have k3 : PSok I u I2 j ([] ++ C) := ((PSok.nil hP.2.1 hP.2.2.1).nx (i + 1)).tr k1
        have hj1 := k2.1
        have hj2 := k2.2.1
        have hPj : PS I2 T j (u + C.length) := PSok.ps (hP.nx hi1) k1 (by omega) hj2
        refine x_callV_1 c_Reader_passes5 ok_Reader_passes ml_Reader_46 dReader_one_131 (ble_of (by omega)) rfl rfl rfl rfl ?_
        refine ⟨T, j, u + C.length, 41, rfl, rfl, hPj, fun g => ?_, fun g => ?_⟩
        · have hj3 := hPj.more (by rw [g]; decide)
          refine x_if_eq (tgt := 141) dReader_one_134 (by decide) (fun h => absurd h (by decide)) (fun _ => ?_)
          refine x_iconst (v := 1) dReader_one_137 rfl ?_
          refine x_goto (tgt := 142) dReader_one_138 (by decide) ?_
          -- at 142: .ireturn
          refine x_ireturn dReader_one_142 rfl rfl ?_
          exact h1 _ (j + 1) _ (k3.nx (j + 1)) (par_ok hiT q.2 q.1 k2 g hj3)
        · refine x_if_eq (tgt := 141) dReader_one_134 (by decide) (fun _ => ?_) (fun h => absurd (by decide) h)
          exact no I2 j ⟨k3.1, k3.2.1⟩ (par_no hiT q.2 q.1 k2 g)
      · refine x_if_eq (tgt := 141) dReader_one_125 (by decide) (fun _ => ?_) (fun h => absurd (by decide) h)
        exact no I2 j ⟨(PSf.rfl.nx _).tr k1.1, k1.2⟩ (par_no2 hiT q.2 q.1 k2)
    · refine x_if_eq (tgt := 141) dReader_one_114 (by decide) (fun _ => ?_) (fun h => absurd (by decide) h)
      by_cases e40 : ts T i = 40
      · exact no I i ⟨PSf.rfl, hP.2.1⟩ (par_full hiT e40 (fun z => q ⟨z, e40⟩))
      · exact no I i ⟨PSf.rfl, hP.2.1⟩ (one_bad hiT e2 e3 e45 e40)
/-- all levels, so many open -/
theorem rec_all5 : ∀ k, k ≤ 5 → Con mReader_one (4 + 8 * k) 0 0 (sp_onen5 (5 - k)) ∧ Con mReader_negation (8 + 8 * k) 0 0 (sp_negn5 (5 - k)) ∧ Con mReader_level (11 + 8 * k) 0 0 (sp_lev5 0 (5 - k)) := by
  intro k
  induction k with
  | zero =>
    intro _
    have h1 : Con mReader_one 4 0 0 (sp_onen5 5) := c_onen5 (d := 3) (by omega) (by omega) (fun h => absurd h (by omega)) (fun h => absurd h (by omega))
    have h5 : Con mReader_level 5 0 0 (sp_lev5 5 5) := c_lev_55 h1
    have h4 : Con mReader_level 6 0 0 (sp_lev5 4 5) := c_lev_bin5 (by decide) (by omega) h5
    have h3 : Con mReader_level 7 0 0 (sp_lev5 3 5) := c_lev_bin5 (by decide) (by omega) h4
    have hn : Con mReader_negation 8 0 0 (sp_negn5 5) := c_negn5 (by omega) (by omega) h3 (fun h => absurd h (by omega))
    have h2 : Con mReader_level 9 0 0 (sp_lev5 2 5) := c_lev_25 hn
    have h1' : Con mReader_level 10 0 0 (sp_lev5 1 5) := c_lev_bin5 (by decide) (by omega) h2
    have h0 : Con mReader_level 11 0 0 (sp_lev5 0 5) := c_lev_bin5 (by decide) (by omega) h1'
    exact ⟨h1, hn, h0⟩
  | succ k ih =>
    intro hk
    obtain ⟨i1, i2, i3⟩ := ih (by omega)
    have e : 5 - k = 5 - (k + 1) + 1 := by omega
    rw [e] at i1 i2 i3
    have hop : 5 - (k + 1) ≤ 5 := by omega
    generalize 5 - (k + 1) = op at i1 i2 i3 hop ⊢
    · have h1 : Con mReader_one (11 + 8 * k + 1) 0 0 (sp_onen5 op) := c_onen5 (d := 11 + 8 * k) hop (by omega) (fun _ => ⟨_, by omega, i1⟩) (fun _ => ⟨_, by omega, i3⟩)
      have h5 : Con mReader_level (11 + 8 * k + 1 + 1) 0 0 (sp_lev5 5 op) := c_lev_55 h1
      have h4 : Con mReader_level (11 + 8 * k + 1 + 1 + 1) 0 0 (sp_lev5 4 op) := c_lev_bin5 (by decide) (by omega) h5
      have h3 : Con mReader_level (11 + 8 * k + 1 + 1 + 1 + 1) 0 0 (sp_lev5 3 op) := c_lev_bin5 (by decide) (by omega) h4
      have hn : Con mReader_negation (11 + 8 * k + 1 + 1 + 1 + 1 + 1) 0 0 (sp_negn5 op) := c_negn5 hop (by omega) h3 (fun _ => ⟨_, by omega, i2⟩)
      have h2 : Con mReader_level (11 + 8 * k + 1 + 1 + 1 + 1 + 1 + 1) 0 0 (sp_lev5 2 op) := c_lev_25 hn
      have h1' : Con mReader_level (11 + 8 * k + 1 + 1 + 1 + 1 + 1 + 1 + 1) 0 0 (sp_lev5 1 op) := c_lev_bin5 (by decide) (by omega) h2
      have h0 : Con mReader_level (11 + 8 * k + 1 + 1 + 1 + 1 + 1 + 1 + 1 + 1) 0 0 (sp_lev5 0 op) := c_lev_bin5 (by decide) (by omega) h1'
      rw [show 4 + 8 * (k + 1) = 11 + 8 * k + 1 by omega, show 8 + 8 * (k + 1) = 11 + 8 * k + 1 + 1 + 1 + 1 + 1 by omega, show 11 + 8 * (k + 1) = 11 + 8 * k + 1 + 1 + 1 + 1 + 1 + 1 + 1 + 1 by omega]
      exact ⟨h1, hn, h0⟩
theorem c_E5 : Con mReader_level 51 0 0 (sp_lev5 0 0) := (rec_all5 5 (by omega)).2.2
def sp_Reader_reads5 : SpT := fun as S I L Post => ∃ z : Nat, as = [.ref 23] ∧ S = S5 ∧ I 23 1 = nI z ∧ z ≤ 160 ∧
  (∀ (a b c : List Int32), pt (tokS (I 24) z 0) = .inr (a, b, c) → ∀ I' : IM, Fr rdScr I I' → I' 23 1 = I 23 1 → (I' 29 0 = nI 0 ∧ I' 29 1 = nI a.length ∧ I' 29 2 = nI (a.length + b.length) ∧ I' 29 3 = nI (a.length + b.length + c.length)) →
    (∀ k, k < a.length + b.length + c.length → enc (I' 28 k) = (a ++ b ++ c).getD k 0) → a.length + b.length + c.length ≤ 160 → wfC a → wfC b → wfC c → Post (some (.int 1)) S5 I' L) ∧
  (∀ p : Nat, pt (tokS (I 24) z 0) = .inl p → ∀ (I' : IM) (j : Nat), Fr rdScr I I' → I' 23 1 = I 23 1 → I' 23 6 = nI j → j < 161 → I' 26 j = nI p → Post (some (.int 0)) S5 I' L)
set_option maxHeartbeats 4000000 in
set_option maxRecDepth 100000 in
theorem c_Reader_reads5 : Con mReader_reads 81 0 0 sp_Reader_reads5 := by
  refine con_of_X rfl fun G as S I L Post hs => ?_
  obtain ⟨z, rfl, rfl, hz, hz2, h1, h2⟩ := hs
  refine ⟨1, Nat.le_of_ble_eq_true rfl, ?_⟩
  show X mReader_reads G _ S5 I L 0 [.ref 23, .null] [] Post
  obtain ⟨hTg, hTl⟩ := tokS_good (I 24) z z 0 (by omega)
  generalize hT : tokS (I 24) z 0 = T at h1 h2 hTg hTl
  refine x_aload_n dReader_reads_0 rfl ?_
  -- at 1: .invokevirtual 43
  refine x_callV_0 c_Reader_cut5 ok_Reader_cut ml_Reader_43 dReader_reads_1 rfl rfl rfl rfl rfl ?_
  refine ⟨z, rfl, rfl, hz, hz2, fun I1 hF1 hs1 hTi => ?_⟩
  rw [hT] at hTi
  refine x_aload_n dReader_reads_4 rfl ?_
  refine x_iconst (v := 0) dReader_reads_5 rfl ?_
  refine x_putI fl_Reader_31 rfl dReader_reads_6 (by decide) rfl rfl rfl rfl ?_
  refine x_aload_n dReader_reads_9 rfl ?_
  refine x_iconst (v := 0) dReader_reads_10 rfl ?_
  refine x_putI fl_Reader_40 rfl dReader_reads_11 (by decide) rfl rfl rfl rfl ?_
  refine x_iconst (v := 0) dReader_reads_14 rfl ?_
  refine x_istoren_1 dReader_reads_15 rfl rfl ?_
  -- at 16: .iload_n 1
  have part : ∀ (p i u : Nat) (I1 : IM), p < 3 → PS I1 T i u →
      (∀ (I2 : IM) (j : Nat) (C : List Int32), PSok (up2 I1 29 p (nI u)) u I2 (j + 1) C → j + 1 < T.length → wfC C → u + C.length ≤ j + 1 → ptE (nI (4 + p)) (T.drop i) = .inr (C, T.drop (j + 1)) → X mReader_reads G (81, 0, 0) S5 I2 L 16 [.ref 23, .int (nI (p + 1))] [] Post) →
      (∀ (I2 : IM) (j : Nat), PSno (up2 I1 29 p (nI u)) I2 j → j < T.length → ptE (nI (4 + p)) (T.drop i) = .inl (tp T j) → Post (some (.int 0)) S5 I2 L) →
      X mReader_reads G (81, 0, 0) S5 I1 L 16 [.ref 23, .int (nI p)] [] Post := by
    intro p i u I1 hp hP k1 k2
    have hiT := hP.2.2.2.2.1
    have hP2 : PS (up2 I1 29 p (nI u)) T i u := by
      obtain ⟨a1, a2, a3, a4, a5, a6, a7⟩ := hP
      refine ⟨?_, by rw [up2_n _ _ _ (by decide)]; exact a2, by rw [up2_n _ _ _ (by decide)]; exact a3, a4, a5, a6, a7⟩
      unfold Tin at a1 ⊢
      rw [up2_n _ _ _ (by decide), up2_n _ _ _ (by decide), up2_n _ _ _ (by decide)]
      exact a1
    have no : ∀ (I2 : IM) (j : Nat), PSno (up2 I1 29 p (nI u)) I2 j → j < T.length → ptE (nI (4 + p)) (T.drop i) = .inl (tp T j) → X mReader_reads G (81, 0, 0) S5 I2 L 59 [.ref 23, .int (nI p)] [] Post := by
      intro I2 j q1 q2 q3
      refine x_iconst (v := 0) dReader_reads_59 rfl ?_
      -- at 60: .ireturn
      refine x_ireturn dReader_reads_60 rfl rfl ?_
      exact k2 I2 j q1 q2 q3
    refine x_iload_n dReader_reads_16 rfl ?_
    refine x_iconst (v := 3) dReader_reads_17 rfl ?_
    -- at 18: .if_icmp .ge 49
    refine x_icmp_ge (tgt := 67) dReader_reads_18 (by decide) (fun h => absurd h (nI_ge (b := 3) hp (by omega))) (fun _ => ?_)
    refine x_aload_n dReader_reads_21 rfl ?_
    refine x_getR fl_Reader_37 rfl dReader_reads_22 rfl rfl rfl ?_
    refine x_iload_n dReader_reads_25 rfl ?_
    refine x_aload_n dReader_reads_26 rfl ?_
    refine x_getI fl_Reader_40 rfl dReader_reads_27 rfl rfl ?_
    -- at 30: .iastore
    rw [hP.2.2.1]
    refine x_iastJ (j := p) dReader_reads_30 rfl rfl (by first | rfl | (simp only [← nI_add, ← pk_mul]; rfl)) (by omega) ?_
    refine x_aload_n dReader_reads_31 rfl ?_
    refine x_iconst (v := 4) dReader_reads_32 rfl ?_
    refine x_iload_n dReader_reads_33 rfl ?_
    refine x_iadd dReader_reads_34 ?_
    -- at 35: .invokevirtual 46
    refine x_eqi (y := nI (4 + p)) (nI_add 4 p) ?_
    refine x_callV_1 c_Reader_passes5 ok_Reader_passes ml_Reader_46 dReader_reads_35 rfl rfl rfl rfl rfl ?_
    refine ⟨T, i, u, _, rfl, rfl, hP2, fun q => ?_, fun q => ?_⟩
    · have hi1 := hP2.more (by rw [q]; exact fun y => absurd ((nI_eq (b := 0) (by omega) (by omega)).mp y) (by omega))
      have e0 := ptE_at (p := 4 + p) hiT
      rw [if_pos q] at e0
      refine x_if_eq (tgt := 59) dReader_reads_38 (by decide) (fun h => absurd h (by decide)) (fun _ => ?_)
      refine x_aload_n dReader_reads_41 rfl ?_
      refine x_iconst (v := 0) dReader_reads_42 rfl ?_
      refine x_iconst (v := 0) dReader_reads_43 rfl ?_
      -- at 44: .invokevirtual 50
      refine x_callV_2 c_E5 ok_Reader_level ml_Reader_50 dReader_reads_44 rfl rfl rfl rfl rfl ?_
      refine ⟨T, i + 1, u, rfl, rfl, hP2.nx hi1, fun I2 j C q1 q2 => ?_, fun I2 j q1 q2 => ?_⟩
      · have hj1 := q2.1
        have hj2 := q2.2.1
        have hui := hP.2.2.2.1
        have hPj : PS I2 T j (u + C.length) := PSok.ps (hP2.nx hi1) q1 (by omega) hj2
        have q3 : PSok (up2 I1 29 p (nI u)) u I2 j ([] ++ C) := ((PSok.nil hP2.2.1 hP2.2.2.1).nx (i + 1)).tr q1
        rw [e_end q2] at e0
        refine x_if_eq (tgt := 59) dReader_reads_47 (by decide) (fun h => absurd h (by decide)) (fun _ => ?_)
        refine x_aload_n dReader_reads_50 rfl ?_
        refine x_bipush (v := 59) dReader_reads_51 rfl ?_
        -- at 53: .invokevirtual 46
        refine x_callV_1 c_Reader_passes5 ok_Reader_passes ml_Reader_46 dReader_reads_53 rfl rfl rfl rfl rfl ?_
        refine ⟨T, j, u + C.length, _, rfl, rfl, hPj, fun g => ?_, fun g => ?_⟩
        · have hj3 := hPj.more (by rw [g]; decide)
          rw [if_pos g] at e0
          refine x_if_ne (tgt := 61) dReader_reads_56 (by decide) (fun _ => ?_) (fun h => absurd h (by decide))
          refine x_iincp_1 dReader_reads_61 rfl rfl ?_
          refine x_goto (tgt := 16) dReader_reads_64 (by decide) ?_
          -- at 16: .iload_n 1
          rw [nI_1]
          exact k1 _ j C (q3.nx (j + 1)) hj3 q2.2.2.2.1 (by omega) e0
        · rw [if_neg g] at e0
          refine x_if_ne (tgt := 61) dReader_reads_56 (by decide) (fun h => absurd (by decide) h) (fun _ => ?_)
          exact no I2 j ⟨q3.1, q3.2.1⟩ hj2 e0
      · refine x_if_eq (tgt := 59) dReader_reads_47 (by decide) (fun _ => ?_) (fun h => absurd (by decide) h)
        have e1 := q2.2.2 [] [] rfl (by decide)
        rw [show decide (0 ≤ 2) = true from rfl] at e1
        rw [e1] at e0
        exact no I2 j ⟨(PSf.rfl.nx _).tr q1.1, q1.2⟩ q2.2.1 e0
    · have e0 := ptE_at (p := 4 + p) hiT
      rw [if_neg q] at e0
      refine x_if_eq (tgt := 59) dReader_reads_38 (by decide) (fun _ => ?_) (fun h => absurd (by decide) h)
      exact no _ i ⟨PSf.rfl, hP2.2.1⟩ hiT e0
  generalize hJ : up2 (up2 I1 23 6 0) 23 9 0 = J
  have hJ25 : ∀ k, k ≠ 23 → J k = I1 k := fun k hk => by rw [← hJ, up2_n _ _ _ hk, up2_n _ _ _ hk]
  have hPJ : PS J T 0 0 := by
    refine ⟨?_, by rw [← hJ, up2_s, up1_n _ _ (by decide), up2_s, up1_s]; rfl, by rw [← hJ, up2_s, up1_s]; rfl, Nat.le_refl _, hTg.1, hTg, by omega⟩
    unfold Tin at hTi ⊢
    rw [hJ25 25 (by decide), hJ25 26 (by decide), hJ25 27 (by decide)]
    exact hTi
  have hFJ : Fr rdScr I J ∧ J 23 1 = I 23 1 := by
    refine ⟨fun k hk => ?_, ?_⟩
    · simp only [List.mem_cons, List.not_mem_nil, or_false, not_or] at hk
      rw [hJ25 k hk.1]
      exact hF1 k (by simp [hk])
    · rw [← hJ, up2_s, up1_n _ _ (by decide), up2_s, up1_n _ _ (by decide)]
      exact hs1 1 (by decide)
  have lift : ∀ (Ia Ib : IM) (p : Nat) (x : Int32), Fr rdScr I Ia → Ia 23 1 = I 23 1 → PSf (up2 Ia 29 p x) Ib → Fr rdScr I Ib ∧ Ib 23 1 = I 23 1 := by
    intro Ia Ib p x f1 f2 f3
    refine ⟨(f1.up (by decide) _ _).tr (f3.1.wk (by decide)), ?_⟩
    rw [f3.2 1 (by decide) (by decide), up2_n _ _ _ (by decide)]
    exact f2
  have bad : ∀ (Ib : IM) (j p : Nat), Fr rdScr I Ib → Ib 23 1 = I 23 1 → Ib 23 6 = nI j → j < T.length → Tin Ib T → pt T = .inl (tp T j) → Post (some (.int 0)) S5 Ib L := by
    intro Ib j p f1 f2 f3 f4 f5 f6
    exact h2 _ f6 Ib j f1 f2 f3 (by omega) (f5 j f4).2.1
  have tin29 : ∀ (Ia : IM) (p : Nat) (x : Int32), Tin Ia T → Tin (up2 Ia 29 p x) T := by
    intro Ia p x f
    unfold Tin at f ⊢
    rw [up2_n _ _ _ (by decide), up2_n _ _ _ (by decide), up2_n _ _ _ (by decide)]
    exact f
  refine part 0 0 0 J (by omega) hPJ (fun I2 j1 a q1 q2 q3 q4 q5 => ?_) (fun I2 j q1 q2 q3 => ?_)
  · obtain ⟨l1, l2⟩ := lift J I2 0 _ hFJ.1 hFJ.2 q1.1
    rw [Nat.zero_add] at q4
    have hP2 : PS I2 T (j1 + 1) a.length := ⟨q1.1.tin (tin29 _ _ _ hPJ.1), q1.2.1, by rw [q1.2.2.1, Nat.zero_add], q4, q2, hTg, by omega⟩
    refine part 1 (j1 + 1) a.length I2 (by omega) hP2 (fun I3 j2 b r1 r2 r3 r4 r5 => ?_) (fun I3 j r1 r2 r3 => ?_)
    · obtain ⟨m1, m2⟩ := lift I2 I3 1 _ l1 l2 r1.1
      have hP3 : PS I3 T (j2 + 1) (a.length + b.length) := ⟨r1.1.tin (tin29 _ _ _ hP2.1), r1.2.1, r1.2.2.1, r4, r2, hTg, by omega⟩
      refine part 2 (j2 + 1) (a.length + b.length) I3 (by omega) hP3 (fun I4 j3 c s1 s2 s3 s4 s5 => ?_) (fun I4 j s1 s2 s3 => ?_)
      · obtain ⟨n1, n2⟩ := lift I3 I4 2 _ m1 m2 s1.1
        have hT4 : Tin I4 T := s1.1.tin (tin29 _ _ _ hP3.1)
        have ept : pt T = if ts T (j3 + 1) = 0 then .inr (a, b, c) else .inl (tp T (j3 + 1)) := by
          unfold pt
          rw [show ptE 4 T = .inr (a, T.drop (j1 + 1)) from q5]
          dsimp only
          rw [show ptE 5 (T.drop (j1 + 1)) = .inr (b, T.drop (j2 + 1)) from r5]
          dsimp only
          rw [show ptE 6 (T.drop (j2 + 1)) = .inr (c, T.drop (j3 + 1)) from s5]
          dsimp only
          rw [drop_tk s2]
          rfl
        refine x_iload_n dReader_reads_16 rfl ?_
        refine x_iconst (v := 3) dReader_reads_17 rfl ?_
        -- at 18: .if_icmp .ge 49
        refine x_icmp_ge (tgt := 67) dReader_reads_18 (by decide) (fun _ => ?_) (fun h => absurd (Int32.le_refl _) h)
        refine x_aload_n dReader_reads_67 rfl ?_
        refine x_getR fl_Reader_37 rfl dReader_reads_68 rfl rfl rfl ?_
        refine x_iconst (v := 3) dReader_reads_71 rfl ?_
        refine x_aload_n dReader_reads_72 rfl ?_
        refine x_getI fl_Reader_40 rfl dReader_reads_73 rfl rfl ?_
        -- at 76: .iastore
        rw [s1.2.2.1]
        refine x_iastJ (j := 3) dReader_reads_76 rfl rfl (by first | rfl | (simp only [← nI_add, ← pk_mul]; rfl)) (by omega) ?_
        refine x_aload_n dReader_reads_77 rfl ?_
        refine x_getR fl_Reader_19 rfl dReader_reads_78 rfl rfl rfl ?_
        refine x_aload_n dReader_reads_81 rfl ?_
        refine x_getI fl_Reader_31 rfl dReader_reads_82 rfl rfl ?_
        -- at 85: .iaload
        simp only [up2_n, up2_s, ne_eq, Nat.reduceEqDiff, not_false_eq_true, s1.2.1]
        refine x_ialdJ (j := j3 + 1) dReader_reads_85 rfl rfl (by first | rfl | (simp only [← nI_add, ← pk_mul]; rfl)) (by omega) ?_
        -- at 86: .ifCond .ne 7
        simp only [up2_n, up2_s, ne_eq, Nat.reduceEqDiff, not_false_eq_true]
        rw [(hT4 (j3 + 1) s2).1]
        have n3 : Fr rdScr I (up2 I4 29 3 (nI (a.length + b.length + c.length))) := n1.up (by decide) _ _
        have n4 : up2 I4 29 3 (nI (a.length + b.length + c.length)) 23 1 = I 23 1 := by rw [up2_n _ _ _ (by decide)]; exact n2
        by_cases e0 : ts T (j3 + 1) = 0
        · rw [if_pos e0] at ept
          refine x_if_ne (tgt := 93) dReader_reads_86 (by decide) (fun h => absurd e0 h) (fun _ => ?_)
          refine x_iconst (v := 1) dReader_reads_89 rfl ?_
          refine x_goto (tgt := 94) dReader_reads_90 (by decide) ?_
          -- at 94: .ireturn
          refine x_ireturn dReader_reads_94 rfl rfl ?_
          refine h1 a b c ept _ n3 n4 ⟨?_, ?_, ?_, by rw [up2_s, up1_s]⟩ (fun k hk => ?_) (by omega) q3 r3 s3
          · rw [up2_s, up1_n _ _ (by decide), s1.1.1 29 (by decide), up2_s, up1_n _ _ (by decide), r1.1.1 29 (by decide), up2_s, up1_n _ _ (by decide), q1.1.1 29 (by decide), up2_s, up1_s]
          · rw [up2_s, up1_n _ _ (by decide), s1.1.1 29 (by decide), up2_s, up1_n _ _ (by decide), r1.1.1 29 (by decide), up2_s, up1_s]
          · rw [up2_s, up1_n _ _ (by decide), s1.1.1 29 (by decide), up2_s, up1_s]
          · rw [up2_n _ _ _ (by decide)]
            by_cases z1 : k < a.length
            · rw [s1.2.2.2.1 k (by omega), up2_n _ _ _ (by decide), r1.2.2.2.1 k z1, up2_n _ _ _ (by decide)]
              have := q1.2.2.2.2 k z1
              rw [Nat.zero_add] at this
              rw [this]
              simp [List.getD_eq_getElem?_getD, List.getElem?_append_left z1]
            · by_cases z2 : k < a.length + b.length
              · rw [s1.2.2.2.1 k z2, up2_n _ _ _ (by decide)]
                have := r1.2.2.2.2 (k - a.length) (by omega)
                rw [show a.length + (k - a.length) = k by omega] at this
                rw [this]
                simp [List.getD_eq_getElem?_getD, List.getElem?_append_right (show a.length ≤ k by omega), List.getElem?_append_left (show k - a.length < b.length by omega)]
              · have := s1.2.2.2.2 (k - (a.length + b.length)) (by omega)
                rw [show a.length + b.length + (k - (a.length + b.length)) = k by omega] at this
                rw [this]
                simp [List.getD_eq_getElem?_getD, List.getElem?_append_right (show a.length ≤ k by omega), List.getElem?_append_right (show b.length ≤ k - a.length by omega), Nat.sub_add_eq]
        · rw [if_neg e0] at ept
          refine x_if_ne (tgt := 93) dReader_reads_86 (by decide) (fun _ => ?_) (fun h => absurd h e0)
          refine x_iconst (v := 0) dReader_reads_93 rfl ?_
          -- at 94: .ireturn
          refine x_ireturn dReader_reads_94 rfl rfl ?_
          exact bad _ (j3 + 1) 0 n3 n4 (by rw [up2_n _ _ _ (by decide)]; exact s1.2.1) s2 (tin29 _ _ _ hT4) ept
      · obtain ⟨n1, n2⟩ := lift I3 I4 2 _ m1 m2 s1.1
        refine bad I4 j 0 n1 n2 s1.2 s2 (s1.1.tin (tin29 _ _ _ hP3.1)) ?_
        unfold pt
        rw [show ptE 4 T = .inr (a, T.drop (j1 + 1)) from q5]
        dsimp only
        rw [show ptE 5 (T.drop (j1 + 1)) = .inr (b, T.drop (j2 + 1)) from r5]
        dsimp only
        rw [show ptE 6 (T.drop (j2 + 1)) = .inl (tp T j) from s3]
    · obtain ⟨n1, n2⟩ := lift I2 I3 1 _ l1 l2 r1.1
      refine bad I3 j 0 n1 n2 r1.2 r2 (r1.1.tin (tin29 _ _ _ hP2.1)) ?_
      unfold pt
      rw [show ptE 4 T = .inr (a, T.drop (j1 + 1)) from q5]
      dsimp only
      rw [show ptE 5 (T.drop (j1 + 1)) = .inl (tp T j) from r3]
  · obtain ⟨n1, n2⟩ := lift J I2 0 _ hFJ.1 hFJ.2 q1.1
    refine bad I2 j 0 n1 n2 q1.2 q2 (q1.1.tin (tin29 _ _ _ hPJ.1)) ?_
    unfold pt
    rw [show ptE 4 T = .inl (tp T j) from q3]
def sp_Reader_put5 : SpT := fun as S I L Post => ∃ (z : Nat) (b : Int32), as = [.ref 23, .int b] ∧ S = S5 ∧ I 23 1 = nI z ∧ z < 160 ∧ Post none S5 (up2 (up2 I 24 z b) 23 1 (nI (z + 1))) L
set_option maxHeartbeats 4000000 in
set_option maxRecDepth 100000 in
theorem c_Reader_put5 : Con mReader_put 2 0 0 sp_Reader_put5 := by
  refine con_of_X rfl fun G as S I L Post hs => ?_
  obtain ⟨z, b, rfl, rfl, hz, h160, h1⟩ := hs
  refine ⟨0, Nat.le_of_ble_eq_true rfl, ?_⟩
  show X mReader_put G _ S5 I L 0 [.ref 23, .int b] [] Post
  refine x_aload_n dReader_put_0 rfl ?_
  refine x_getI fl_Reader_15 rfl dReader_put_1 rfl rfl ?_
  refine x_sipush (v := 160) dReader_put_4 rfl ?_
  -- at 7: .if_icmp .ge 23
  rw [hz]
  refine x_icmp_ge (tgt := 30) dReader_put_7 (by decide) (fun h => absurd h (nI_ge (b := 160) h160 (by omega))) (fun _ => ?_)
  refine x_aload_n dReader_put_10 rfl ?_
  refine x_getR fl_Reader_9 rfl dReader_put_11 rfl rfl rfl ?_
  refine x_aload_n dReader_put_14 rfl ?_
  refine x_getI fl_Reader_15 rfl dReader_put_15 rfl rfl ?_
  -- at 18: .iload_n 1
  rw [hz]
  refine x_iload_n dReader_put_18 rfl ?_
  refine x_iastJ (j := z) dReader_put_19 rfl rfl (by first | rfl | (simp only [← nI_add, ← pk_mul]; rfl)) (by omega) ?_
  refine x_aload_n dReader_put_20 rfl ?_
  refine x_dup dReader_put_21 rfl ?_
  refine x_getI fl_Reader_15 rfl dReader_put_22 rfl rfl ?_
  -- at 25: .iconst 1
  simp only [up2_n, up2_s, ne_eq, Nat.reduceEqDiff, not_false_eq_true, hz]
  refine x_iconst (v := 1) dReader_put_25 rfl ?_
  refine x_iadd dReader_put_26 ?_
  -- at 27: .putfield 15
  rw [nI_1]
  refine x_putI fl_Reader_15 rfl dReader_put_27 (by decide) rfl rfl rfl rfl ?_
  -- at 30: .return_
  refine x_return dReader_put_30 rfl ?_
  exact h1
def sp_Reader_clear5 : SpT := fun as S I L Post => as = [.ref 23] ∧ S = S5 ∧ Post none S5 (up2 I 23 1 0) L
set_option maxHeartbeats 4000000 in
set_option maxRecDepth 100000 in
theorem c_Reader_clear5 : Con mReader_clear 2 0 0 sp_Reader_clear5 := by
  refine con_of_X rfl fun G as S I L Post hs => ?_
  obtain ⟨rfl, rfl, h1⟩ := hs
  refine ⟨0, Nat.le_of_ble_eq_true rfl, ?_⟩
  show X mReader_clear G _ S5 I L 0 [.ref 23] [] Post
  refine x_aload_n dReader_clear_0 rfl ?_
  refine x_iconst (v := 0) dReader_clear_1 rfl ?_
  refine x_putI fl_Reader_15 rfl dReader_clear_2 (by decide) rfl rfl rfl rfl ?_
  -- at 5: .return_
  refine x_return dReader_clear_5 rfl ?_
  exact h1
def sp_Texts_add5 : SpT := fun as S I L Post => ∃ t : Nat, as = [.ref 30, .ref 23] ∧ S = S5 ∧ I 30 2 = nI t ∧ t < 6 ∧ Post (some (.int (nI t))) S5 (taU I t) L
set_option maxHeartbeats 4000000 in
set_option maxRecDepth 100000 in
theorem c_Texts_add5 : Con mTexts_add 2 0 0 sp_Texts_add5 := by
  refine con_of_X rfl fun G as S I L Post hs => ?_
  obtain ⟨t, rfl, rfl, ht, h6, h1⟩ := hs
  have nn : ∀ k, k < 1000 → ¬ nI k < (0 : Int32) := fun k hk => Int32.not_lt.mpr (nI_le (a := 0) (by omega) (by omega))
  have c160 : (nI (t * 160)).toNatClampNeg = t * 160 := nI_clamp (by omega)
  have c4 : (nI (t * 4)).toNatClampNeg = t * 4 := nI_clamp (by omega)
  refine ⟨1, Nat.le_of_ble_eq_true rfl, ?_⟩
  show X mTexts_add G _ S5 I L 0 [.ref 30, .ref 23, .null] [] Post
  refine x_aload_n dTexts_add_0 rfl ?_
  refine x_getI fl_Texts_18 rfl dTexts_add_1 rfl rfl ?_
  -- at 4: .istore_n 2
  rw [ht]
  refine x_istoren_2 dTexts_add_4 rfl rfl ?_
  refine x_aload_n dTexts_add_5 rfl ?_
  refine x_getR fl_Texts_31 rfl dTexts_add_6 rfl rfl rfl ?_
  refine x_iconst (v := 0) dTexts_add_9 rfl ?_
  refine x_aload_n dTexts_add_10 rfl ?_
  refine x_getR fl_Texts_9 rfl dTexts_add_11 rfl rfl rfl ?_
  refine x_iload_n dTexts_add_14 rfl ?_
  refine x_sipush (v := 160) dTexts_add_15 rfl ?_
  refine x_imul dTexts_add_18 ?_
  -- at 19: .sipush 160
  rw [show nI t * 160 = nI (t * 160) from pk_mul t 160]
  refine x_sipush (v := 160) dTexts_add_19 rfl ?_
  -- at 22: .invokestatic 34
  refine x_acopy dTexts_add_22 ml_Texts_34 na_ac st_ac it_System rfl rfl rfl rfl rfl rfl (by decide) (nn _ (by omega)) (by decide) (by decide) (by rw [c160]; show t * 160 + 160 ≤ 960; omega) ?_
  refine x_aload_n dTexts_add_25 rfl ?_
  refine x_getR fl_Texts_40 rfl dTexts_add_26 rfl rfl rfl ?_
  refine x_iconst (v := 0) dTexts_add_29 rfl ?_
  refine x_aload_n dTexts_add_30 rfl ?_
  refine x_getR fl_Texts_15 rfl dTexts_add_31 rfl rfl rfl ?_
  refine x_iload_n dTexts_add_34 rfl ?_
  refine x_iconst (v := 4) dTexts_add_35 rfl ?_
  refine x_imul dTexts_add_36 ?_
  -- at 37: .iconst 4
  rw [show nI t * 4 = nI (t * 4) from pk_mul t 4]
  refine x_iconst (v := 4) dTexts_add_37 rfl ?_
  -- at 38: .invokestatic 34
  refine x_acopy dTexts_add_38 ml_Texts_34 na_ac st_ac it_System rfl rfl rfl rfl rfl rfl (by decide) (nn _ (by omega)) (by decide) (by decide) (by rw [c4]; show t * 4 + 4 ≤ 24; omega) ?_
  simp only [up2_n, up2_s, ne_eq, Nat.reduceEqDiff, not_false_eq_true, upr_n, c160, c4]
  refine x_aload_n dTexts_add_41 rfl ?_
  refine x_iload_n dTexts_add_42 rfl ?_
  refine x_iconst (v := 1) dTexts_add_43 rfl ?_
  refine x_iadd dTexts_add_44 ?_
  refine x_putI fl_Texts_18 rfl dTexts_add_45 (by decide) rfl rfl rfl rfl ?_
  refine x_iload_n dTexts_add_48 rfl ?_
  -- at 49: .ireturn
  refine x_ireturn dTexts_add_49 rfl rfl ?_
  exact h1
