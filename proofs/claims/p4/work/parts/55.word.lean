/-! texts: words -/
def sp_Reader_nameAt : SpT := fun as S I L Post => ∃ a e : Nat, as = [.ref 23, .int (nI a), .int (nI e)] ∧ S = S1 ∧ a ≤ e ∧ e ≤ 160 ∧ Post (some (.int (if wordAt (I 24) a e = stB.getD 1 [] then 0 else if wordAt (I 24) a e = stB.getD 2 [] then 1 else if wordAt (I 24) a e = stB.getD 3 [] then 2 else if wordAt (I 24) a e = stB.getD 4 [] then 3 else if wordAt (I 24) a e = stB.getD 5 [] then 4 else if wordAt (I 24) a e = stB.getD 6 [] then 5 else -1))) S1 I L
set_option maxHeartbeats 4000000 in
set_option maxRecDepth 100000 in
theorem c_Reader_nameAt : Con mReader_nameAt 8 0 0 sp_Reader_nameAt := by
  refine con_of_X rfl fun G as S I L Post hs => ?_
  obtain ⟨a, e, rfl, rfl, hae, he, h1⟩ := hs
  refine ⟨0, Nat.le_of_ble_eq_true rfl, ?_⟩
  show X mReader_nameAt G _ S1 I L 0 [.ref 23, .int (nI a), .int (nI e)] [] Post
  refine x_aload_n dReader_nameAt_0 rfl ?_
  refine x_ldcS (i := 1) dReader_nameAt_1 rfl rfl rfl ?_
  refine x_iload_n dReader_nameAt_3 rfl ?_
  refine x_iload_n dReader_nameAt_4 rfl ?_
  -- at 5: .invokevirtual 90
  refine x_callV_3 c_Reader_spells ok_Reader_spells ml_Reader_90 dReader_nameAt_5 rfl rfl rfl rfl rfl ?_
  refine ⟨1, a, e, rfl, rfl, by decide, hae, he, fun w => ?_, fun w => ?_⟩
  · rw [if_pos w] at h1
    refine x_if_eq (tgt := 13) dReader_nameAt_8 (by decide) (fun h => absurd h (by decide)) (fun _ => ?_)
    refine x_iconst (v := 0) dReader_nameAt_11 rfl ?_
    -- at 12: .ireturn
    refine x_ireturn dReader_nameAt_12 rfl rfl ?_
    exact h1
  · rw [if_neg w] at h1
    refine x_if_eq (tgt := 13) dReader_nameAt_8 (by decide) (fun _ => ?_) (fun h => absurd (by decide) h)
    refine x_aload_n dReader_nameAt_13 rfl ?_
    refine x_ldcS (i := 2) dReader_nameAt_14 rfl rfl rfl ?_
    refine x_iload_n dReader_nameAt_16 rfl ?_
    refine x_iload_n dReader_nameAt_17 rfl ?_
    -- at 18: .invokevirtual 90
    refine x_callV_3 c_Reader_spells ok_Reader_spells ml_Reader_90 dReader_nameAt_18 rfl rfl rfl rfl rfl ?_
    refine ⟨2, a, e, rfl, rfl, by decide, hae, he, fun w => ?_, fun w => ?_⟩
    · rw [if_pos w] at h1
      refine x_if_eq (tgt := 26) dReader_nameAt_21 (by decide) (fun h => absurd h (by decide)) (fun _ => ?_)
      refine x_iconst (v := 1) dReader_nameAt_24 rfl ?_
      -- at 25: .ireturn
      refine x_ireturn dReader_nameAt_25 rfl rfl ?_
      exact h1
    · rw [if_neg w] at h1
      refine x_if_eq (tgt := 26) dReader_nameAt_21 (by decide) (fun _ => ?_) (fun h => absurd (by decide) h)
      refine x_aload_n dReader_nameAt_26 rfl ?_
      refine x_ldcS (i := 3) dReader_nameAt_27 rfl rfl rfl ?_
      refine x_iload_n dReader_nameAt_29 rfl ?_
      refine x_iload_n dReader_nameAt_30 rfl ?_
      -- at 31: .invokevirtual 90
      refine x_callV_3 c_Reader_spells ok_Reader_spells ml_Reader_90 dReader_nameAt_31 rfl rfl rfl rfl rfl ?_
      refine ⟨3, a, e, rfl, rfl, by decide, hae, he, fun w => ?_, fun w => ?_⟩
      · rw [if_pos w] at h1
        refine x_if_eq (tgt := 39) dReader_nameAt_34 (by decide) (fun h => absurd h (by decide)) (fun _ => ?_)
        refine x_iconst (v := 2) dReader_nameAt_37 rfl ?_
        -- at 38: .ireturn
        refine x_ireturn dReader_nameAt_38 rfl rfl ?_
        exact h1
      · rw [if_neg w] at h1
        refine x_if_eq (tgt := 39) dReader_nameAt_34 (by decide) (fun _ => ?_) (fun h => absurd (by decide) h)
        refine x_aload_n dReader_nameAt_39 rfl ?_
        refine x_ldcS (i := 4) dReader_nameAt_40 rfl rfl rfl ?_
        refine x_iload_n dReader_nameAt_42 rfl ?_
        refine x_iload_n dReader_nameAt_43 rfl ?_
        -- at 44: .invokevirtual 90
        refine x_callV_3 c_Reader_spells ok_Reader_spells ml_Reader_90 dReader_nameAt_44 rfl rfl rfl rfl rfl ?_
        refine ⟨4, a, e, rfl, rfl, by decide, hae, he, fun w => ?_, fun w => ?_⟩
        · rw [if_pos w] at h1
          refine x_if_eq (tgt := 52) dReader_nameAt_47 (by decide) (fun h => absurd h (by decide)) (fun _ => ?_)
          refine x_iconst (v := 3) dReader_nameAt_50 rfl ?_
          -- at 51: .ireturn
          refine x_ireturn dReader_nameAt_51 rfl rfl ?_
          exact h1
        · rw [if_neg w] at h1
          refine x_if_eq (tgt := 52) dReader_nameAt_47 (by decide) (fun _ => ?_) (fun h => absurd (by decide) h)
          refine x_aload_n dReader_nameAt_52 rfl ?_
          refine x_ldcS (i := 5) dReader_nameAt_53 rfl rfl rfl ?_
          refine x_iload_n dReader_nameAt_55 rfl ?_
          refine x_iload_n dReader_nameAt_56 rfl ?_
          -- at 57: .invokevirtual 90
          refine x_callV_3 c_Reader_spells ok_Reader_spells ml_Reader_90 dReader_nameAt_57 rfl rfl rfl rfl rfl ?_
          refine ⟨5, a, e, rfl, rfl, by decide, hae, he, fun w => ?_, fun w => ?_⟩
          · rw [if_pos w] at h1
            refine x_if_eq (tgt := 65) dReader_nameAt_60 (by decide) (fun h => absurd h (by decide)) (fun _ => ?_)
            refine x_iconst (v := 4) dReader_nameAt_63 rfl ?_
            -- at 64: .ireturn
            refine x_ireturn dReader_nameAt_64 rfl rfl ?_
            exact h1
          · rw [if_neg w] at h1
            refine x_if_eq (tgt := 65) dReader_nameAt_60 (by decide) (fun _ => ?_) (fun h => absurd (by decide) h)
            refine x_aload_n dReader_nameAt_65 rfl ?_
            refine x_ldcS (i := 6) dReader_nameAt_66 rfl rfl rfl ?_
            refine x_iload_n dReader_nameAt_68 rfl ?_
            refine x_iload_n dReader_nameAt_69 rfl ?_
            -- at 70: .invokevirtual 90
            refine x_callV_3 c_Reader_spells ok_Reader_spells ml_Reader_90 dReader_nameAt_70 rfl rfl rfl rfl rfl ?_
            refine ⟨6, a, e, rfl, rfl, by decide, hae, he, fun w => ?_, fun w => ?_⟩
            · rw [if_pos w] at h1
              refine x_if_eq (tgt := 78) dReader_nameAt_73 (by decide) (fun h => absurd h (by decide)) (fun _ => ?_)
              refine x_iconst (v := 5) dReader_nameAt_76 rfl ?_
              -- at 77: .ireturn
              refine x_ireturn dReader_nameAt_77 rfl rfl ?_
              exact h1
            · rw [if_neg w] at h1
              refine x_if_eq (tgt := 78) dReader_nameAt_73 (by decide) (fun _ => ?_) (fun h => absurd (by decide) h)
              refine x_iconst (v := -1) dReader_nameAt_78 rfl ?_
              -- at 79: .ireturn
              refine x_ireturn dReader_nameAt_79 rfl rfl ?_
              exact h1
def sp_Reader_keyAt : SpT := fun as S I L Post => ∃ a e : Nat, as = [.ref 23, .int (nI a), .int (nI e)] ∧ S = S1 ∧ a ≤ e ∧ e ≤ 160 ∧ Post (some (.int (if wordAt (I 24) a e = stB.getD 7 [] then 4 else if wordAt (I 24) a e = stB.getD 8 [] then 5 else if wordAt (I 24) a e = stB.getD 9 [] then 6 else if wordAt (I 24) a e = stB.getD 10 [] then 7 else if wordAt (I 24) a e = stB.getD 11 [] then 8 else if wordAt (I 24) a e = stB.getD 12 [] then 9 else 1))) S1 I L
set_option maxHeartbeats 4000000 in
set_option maxRecDepth 100000 in
theorem c_Reader_keyAt : Con mReader_keyAt 8 0 0 sp_Reader_keyAt := by
  refine con_of_X rfl fun G as S I L Post hs => ?_
  obtain ⟨a, e, rfl, rfl, hae, he, h1⟩ := hs
  refine ⟨0, Nat.le_of_ble_eq_true rfl, ?_⟩
  show X mReader_keyAt G _ S1 I L 0 [.ref 23, .int (nI a), .int (nI e)] [] Post
  refine x_aload_n dReader_keyAt_0 rfl ?_
  refine x_ldcS (i := 7) dReader_keyAt_1 rfl rfl rfl ?_
  refine x_iload_n dReader_keyAt_3 rfl ?_
  refine x_iload_n dReader_keyAt_4 rfl ?_
  -- at 5: .invokevirtual 90
  refine x_callV_3 c_Reader_spells ok_Reader_spells ml_Reader_90 dReader_keyAt_5 rfl rfl rfl rfl rfl ?_
  refine ⟨7, a, e, rfl, rfl, by decide, hae, he, fun w => ?_, fun w => ?_⟩
  · rw [if_pos w] at h1
    refine x_if_eq (tgt := 13) dReader_keyAt_8 (by decide) (fun h => absurd h (by decide)) (fun _ => ?_)
    refine x_iconst (v := 4) dReader_keyAt_11 rfl ?_
    -- at 12: .ireturn
    refine x_ireturn dReader_keyAt_12 rfl rfl ?_
    exact h1
  · rw [if_neg w] at h1
    refine x_if_eq (tgt := 13) dReader_keyAt_8 (by decide) (fun _ => ?_) (fun h => absurd (by decide) h)
    refine x_aload_n dReader_keyAt_13 rfl ?_
    refine x_ldcS (i := 8) dReader_keyAt_14 rfl rfl rfl ?_
    refine x_iload_n dReader_keyAt_16 rfl ?_
    refine x_iload_n dReader_keyAt_17 rfl ?_
    -- at 18: .invokevirtual 90
    refine x_callV_3 c_Reader_spells ok_Reader_spells ml_Reader_90 dReader_keyAt_18 rfl rfl rfl rfl rfl ?_
    refine ⟨8, a, e, rfl, rfl, by decide, hae, he, fun w => ?_, fun w => ?_⟩
    · rw [if_pos w] at h1
      refine x_if_eq (tgt := 26) dReader_keyAt_21 (by decide) (fun h => absurd h (by decide)) (fun _ => ?_)
      refine x_iconst (v := 5) dReader_keyAt_24 rfl ?_
      -- at 25: .ireturn
      refine x_ireturn dReader_keyAt_25 rfl rfl ?_
      exact h1
    · rw [if_neg w] at h1
      refine x_if_eq (tgt := 26) dReader_keyAt_21 (by decide) (fun _ => ?_) (fun h => absurd (by decide) h)
      refine x_aload_n dReader_keyAt_26 rfl ?_
      refine x_ldcS (i := 9) dReader_keyAt_27 rfl rfl rfl ?_
      refine x_iload_n dReader_keyAt_29 rfl ?_
      refine x_iload_n dReader_keyAt_30 rfl ?_
      -- at 31: .invokevirtual 90
      refine x_callV_3 c_Reader_spells ok_Reader_spells ml_Reader_90 dReader_keyAt_31 rfl rfl rfl rfl rfl ?_
      refine ⟨9, a, e, rfl, rfl, by decide, hae, he, fun w => ?_, fun w => ?_⟩
      · rw [if_pos w] at h1
        refine x_if_eq (tgt := 40) dReader_keyAt_34 (by decide) (fun h => absurd h (by decide)) (fun _ => ?_)
        refine x_bipush (v := 6) dReader_keyAt_37 rfl ?_
        -- at 39: .ireturn
        refine x_ireturn dReader_keyAt_39 rfl rfl ?_
        exact h1
      · rw [if_neg w] at h1
        refine x_if_eq (tgt := 40) dReader_keyAt_34 (by decide) (fun _ => ?_) (fun h => absurd (by decide) h)
        refine x_aload_n dReader_keyAt_40 rfl ?_
        refine x_ldcS (i := 10) dReader_keyAt_41 rfl rfl rfl ?_
        refine x_iload_n dReader_keyAt_43 rfl ?_
        refine x_iload_n dReader_keyAt_44 rfl ?_
        -- at 45: .invokevirtual 90
        refine x_callV_3 c_Reader_spells ok_Reader_spells ml_Reader_90 dReader_keyAt_45 rfl rfl rfl rfl rfl ?_
        refine ⟨10, a, e, rfl, rfl, by decide, hae, he, fun w => ?_, fun w => ?_⟩
        · rw [if_pos w] at h1
          refine x_if_eq (tgt := 54) dReader_keyAt_48 (by decide) (fun h => absurd h (by decide)) (fun _ => ?_)
          refine x_bipush (v := 7) dReader_keyAt_51 rfl ?_
          -- at 53: .ireturn
          refine x_ireturn dReader_keyAt_53 rfl rfl ?_
          exact h1
        · rw [if_neg w] at h1
          refine x_if_eq (tgt := 54) dReader_keyAt_48 (by decide) (fun _ => ?_) (fun h => absurd (by decide) h)
          refine x_aload_n dReader_keyAt_54 rfl ?_
          refine x_ldcS (i := 11) dReader_keyAt_55 rfl rfl rfl ?_
          refine x_iload_n dReader_keyAt_57 rfl ?_
          refine x_iload_n dReader_keyAt_58 rfl ?_
          -- at 59: .invokevirtual 90
          refine x_callV_3 c_Reader_spells ok_Reader_spells ml_Reader_90 dReader_keyAt_59 rfl rfl rfl rfl rfl ?_
          refine ⟨11, a, e, rfl, rfl, by decide, hae, he, fun w => ?_, fun w => ?_⟩
          · rw [if_pos w] at h1
            refine x_if_eq (tgt := 68) dReader_keyAt_62 (by decide) (fun h => absurd h (by decide)) (fun _ => ?_)
            refine x_bipush (v := 8) dReader_keyAt_65 rfl ?_
            -- at 67: .ireturn
            refine x_ireturn dReader_keyAt_67 rfl rfl ?_
            exact h1
          · rw [if_neg w] at h1
            refine x_if_eq (tgt := 68) dReader_keyAt_62 (by decide) (fun _ => ?_) (fun h => absurd (by decide) h)
            refine x_aload_n dReader_keyAt_68 rfl ?_
            refine x_ldcS (i := 12) dReader_keyAt_69 rfl rfl rfl ?_
            refine x_iload_n dReader_keyAt_71 rfl ?_
            refine x_iload_n dReader_keyAt_72 rfl ?_
            -- at 73: .invokevirtual 90
            refine x_callV_3 c_Reader_spells ok_Reader_spells ml_Reader_90 dReader_keyAt_73 rfl rfl rfl rfl rfl ?_
            refine ⟨12, a, e, rfl, rfl, by decide, hae, he, fun w => ?_, fun w => ?_⟩
            · rw [if_pos w] at h1
              refine x_if_eq (tgt := 82) dReader_keyAt_76 (by decide) (fun h => absurd h (by decide)) (fun _ => ?_)
              refine x_bipush (v := 9) dReader_keyAt_79 rfl ?_
              -- at 81: .ireturn
              refine x_ireturn dReader_keyAt_81 rfl rfl ?_
              exact h1
            · rw [if_neg w] at h1
              refine x_if_eq (tgt := 82) dReader_keyAt_76 (by decide) (fun _ => ?_) (fun h => absurd (by decide) h)
              refine x_iconst (v := 1) dReader_keyAt_82 rfl ?_
              -- at 83: .ireturn
              refine x_ireturn dReader_keyAt_83 rfl rfl ?_
              exact h1
def sp_Reader_putWord : SpT := fun as S I L Post => ∃ a e n : Nat, as = [.ref 23, .int (nI a), .int (nI e)] ∧ S = S1 ∧ I 23 5 = nI n ∧ n ≤ 160 ∧ a ≤ e ∧ e ≤ 160 ∧ Post none S1 (ptk I n (kindW (wordAt (I 24) a e)).1 (nI a) (kindW (wordAt (I 24) a e)).2) L
theorem kindW_name (w : List Int32) : (if w = stB.getD 1 [] then (0 : Int32) else if w = stB.getD 2 [] then 1 else if w = stB.getD 3 [] then 2 else if w = stB.getD 4 [] then 3 else if w = stB.getD 5 [] then 4 else if w = stB.getD 6 [] then 5 else -1) = if (kindW w).1 = 3 then (kindW w).2 else -1 := by
  show (if w = [108, 111, 117, 100] then (0 : Int32) else if w = [102, 97, 114] then 1 else if w = [101, 97, 114] then 2 else if w = [110, 101, 101, 100] then 3 else if w = [109, 97, 110, 121] then 4 else if w = [98, 97, 115, 101] then 5 else -1) = _
  by_cases h0 : w = [108, 111, 117, 100]
  · subst h0; decide
  by_cases h1 : w = [102, 97, 114]
  · subst h1; decide
  by_cases h2 : w = [101, 97, 114]
  · subst h2; decide
  by_cases h3 : w = [110, 101, 101, 100]
  · subst h3; decide
  by_cases h4 : w = [109, 97, 110, 121]
  · subst h4; decide
  by_cases h5 : w = [98, 97, 115, 101]
  · subst h5; decide
  by_cases h6 : w = [104, 101, 97, 114, 100]
  · subst h6; decide
  by_cases h7 : w = [115, 104, 97, 114, 101]
  · subst h7; decide
  by_cases h8 : w = [112, 97, 105, 110]
  · subst h8; decide
  by_cases h9 : w = [111, 114]
  · subst h9; decide
  by_cases h10 : w = [97, 110, 100]
  · subst h10; decide
  by_cases h11 : w = [110, 111, 116]
  · subst h11; decide
  simp only [kindW, h0, h1, h2, h3, h4, h5, h6, h7, h8, h9, h10, h11, if_false]
  decide
theorem kindW_key (w : List Int32) (h : ¬ (kindW w).1 = 3) : (if w = stB.getD 7 [] then (4 : Int32) else if w = stB.getD 8 [] then 5 else if w = stB.getD 9 [] then 6 else if w = stB.getD 10 [] then 7 else if w = stB.getD 11 [] then 8 else if w = stB.getD 12 [] then 9 else 1) = (kindW w).1 ∧ (kindW w).2 = 0 := by
  show (if w = [104, 101, 97, 114, 100] then (4 : Int32) else if w = [115, 104, 97, 114, 101] then 5 else if w = [112, 97, 105, 110] then 6 else if w = [111, 114] then 7 else if w = [97, 110, 100] then 8 else if w = [110, 111, 116] then 9 else 1) = _ ∧ _
  by_cases h0 : w = [108, 111, 117, 100]
  · subst h0; exact absurd (by decide) h
  by_cases h1 : w = [102, 97, 114]
  · subst h1; exact absurd (by decide) h
  by_cases h2 : w = [101, 97, 114]
  · subst h2; exact absurd (by decide) h
  by_cases h3 : w = [110, 101, 101, 100]
  · subst h3; exact absurd (by decide) h
  by_cases h4 : w = [109, 97, 110, 121]
  · subst h4; exact absurd (by decide) h
  by_cases h5 : w = [98, 97, 115, 101]
  · subst h5; exact absurd (by decide) h
  by_cases h6 : w = [104, 101, 97, 114, 100]
  · subst h6; decide
  by_cases h7 : w = [115, 104, 97, 114, 101]
  · subst h7; decide
  by_cases h8 : w = [112, 97, 105, 110]
  · subst h8; decide
  by_cases h9 : w = [111, 114]
  · subst h9; decide
  by_cases h10 : w = [97, 110, 100]
  · subst h10; decide
  by_cases h11 : w = [110, 111, 116]
  · subst h11; decide
  simp [kindW, h0, h1, h2, h3, h4, h5, h6, h7, h8, h9, h10, h11]
theorem name_nn {w : List Int32} (h : (kindW w).1 = 3) : ¬ (kindW w).2 = -1 := by
  obtain ⟨v, hv, e⟩ := (kindW_ok w).2.2 h
  rw [e]
  intro z
  have : ∀ v, v < 6 → ¬ nI v = -1 := by decide
  exact this v hv z
set_option maxHeartbeats 4000000 in
set_option maxRecDepth 100000 in
theorem c_Reader_putWord : Con mReader_putWord 9 0 0 sp_Reader_putWord := by
  refine con_of_X rfl fun G as S I L Post hs => ?_
  obtain ⟨a, e, n, rfl, rfl, hn, h160, hae, he, h1⟩ := hs
  refine ⟨1, Nat.le_of_ble_eq_true rfl, ?_⟩
  show X mReader_putWord G _ S1 I L 0 [.ref 23, .int (nI a), .int (nI e), .null] [] Post
  refine x_aload_n dReader_putWord_0 rfl ?_
  refine x_iload_n dReader_putWord_1 rfl ?_
  refine x_iload_n dReader_putWord_2 rfl ?_
  -- at 3: .invokevirtual 81
  refine x_callV_2 c_Reader_nameAt ok_Reader_nameAt ml_Reader_81 dReader_putWord_3 rfl rfl rfl rfl rfl ?_
  refine ⟨a, e, rfl, rfl, hae, he, ?_⟩
  rw [kindW_name]
  by_cases h3 : (kindW (wordAt (I 24) a e)).1 = 3
  · rw [if_pos h3]
    refine x_istoren_3 dReader_putWord_6 rfl rfl ?_
    refine x_iload_n dReader_putWord_7 rfl ?_
    refine x_iconst (v := -1) dReader_putWord_8 rfl ?_
    -- at 9: .if_icmp .eq 13
    refine x_icmp_eq (tgt := 22) dReader_putWord_9 (by decide) (fun h => absurd h (name_nn h3)) (fun _ => ?_)
    refine x_aload_n dReader_putWord_12 rfl ?_
    refine x_iconst (v := 3) dReader_putWord_13 rfl ?_
    refine x_iload_n dReader_putWord_14 rfl ?_
    refine x_iload_n dReader_putWord_15 rfl ?_
    -- at 16: .invokevirtual 77
    refine x_callV_3 c_Reader_putToken ok_Reader_putToken ml_Reader_77 dReader_putWord_16 rfl rfl rfl rfl rfl ?_
    refine ⟨n, _, _, _, rfl, rfl, hn, h160, ?_⟩
    refine x_goto (tgt := 34) dReader_putWord_19 (by decide) ?_
    -- at 34: .return_
    refine x_return dReader_putWord_34 rfl ?_
    rw [← h3]
    exact h1
  · rw [if_neg h3]
    obtain ⟨k1, k2⟩ := kindW_key _ h3
    refine x_istoren_3 dReader_putWord_6 rfl rfl ?_
    refine x_iload_n dReader_putWord_7 rfl ?_
    refine x_iconst (v := -1) dReader_putWord_8 rfl ?_
    -- at 9: .if_icmp .eq 13
    refine x_icmp_eq (tgt := 22) dReader_putWord_9 (by decide) (fun _ => ?_) (fun h => absurd rfl h)
    refine x_aload_n dReader_putWord_22 rfl ?_
    refine x_aload_n dReader_putWord_23 rfl ?_
    refine x_iload_n dReader_putWord_24 rfl ?_
    refine x_iload_n dReader_putWord_25 rfl ?_
    -- at 26: .invokevirtual 85
    refine x_callV_2 c_Reader_keyAt ok_Reader_keyAt ml_Reader_85 dReader_putWord_26 rfl rfl rfl rfl rfl ?_
    refine ⟨a, e, rfl, rfl, hae, he, ?_⟩
    rw [k1]
    refine x_iload_n dReader_putWord_29 rfl ?_
    refine x_iconst (v := 0) dReader_putWord_30 rfl ?_
    -- at 31: .invokevirtual 77
    refine x_callV_3 c_Reader_putToken ok_Reader_putToken ml_Reader_77 dReader_putWord_31 rfl rfl rfl rfl rfl ?_
    refine ⟨n, _, _, _, rfl, rfl, hn, h160, ?_⟩
    -- at 34: .return_
    refine x_return dReader_putWord_34 rfl ?_
    rw [k2] at h1
    exact h1
