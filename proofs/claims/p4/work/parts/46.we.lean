/-! the class's calls: image, back -/
theorem cpy_full {f g : Nat → Int32} {n : Nat} (h : ∀ j, n ≤ j → f j = 0 ∧ g j = 0) : va_cpy f g 0 0 n = f := by
  funext j
  by_cases hj : j < n
  · exact sb_cpy0 hj
  · rw [pk_cpy_out (Or.inr (by omega)), (h j (by omega)).1, (h j (by omega)).2]
theorem mk_cpy {f g : Nat → Int32} {n m : Nat} (h : m ≤ n) : mk m (va_cpy f g 0 0 n) = mk m f := by
  funext j
  unfold mk
  by_cases hj : j < m
  · rw [if_pos hj, if_pos hj, sb_cpy0 (by omega)]
  · rw [if_neg hj, if_neg hj]
def tbU (I : IM) (d0 d1 d2 s0 s1 s2 : Nat) : IM := up2 (upr (upr I d1 (va_cpy (I s1) (I d1) 0 0 36)) d2 (va_cpy (I s2) (I d2) 0 0 6)) d0 2 (I s0 2)
def sbU (I : IM) (d0 d1 d2 d3 d4 s0 s1 s2 s3 s4 : Nat) : IM := up2 (upr (upr (upr (upr I d1 (va_cpy (I s1) (I d1) 0 0 11)) d2 (va_cpy (I s2) (I d2) 0 0 11)) d3 (va_cpy (I s3) (I d3) 0 0 11)) d4 (va_cpy (I s4) (I d4) 0 0 11)) d0 4 (I s0 4)
def sp_Town_become : SpT := fun as S I L Post => S = S1 ∧ ((as = [.ref 46, .ref 1] ∧ Post none S1 (tbU I 46 47 48 1 2 3) L) ∨ (as = [.ref 1, .ref 46] ∧ Post none S1 (tbU I 1 2 3 46 47 48) L))
set_option maxHeartbeats 4000000 in
set_option maxRecDepth 100000 in
theorem c_Town_become : Con mTown_become 2 0 0 sp_Town_become := by
  refine con_of_X rfl fun G as S I L Post hs => ?_
  obtain ⟨rfl, ⟨rfl, h1⟩ | ⟨rfl, h1⟩⟩ := hs
  · refine ⟨0, Nat.le_of_ble_eq_true rfl, ?_⟩
    show X mTown_become G _ S1 I L 0 [.ref 46, .ref 1] [] Post
    refine x_aload_n dTown_become_0 rfl ?_
    refine x_getR fl_Town_9 rfl dTown_become_1 rfl rfl rfl ?_
    refine x_iconst (v := 0) dTown_become_4 rfl ?_
    refine x_aload_n dTown_become_5 rfl ?_
    refine x_getR fl_Town_9 rfl dTown_become_6 rfl rfl rfl ?_
    refine x_iconst (v := 0) dTown_become_9 rfl ?_
    refine x_bipush (v := 36) dTown_become_10 rfl ?_
    -- at 12: .invokestatic 28
    refine x_acopy dTown_become_12 ml_Town_28 na_ac st_ac it_System rfl rfl rfl rfl rfl rfl (by decide) (by decide) (by decide) (by decide) (by decide) ?_
    refine x_aload_n dTown_become_15 rfl ?_
    refine x_getR fl_Town_15 rfl dTown_become_16 rfl rfl rfl ?_
    refine x_iconst (v := 0) dTown_become_19 rfl ?_
    refine x_aload_n dTown_become_20 rfl ?_
    refine x_getR fl_Town_15 rfl dTown_become_21 rfl rfl rfl ?_
    refine x_iconst (v := 0) dTown_become_24 rfl ?_
    refine x_bipush (v := 6) dTown_become_25 rfl ?_
    -- at 27: .invokestatic 28
    refine x_acopy dTown_become_27 ml_Town_28 na_ac st_ac it_System rfl rfl rfl rfl rfl rfl (by decide) (by decide) (by decide) (by decide) (by decide) ?_
    simp only [up2_n, up2_s, ne_eq, Nat.reduceEqDiff, not_false_eq_true, upr_n]
    refine x_aload_n dTown_become_30 rfl ?_
    refine x_aload_n dTown_become_31 rfl ?_
    refine x_getI fl_Town_18 rfl dTown_become_32 rfl rfl ?_
    refine x_putI fl_Town_18 rfl dTown_become_35 (by decide) rfl rfl rfl rfl ?_
    -- at 38: .return_
    simp only [up2_n, up2_s, ne_eq, Nat.reduceEqDiff, not_false_eq_true, upr_n]
    refine x_return dTown_become_38 rfl ?_
    exact h1
  · refine ⟨0, Nat.le_of_ble_eq_true rfl, ?_⟩
    show X mTown_become G _ S1 I L 0 [.ref 1, .ref 46] [] Post
    refine x_aload_n dTown_become_0 rfl ?_
    refine x_getR fl_Town_9 rfl dTown_become_1 rfl rfl rfl ?_
    refine x_iconst (v := 0) dTown_become_4 rfl ?_
    refine x_aload_n dTown_become_5 rfl ?_
    refine x_getR fl_Town_9 rfl dTown_become_6 rfl rfl rfl ?_
    refine x_iconst (v := 0) dTown_become_9 rfl ?_
    refine x_bipush (v := 36) dTown_become_10 rfl ?_
    -- at 12: .invokestatic 28
    refine x_acopy dTown_become_12 ml_Town_28 na_ac st_ac it_System rfl rfl rfl rfl rfl rfl (by decide) (by decide) (by decide) (by decide) (by decide) ?_
    refine x_aload_n dTown_become_15 rfl ?_
    refine x_getR fl_Town_15 rfl dTown_become_16 rfl rfl rfl ?_
    refine x_iconst (v := 0) dTown_become_19 rfl ?_
    refine x_aload_n dTown_become_20 rfl ?_
    refine x_getR fl_Town_15 rfl dTown_become_21 rfl rfl rfl ?_
    refine x_iconst (v := 0) dTown_become_24 rfl ?_
    refine x_bipush (v := 6) dTown_become_25 rfl ?_
    -- at 27: .invokestatic 28
    refine x_acopy dTown_become_27 ml_Town_28 na_ac st_ac it_System rfl rfl rfl rfl rfl rfl (by decide) (by decide) (by decide) (by decide) (by decide) ?_
    simp only [up2_n, up2_s, ne_eq, Nat.reduceEqDiff, not_false_eq_true, upr_n]
    refine x_aload_n dTown_become_30 rfl ?_
    refine x_aload_n dTown_become_31 rfl ?_
    refine x_getI fl_Town_18 rfl dTown_become_32 rfl rfl ?_
    refine x_putI fl_Town_18 rfl dTown_become_35 (by decide) rfl rfl rfl rfl ?_
    -- at 38: .return_
    simp only [up2_n, up2_s, ne_eq, Nat.reduceEqDiff, not_false_eq_true, upr_n]
    refine x_return dTown_become_38 rfl ?_
    exact h1
def sp_Sayings_become : SpT := fun as S I L Post => S = S1 ∧ ((as = [.ref 49, .ref 18] ∧ Post none S1 (sbU I 49 50 51 52 53 18 19 20 21 22) L) ∨ (as = [.ref 18, .ref 49] ∧ Post none S1 (sbU I 18 19 20 21 22 49 50 51 52 53) L))
set_option maxHeartbeats 4000000 in
set_option maxRecDepth 100000 in
theorem c_Sayings_become : Con mSayings_become 2 0 0 sp_Sayings_become := by
  refine con_of_X rfl fun G as S I L Post hs => ?_
  obtain ⟨rfl, ⟨rfl, h1⟩ | ⟨rfl, h1⟩⟩ := hs
  · refine ⟨0, Nat.le_of_ble_eq_true rfl, ?_⟩
    show X mSayings_become G _ S1 I L 0 [.ref 49, .ref 18] [] Post
    refine x_aload_n dSayings_become_0 rfl ?_
    refine x_getR fl_Sayings_9 rfl dSayings_become_1 rfl rfl rfl ?_
    refine x_iconst (v := 0) dSayings_become_4 rfl ?_
    refine x_aload_n dSayings_become_5 rfl ?_
    refine x_getR fl_Sayings_9 rfl dSayings_become_6 rfl rfl rfl ?_
    refine x_iconst (v := 0) dSayings_become_9 rfl ?_
    refine x_bipush (v := 11) dSayings_become_10 rfl ?_
    -- at 12: .invokestatic 32
    refine x_acopy dSayings_become_12 ml_Sayings_32 na_ac st_ac it_System rfl rfl rfl rfl rfl rfl (by decide) (by decide) (by decide) (by decide) (by decide) ?_
    refine x_aload_n dSayings_become_15 rfl ?_
    refine x_getR fl_Sayings_15 rfl dSayings_become_16 rfl rfl rfl ?_
    refine x_iconst (v := 0) dSayings_become_19 rfl ?_
    refine x_aload_n dSayings_become_20 rfl ?_
    refine x_getR fl_Sayings_15 rfl dSayings_become_21 rfl rfl rfl ?_
    refine x_iconst (v := 0) dSayings_become_24 rfl ?_
    refine x_bipush (v := 11) dSayings_become_25 rfl ?_
    -- at 27: .invokestatic 32
    refine x_acopy dSayings_become_27 ml_Sayings_32 na_ac st_ac it_System rfl rfl rfl rfl rfl rfl (by decide) (by decide) (by decide) (by decide) (by decide) ?_
    simp only [up2_n, up2_s, ne_eq, Nat.reduceEqDiff, not_false_eq_true, upr_n]
    refine x_aload_n dSayings_become_30 rfl ?_
    refine x_getR fl_Sayings_18 rfl dSayings_become_31 rfl rfl rfl ?_
    refine x_iconst (v := 0) dSayings_become_34 rfl ?_
    refine x_aload_n dSayings_become_35 rfl ?_
    refine x_getR fl_Sayings_18 rfl dSayings_become_36 rfl rfl rfl ?_
    refine x_iconst (v := 0) dSayings_become_39 rfl ?_
    refine x_bipush (v := 11) dSayings_become_40 rfl ?_
    -- at 42: .invokestatic 32
    refine x_acopy dSayings_become_42 ml_Sayings_32 na_ac st_ac it_System rfl rfl rfl rfl rfl rfl (by decide) (by decide) (by decide) (by decide) (by decide) ?_
    simp only [up2_n, up2_s, ne_eq, Nat.reduceEqDiff, not_false_eq_true, upr_n]
    refine x_aload_n dSayings_become_45 rfl ?_
    refine x_getR fl_Sayings_21 rfl dSayings_become_46 rfl rfl rfl ?_
    refine x_iconst (v := 0) dSayings_become_49 rfl ?_
    refine x_aload_n dSayings_become_50 rfl ?_
    refine x_getR fl_Sayings_21 rfl dSayings_become_51 rfl rfl rfl ?_
    refine x_iconst (v := 0) dSayings_become_54 rfl ?_
    refine x_bipush (v := 11) dSayings_become_55 rfl ?_
    -- at 57: .invokestatic 32
    refine x_acopy dSayings_become_57 ml_Sayings_32 na_ac st_ac it_System rfl rfl rfl rfl rfl rfl (by decide) (by decide) (by decide) (by decide) (by decide) ?_
    simp only [up2_n, up2_s, ne_eq, Nat.reduceEqDiff, not_false_eq_true, upr_n]
    refine x_aload_n dSayings_become_60 rfl ?_
    refine x_aload_n dSayings_become_61 rfl ?_
    refine x_getI fl_Sayings_24 rfl dSayings_become_62 rfl rfl ?_
    refine x_putI fl_Sayings_24 rfl dSayings_become_65 (by decide) rfl rfl rfl rfl ?_
    -- at 68: .return_
    simp only [up2_n, up2_s, ne_eq, Nat.reduceEqDiff, not_false_eq_true, upr_n]
    refine x_return dSayings_become_68 rfl ?_
    exact h1
  · refine ⟨0, Nat.le_of_ble_eq_true rfl, ?_⟩
    show X mSayings_become G _ S1 I L 0 [.ref 18, .ref 49] [] Post
    refine x_aload_n dSayings_become_0 rfl ?_
    refine x_getR fl_Sayings_9 rfl dSayings_become_1 rfl rfl rfl ?_
    refine x_iconst (v := 0) dSayings_become_4 rfl ?_
    refine x_aload_n dSayings_become_5 rfl ?_
    refine x_getR fl_Sayings_9 rfl dSayings_become_6 rfl rfl rfl ?_
    refine x_iconst (v := 0) dSayings_become_9 rfl ?_
    refine x_bipush (v := 11) dSayings_become_10 rfl ?_
    -- at 12: .invokestatic 32
    refine x_acopy dSayings_become_12 ml_Sayings_32 na_ac st_ac it_System rfl rfl rfl rfl rfl rfl (by decide) (by decide) (by decide) (by decide) (by decide) ?_
    refine x_aload_n dSayings_become_15 rfl ?_
    refine x_getR fl_Sayings_15 rfl dSayings_become_16 rfl rfl rfl ?_
    refine x_iconst (v := 0) dSayings_become_19 rfl ?_
    refine x_aload_n dSayings_become_20 rfl ?_
    refine x_getR fl_Sayings_15 rfl dSayings_become_21 rfl rfl rfl ?_
    refine x_iconst (v := 0) dSayings_become_24 rfl ?_
    refine x_bipush (v := 11) dSayings_become_25 rfl ?_
    -- at 27: .invokestatic 32
    refine x_acopy dSayings_become_27 ml_Sayings_32 na_ac st_ac it_System rfl rfl rfl rfl rfl rfl (by decide) (by decide) (by decide) (by decide) (by decide) ?_
    simp only [up2_n, up2_s, ne_eq, Nat.reduceEqDiff, not_false_eq_true, upr_n]
    refine x_aload_n dSayings_become_30 rfl ?_
    refine x_getR fl_Sayings_18 rfl dSayings_become_31 rfl rfl rfl ?_
    refine x_iconst (v := 0) dSayings_become_34 rfl ?_
    refine x_aload_n dSayings_become_35 rfl ?_
    refine x_getR fl_Sayings_18 rfl dSayings_become_36 rfl rfl rfl ?_
    refine x_iconst (v := 0) dSayings_become_39 rfl ?_
    refine x_bipush (v := 11) dSayings_become_40 rfl ?_
    -- at 42: .invokestatic 32
    refine x_acopy dSayings_become_42 ml_Sayings_32 na_ac st_ac it_System rfl rfl rfl rfl rfl rfl (by decide) (by decide) (by decide) (by decide) (by decide) ?_
    simp only [up2_n, up2_s, ne_eq, Nat.reduceEqDiff, not_false_eq_true, upr_n]
    refine x_aload_n dSayings_become_45 rfl ?_
    refine x_getR fl_Sayings_21 rfl dSayings_become_46 rfl rfl rfl ?_
    refine x_iconst (v := 0) dSayings_become_49 rfl ?_
    refine x_aload_n dSayings_become_50 rfl ?_
    refine x_getR fl_Sayings_21 rfl dSayings_become_51 rfl rfl rfl ?_
    refine x_iconst (v := 0) dSayings_become_54 rfl ?_
    refine x_bipush (v := 11) dSayings_become_55 rfl ?_
    -- at 57: .invokestatic 32
    refine x_acopy dSayings_become_57 ml_Sayings_32 na_ac st_ac it_System rfl rfl rfl rfl rfl rfl (by decide) (by decide) (by decide) (by decide) (by decide) ?_
    simp only [up2_n, up2_s, ne_eq, Nat.reduceEqDiff, not_false_eq_true, upr_n]
    refine x_aload_n dSayings_become_60 rfl ?_
    refine x_aload_n dSayings_become_61 rfl ?_
    refine x_getI fl_Sayings_24 rfl dSayings_become_62 rfl rfl ?_
    refine x_putI fl_Sayings_24 rfl dSayings_become_65 (by decide) rfl rfl rfl rfl ?_
    -- at 68: .return_
    simp only [up2_n, up2_s, ne_eq, Nat.reduceEqDiff, not_false_eq_true, upr_n]
    refine x_return dSayings_become_68 rfl ?_
    exact h1
def keepU (I : IM) (n : Nat) : IM := up2 (up2 (upr (up2 (sbU (tbU I 46 47 48 1 2 3) 49 50 51 52 53 18 19 20 21 22) 45 3 (nI n)) 54 (va_cpy (I 12) (I 54) 0 0 n)) 45 4 (I 30 3)) 45 5 1
def sp_Image_keep : SpT := fun as S I L Post => ∃ n : Nat, as = [.ref 45, .ref 1, .ref 4, .ref 18, .ref 30] ∧ S = S1 ∧ I 4 8 = nI n ∧ n ≤ 8 ∧ Post none S1 (keepU I n) L
set_option maxHeartbeats 4000000 in
set_option maxRecDepth 100000 in
theorem c_Image_keep : Con mImage_keep 3 0 0 sp_Image_keep := by
  refine con_of_X rfl fun G as S I L Post hs => ?_
  obtain ⟨n, rfl, rfl, hn, h8, h1⟩ := hs
  have ec : (nI n).toNatClampNeg = n := nI_clamp (by omega)
  have e0 : ¬ nI n < (0 : Int32) := Int32.not_lt.mpr (nI_le (a := 0) (by omega) (by omega))
  refine ⟨0, Nat.le_of_ble_eq_true rfl, ?_⟩
  show X mImage_keep G _ S1 I L 0 [.ref 45, .ref 1, .ref 4, .ref 18, .ref 30] [] Post
  refine x_aload_n dImage_keep_0 rfl ?_
  refine x_getR fl_Image_12 rfl dImage_keep_1 rfl rfl rfl ?_
  refine x_aload_n dImage_keep_4 rfl ?_
  -- at 5: .invokevirtual 40
  refine x_callV_1 c_Town_become ok_Town_become ml_Image_40 dImage_keep_5 rfl rfl rfl rfl rfl ?_
  refine ⟨rfl, Or.inl ⟨rfl, ?_⟩⟩
  refine x_aload_n dImage_keep_8 rfl ?_
  refine x_getR fl_Image_21 rfl dImage_keep_9 rfl rfl rfl ?_
  refine x_aload_n dImage_keep_12 rfl ?_
  -- at 13: .invokevirtual 44
  refine x_callV_1 c_Sayings_become ok_Sayings_become ml_Image_44 dImage_keep_13 rfl rfl rfl rfl rfl ?_
  refine ⟨rfl, Or.inl ⟨rfl, ?_⟩⟩
  refine x_aload_n dImage_keep_16 rfl ?_
  refine x_aload_n dImage_keep_17 rfl ?_
  refine x_getI fl_Image_47 rfl dImage_keep_18 rfl rfl ?_
  -- at 21: .putfield 29
  have em : sbU (tbU I 46 47 48 1 2 3) 49 50 51 52 53 18 19 20 21 22 4 8 = nI n := by
    unfold sbU tbU
    simp only [up2_n, up2_s, ne_eq, Nat.reduceEqDiff, not_false_eq_true, upr_n]
    exact hn
  rw [em]
  refine x_putI fl_Image_29 rfl dImage_keep_21 (by decide) rfl rfl rfl rfl ?_
  refine x_aload_n dImage_keep_24 rfl ?_
  refine x_getR fl_Image_52 rfl dImage_keep_25 rfl rfl rfl ?_
  refine x_iconst (v := 0) dImage_keep_28 rfl ?_
  refine x_aload_n dImage_keep_29 rfl ?_
  refine x_getR fl_Image_25 rfl dImage_keep_30 rfl rfl rfl ?_
  refine x_iconst (v := 0) dImage_keep_33 rfl ?_
  refine x_aload_n dImage_keep_34 rfl ?_
  refine x_getI fl_Image_29 rfl dImage_keep_35 rfl rfl ?_
  -- at 38: .invokestatic 53
  simp only [up2_n, up2_s, ne_eq, Nat.reduceEqDiff, not_false_eq_true, up1, if_true]
  refine x_acopy dImage_keep_38 ml_Image_53 na_ac st_ac it_System rfl rfl rfl rfl rfl rfl (by decide) (by decide) e0 (by rw [ec]; show 0 + n ≤ 8; omega) (by rw [ec]; show 0 + n ≤ 8; omega) ?_
  refine x_aload_n dImage_keep_41 rfl ?_
  refine x_aload dImage_keep_42 rfl ?_
  refine x_getI fl_Image_59 rfl dImage_keep_44 rfl rfl ?_
  refine x_putI fl_Image_33 rfl dImage_keep_47 (by decide) rfl rfl rfl rfl ?_
  refine x_aload_n dImage_keep_50 rfl ?_
  refine x_iconst (v := 1) dImage_keep_51 rfl ?_
  refine x_putI fl_Image_36 rfl dImage_keep_52 (by decide) rfl rfl rfl rfl ?_
  -- at 55: .return_
  have e12 : sbU (tbU I 46 47 48 1 2 3) 49 50 51 52 53 18 19 20 21 22 12 = I 12 := by
    unfold sbU tbU
    simp only [up2_n, up2_s, ne_eq, Nat.reduceEqDiff, not_false_eq_true, upr_n]
  have e54 : sbU (tbU I 46 47 48 1 2 3) 49 50 51 52 53 18 19 20 21 22 54 = I 54 := by
    unfold sbU tbU
    simp only [up2_n, up2_s, ne_eq, Nat.reduceEqDiff, not_false_eq_true, upr_n]
  have e30 : sbU (tbU I 46 47 48 1 2 3) 49 50 51 52 53 18 19 20 21 22 30 = I 30 := by
    unfold sbU tbU
    simp only [up2_n, up2_s, ne_eq, Nat.reduceEqDiff, not_false_eq_true, upr_n]
  simp only [up2_n, up2_s, ne_eq, Nat.reduceEqDiff, not_false_eq_true, upr_n, e12, e54, e30, ec]
  refine x_return dImage_keep_55 rfl ?_
  exact h1
def gbU (I : IM) (n : Nat) : IM := up2 (upr (sbU (tbU I 1 2 3 46 47 48) 18 19 20 21 22 49 50 51 52 53) 12 (va_cpy (I 54) (I 12) 0 0 n)) 30 3 (I 45 4)
def sp_Image_giveBack : SpT := fun as S I L Post => ∃ n : Nat, as = [.ref 45, .ref 1, .ref 4, .ref 18, .ref 30] ∧ S = S1 ∧ I 45 3 = nI n ∧ n ≤ 8 ∧ Post none S1 (gbU I n) L
set_option maxHeartbeats 4000000 in
set_option maxRecDepth 100000 in
theorem c_Image_giveBack : Con mImage_giveBack 3 0 0 sp_Image_giveBack := by
  refine con_of_X rfl fun G as S I L Post hs => ?_
  obtain ⟨n, rfl, rfl, hn, h8, h1⟩ := hs
  have ec : (nI n).toNatClampNeg = n := nI_clamp (by omega)
  have e0 : ¬ nI n < (0 : Int32) := Int32.not_lt.mpr (nI_le (a := 0) (by omega) (by omega))
  refine ⟨0, Nat.le_of_ble_eq_true rfl, ?_⟩
  show X mImage_giveBack G _ S1 I L 0 [.ref 45, .ref 1, .ref 4, .ref 18, .ref 30] [] Post
  refine x_aload_n dImage_giveBack_0 rfl ?_
  refine x_aload_n dImage_giveBack_1 rfl ?_
  refine x_getR fl_Image_12 rfl dImage_giveBack_2 rfl rfl rfl ?_
  -- at 5: .invokevirtual 40
  refine x_callV_1 c_Town_become ok_Town_become ml_Image_40 dImage_giveBack_5 rfl rfl rfl rfl rfl ?_
  refine ⟨rfl, Or.inr ⟨rfl, ?_⟩⟩
  refine x_aload_n dImage_giveBack_8 rfl ?_
  refine x_aload_n dImage_giveBack_9 rfl ?_
  refine x_getR fl_Image_21 rfl dImage_giveBack_10 rfl rfl rfl ?_
  -- at 13: .invokevirtual 44
  refine x_callV_1 c_Sayings_become ok_Sayings_become ml_Image_44 dImage_giveBack_13 rfl rfl rfl rfl rfl ?_
  refine ⟨rfl, Or.inr ⟨rfl, ?_⟩⟩
  refine x_aload_n dImage_giveBack_16 rfl ?_
  refine x_getR fl_Image_25 rfl dImage_giveBack_17 rfl rfl rfl ?_
  refine x_iconst (v := 0) dImage_giveBack_20 rfl ?_
  refine x_aload_n dImage_giveBack_21 rfl ?_
  refine x_getR fl_Image_52 rfl dImage_giveBack_22 rfl rfl rfl ?_
  refine x_iconst (v := 0) dImage_giveBack_25 rfl ?_
  refine x_aload_n dImage_giveBack_26 rfl ?_
  refine x_getI fl_Image_29 rfl dImage_giveBack_27 rfl rfl ?_
  -- at 30: .invokestatic 53
  have em : sbU (tbU I 1 2 3 46 47 48) 18 19 20 21 22 49 50 51 52 53 45 3 = nI n := by
    unfold sbU tbU
    simp only [up2_n, up2_s, ne_eq, Nat.reduceEqDiff, not_false_eq_true, upr_n]
    exact hn
  rw [em]
  refine x_acopy dImage_giveBack_30 ml_Image_53 na_ac st_ac it_System rfl rfl rfl rfl rfl rfl (by decide) (by decide) e0 (by rw [ec]; show 0 + n ≤ 8; omega) (by rw [ec]; show 0 + n ≤ 8; omega) ?_
  refine x_aload dImage_giveBack_33 rfl ?_
  refine x_aload_n dImage_giveBack_35 rfl ?_
  refine x_getI fl_Image_33 rfl dImage_giveBack_36 rfl rfl ?_
  refine x_putI fl_Image_59 rfl dImage_giveBack_39 (by decide) rfl rfl rfl rfl ?_
  -- at 42: .return_
  have e12 : sbU (tbU I 1 2 3 46 47 48) 18 19 20 21 22 49 50 51 52 53 12 = I 12 := by
    unfold sbU tbU
    simp only [up2_n, up2_s, ne_eq, Nat.reduceEqDiff, not_false_eq_true, upr_n]
  have e54 : sbU (tbU I 1 2 3 46 47 48) 18 19 20 21 22 49 50 51 52 53 54 = I 54 := by
    unfold sbU tbU
    simp only [up2_n, up2_s, ne_eq, Nat.reduceEqDiff, not_false_eq_true, upr_n]
  have e45 : sbU (tbU I 1 2 3 46 47 48) 18 19 20 21 22 49 50 51 52 53 45 = I 45 := by
    unfold sbU tbU
    simp only [up2_n, up2_s, ne_eq, Nat.reduceEqDiff, not_false_eq_true, upr_n]
  simp only [up2_n, up2_s, ne_eq, Nat.reduceEqDiff, not_false_eq_true, upr_n, e12, e54, e45, ec]
  refine x_return dImage_giveBack_42 rfl ?_
  exact h1
/-- all that an image keeps; as in it -/
def imageU (E : IM) : IM := fun a => match a with
  | 19 => E 0 | 20 => E 1 | 21 => E 9 | 22 => E 14 | 23 => E 15 | 24 => E 16 | 25 => E 17
  | 29 => fun j => match j with
    | 7 => 1 | 8 => E 29 0 | 9 => E 29 1 | 10 => E 29 3 | 11 => E 29 5 | j => E 29 j
  | a => E a
def backU0 (E : IM) : IM := fun a => match a with
  | 0 => E 19 | 1 => E 20 | 9 => fun j => if j < cl (E 29 9) then E 21 j else E 9 j | 14 => E 22 | 15 => E 23 | 16 => E 24 | 17 => E 25
  | 29 => fun j => match j with
    | 0 => E 29 8 | 3 => E 29 10 | 5 => E 29 11 | j => E 29 j
  | a => E a
def backU (E : IM) : IM := if ¬ E 29 7 = 0 then backU0 E else E
def backS (E : IM) : Int32 := if ¬ E 29 7 = 0 then E 29 10 else -3
theorem keep_cE (I : IM) (hok : cOk I) : cE (keepU I (pN (cE I))) = imageU (cE I) := by
  have hn : I 4 8 = nI (pN (cE I)) := hok.1.1
  have h8 := hok.1.2.1
  have hm : I 18 4 = nI (sN (cE I)) := hok.2.2.1.1
  have h10 := hok.2.2.1.2.1
  have hz := hok.2.2.2.2.2.2.2.2
  have en : pN (cE I) = cl (I 4 8) := rfl
  have es : sN (cE I) = cl (I 18 4) := rfl
  generalize pN (cE I) = n at hn h8 en ⊢
  generalize sN (cE I) = m at hm h10 es
  generalize hJ : keepU I n = J
  have ho : ∀ k, k ∉ [45, 46, 47, 48, 49, 50, 51, 52, 53, 54] → J k = I k := by
    intro k hk
    simp only [List.mem_cons, List.not_mem_nil, or_false, not_or] at hk
    subst hJ
    unfold keepU sbU tbU
    rw [up2_n _ _ _ (by omega), up2_n _ _ _ (by omega), upr_n _ _ (by omega), up2_n _ _ _ (by omega), up2_n _ _ _ (by omega), upr_n _ _ (by omega), upr_n _ _ (by omega), upr_n _ _ (by omega), upr_n _ _ (by omega), up2_n _ _ _ (by omega), upr_n _ _ (by omega), upr_n _ _ (by omega)]
  have e47 : J 47 = va_cpy (I 2) (I 47) 0 0 36 := by subst hJ; unfold keepU sbU tbU; simp only [up2_n, up2_s, ne_eq, Nat.reduceEqDiff, not_false_eq_true, upr_n, upr_s]
  have e48 : J 48 = va_cpy (I 3) (I 48) 0 0 6 := by subst hJ; unfold keepU sbU tbU; simp only [up2_n, up2_s, ne_eq, Nat.reduceEqDiff, not_false_eq_true, upr_n, upr_s]
  have e50 : J 50 = va_cpy (I 19) (I 50) 0 0 11 := by subst hJ; unfold keepU sbU tbU; simp only [up2_n, up2_s, ne_eq, Nat.reduceEqDiff, not_false_eq_true, upr_n, upr_s]
  have e51 : J 51 = va_cpy (I 20) (I 51) 0 0 11 := by subst hJ; unfold keepU sbU tbU; simp only [up2_n, up2_s, ne_eq, Nat.reduceEqDiff, not_false_eq_true, upr_n, upr_s]
  have e52 : J 52 = va_cpy (I 21) (I 52) 0 0 11 := by subst hJ; unfold keepU sbU tbU; simp only [up2_n, up2_s, ne_eq, Nat.reduceEqDiff, not_false_eq_true, upr_n, upr_s]
  have e53 : J 53 = va_cpy (I 22) (I 53) 0 0 11 := by subst hJ; unfold keepU sbU tbU; simp only [up2_n, up2_s, ne_eq, Nat.reduceEqDiff, not_false_eq_true, upr_n, upr_s]
  have e54 : J 54 = va_cpy (I 12) (I 54) 0 0 n := by subst hJ; unfold keepU; simp only [up2_n, up2_s, ne_eq, Nat.reduceEqDiff, not_false_eq_true, upr_n, upr_s]
  have hs7 : J 45 5 = 1 := by subst hJ; unfold keepU; simp only [up2_n, up2_s, ne_eq, Nat.reduceEqDiff, not_false_eq_true, upr_n, upr_s]; simp [up1]
  have hs8 : J 46 2 = I 1 2 := by subst hJ; unfold keepU sbU tbU; simp only [up2_n, up2_s, ne_eq, Nat.reduceEqDiff, not_false_eq_true, upr_n, upr_s]; simp [up1]
  have hs9 : J 45 3 = nI n := by subst hJ; unfold keepU; simp only [up2_n, up2_s, ne_eq, Nat.reduceEqDiff, not_false_eq_true, upr_n, upr_s]; simp [up1]
  have hs10 : J 49 4 = I 18 4 := by subst hJ; unfold keepU sbU tbU; simp only [up2_n, up2_s, ne_eq, Nat.reduceEqDiff, not_false_eq_true, upr_n, upr_s]; simp [up1]
  have hs11 : J 45 4 = I 30 3 := by subst hJ; unfold keepU; simp only [up2_n, up2_s, ne_eq, Nat.reduceEqDiff, not_false_eq_true, upr_n, upr_s]; simp [up1]
  have k22 : ∀ a b : Nat, J a = va_cpy (I b) (I a) 0 0 11 → mk (cl (J 49 4)) (J a) = mk (cl (I 18 4)) (I b) := fun a b e => by
    rw [hs10, e, ← es]
    exact mk_cpy (by omega)
  funext a
  match a with
  | 0 => exact ho 2 (by decide)
  | 1 => exact ho 3 (by decide)
  | 2 => exact ho 5 (by decide)
  | 3 => exact ho 6 (by decide)
  | 4 => exact ho 7 (by decide)
  | 5 => exact ho 8 (by decide)
  | 6 => exact ho 9 (by decide)
  | 7 => exact ho 10 (by decide)
  | 8 => exact ho 11 (by decide)
  | 9 => show mk (cl (J 4 8)) (J 12) = mk (cl (I 4 8)) (I 12); rw [ho 4 (by decide), ho 12 (by decide)]
  | 10 => exact ho 14 (by decide)
  | 11 => exact ho 15 (by decide)
  | 12 => exact ho 16 (by decide)
  | 13 => exact ho 17 (by decide)
  | 14 => show mk (cl (J 18 4)) (J 19) = mk (cl (I 18 4)) (I 19); rw [ho 18 (by decide), ho 19 (by decide)]
  | 15 => show mk (cl (J 18 4)) (J 20) = mk (cl (I 18 4)) (I 20); rw [ho 18 (by decide), ho 20 (by decide)]
  | 16 => show mk (cl (J 18 4)) (J 21) = mk (cl (I 18 4)) (I 21); rw [ho 18 (by decide), ho 21 (by decide)]
  | 17 => show mk (cl (J 18 4)) (J 22) = mk (cl (I 18 4)) (I 22); rw [ho 18 (by decide), ho 22 (by decide)]
  | 18 => show mk (cl (J 23 1)) (J 24) = mk (cl (I 23 1)) (I 24); rw [ho 23 (by decide), ho 24 (by decide)]
  | 19 => exact e47.trans (cpy_full (fun j hj => (hz j).1 hj))
  | 20 => exact e48.trans (cpy_full (fun j hj => (hz j).2 hj))
  | 21 => exact (show mk (cl (J 45 3)) (J 54) = mk (cl (I 4 8)) (I 12) by rw [hs9, e54, ← en, cl_nI (by omega)]; exact mk_cpy (Nat.le_refl _))
  | 22 => exact k22 50 19 e50
  | 23 => exact k22 51 20 e51
  | 24 => exact k22 52 21 e52
  | 25 => exact k22 53 22 e53
  | 26 => exact ho 56 (by decide)
  | 27 => exact ho 57 (by decide)
  | 28 => exact ho 58 (by decide)
  | 29 =>
    funext j
    match j with
    | 0 => exact congrFun (ho 1 (by decide)) 2
    | 1 => exact congrFun (ho 4 (by decide)) 8
    | 2 => exact congrFun (ho 13 (by decide)) 4
    | 3 => exact congrFun (ho 18 (by decide)) 4
    | 4 => exact congrFun (ho 30 (by decide)) 2
    | 5 => exact congrFun (ho 30 (by decide)) 3
    | 6 => exact congrFun (ho 23 (by decide)) 1
    | 7 => exact hs7
    | 8 => exact hs8
    | 9 => exact hs9.trans hn.symm
    | 10 => exact hs10
    | 11 => exact hs11
    | n + 12 => rfl
  | 30 => show mk (4 * cl (J 30 2)) (J 32) = mk (4 * cl (I 30 2)) (I 32); rw [ho 30 (by decide), ho 32 (by decide)]
  | 31 => show (fun j => if j / 200 < cl (J 30 2) ∧ j % 200 < cl (J 32 (4 * (j / 200) + 3)) then enc (J 31 (160 * (j / 200) + j % 200)) else 0) = (fun j => if j / 200 < cl (I 30 2) ∧ j % 200 < cl (I 32 (4 * (j / 200) + 3)) then enc (I 31 (160 * (j / 200) + j % 200)) else 0); rw [ho 30 (by decide), ho 32 (by decide), ho 31 (by decide)]
  | n + 32 => rfl
theorem back_cE (I : IM) (hok : cOk I) (n : Nat) (hn : I 45 3 = nI n) (hnp : n ≤ pN (cE I)) (h10 : cl (I 49 4) ≤ 10) : cE (gbU I n) = backU0 (cE I) := by
  have hpn : I 4 8 = nI (pN (cE I)) := hok.1.1
  have h8 := hok.1.2.1
  have hz := hok.2.2.2.2.2.2.2.2
  have ep : pN (cE I) = cl (I 4 8) := rfl
  generalize pN (cE I) = p at hpn h8 ep hnp
  generalize hJ : gbU I n = J
  have ho : ∀ k, k ∉ [1, 2, 3, 12, 18, 19, 20, 21, 22, 30] → J k = I k := by
    intro k hk
    simp only [List.mem_cons, List.not_mem_nil, or_false, not_or] at hk
    subst hJ
    unfold gbU sbU tbU
    rw [up2_n _ _ _ (by omega), upr_n _ _ (by omega), up2_n _ _ _ (by omega), upr_n _ _ (by omega), upr_n _ _ (by omega), upr_n _ _ (by omega), upr_n _ _ (by omega), up2_n _ _ _ (by omega), upr_n _ _ (by omega), upr_n _ _ (by omega)]
  have e2 : J 2 = va_cpy (I 47) (I 2) 0 0 36 := by subst hJ; unfold gbU sbU tbU; simp only [up2_n, up2_s, ne_eq, Nat.reduceEqDiff, not_false_eq_true, upr_n, upr_s]
  have e3 : J 3 = va_cpy (I 48) (I 3) 0 0 6 := by subst hJ; unfold gbU sbU tbU; simp only [up2_n, up2_s, ne_eq, Nat.reduceEqDiff, not_false_eq_true, upr_n, upr_s]
  have e19 : J 19 = va_cpy (I 50) (I 19) 0 0 11 := by subst hJ; unfold gbU sbU tbU; simp only [up2_n, up2_s, ne_eq, Nat.reduceEqDiff, not_false_eq_true, upr_n, upr_s]
  have e20 : J 20 = va_cpy (I 51) (I 20) 0 0 11 := by subst hJ; unfold gbU sbU tbU; simp only [up2_n, up2_s, ne_eq, Nat.reduceEqDiff, not_false_eq_true, upr_n, upr_s]
  have e21 : J 21 = va_cpy (I 52) (I 21) 0 0 11 := by subst hJ; unfold gbU sbU tbU; simp only [up2_n, up2_s, ne_eq, Nat.reduceEqDiff, not_false_eq_true, upr_n, upr_s]
  have e22 : J 22 = va_cpy (I 53) (I 22) 0 0 11 := by subst hJ; unfold gbU sbU tbU; simp only [up2_n, up2_s, ne_eq, Nat.reduceEqDiff, not_false_eq_true, upr_n, upr_s]
  have e12 : J 12 = va_cpy (I 54) (I 12) 0 0 n := by subst hJ; unfold gbU; simp only [up2_n, up2_s, ne_eq, Nat.reduceEqDiff, not_false_eq_true, upr_n, upr_s]
  have e4 : J 4 = I 4 := ho 4 (by decide)
  have h30 : ∀ j, j ≠ 3 → J 30 j = I 30 j := by
    intro j hj
    subst hJ
    unfold gbU sbU tbU
    simp only [up2_n, up2_s, ne_eq, Nat.reduceEqDiff, not_false_eq_true, upr_n, upr_s]
    simp [up1, hj]
  have hs0 : J 1 2 = I 46 2 := by subst hJ; unfold gbU sbU tbU; simp only [up2_n, up2_s, ne_eq, Nat.reduceEqDiff, not_false_eq_true, upr_n, upr_s]; simp [up1]
  have hs3 : J 18 4 = I 49 4 := by subst hJ; unfold gbU sbU tbU; simp only [up2_n, up2_s, ne_eq, Nat.reduceEqDiff, not_false_eq_true, upr_n, upr_s]; simp [up1]
  have hs4 : J 30 2 = I 30 2 := h30 2 (by decide)
  have hs5 : J 30 3 = I 45 4 := by subst hJ; unfold gbU; simp only [up2_n, up2_s, ne_eq, Nat.reduceEqDiff, not_false_eq_true, upr_n, upr_s]; simp [up1]
  have hs1 : J 4 8 = I 4 8 := by rw [e4]
  have k22 : ∀ a b : Nat, J a = va_cpy (I b) (I a) 0 0 11 → mk (cl (J 18 4)) (J a) = mk (cl (I 49 4)) (I b) := fun a b e => by
    rw [hs3, e]
    exact mk_cpy (by omega)
  funext a
  match a with
  | 0 => exact e2.trans (cpy_full (fun j hj => ((hz j).1 hj).symm))
  | 1 => exact e3.trans (cpy_full (fun j hj => ((hz j).2 hj).symm))
  | 2 => exact ho 5 (by decide)
  | 3 => exact ho 6 (by decide)
  | 4 => exact ho 7 (by decide)
  | 5 => exact ho 8 (by decide)
  | 6 => exact ho 9 (by decide)
  | 7 => exact ho 10 (by decide)
  | 8 => exact ho 11 (by decide)
  | 9 => exact (show mk (cl (J 4 8)) (J 12) = (fun j => if j < cl (I 45 3) then mk (cl (I 45 3)) (I 54) j else mk (cl (I 4 8)) (I 12) j) by
      rw [hs1, e12, hn, cl_nI (by omega), ← ep]
      funext j
      by_cases hj : j < n
      · rw [if_pos hj, mk_lt (by omega), mk_lt hj, sb_cpy0 hj]
      · rw [if_neg hj]
        unfold mk
        by_cases h2 : j < p
        · rw [if_pos h2, if_pos h2, pk_cpy_out (Or.inr (by omega))]
        · rw [if_neg h2, if_neg h2])
  | 10 => exact ho 14 (by decide)
  | 11 => exact ho 15 (by decide)
  | 12 => exact ho 16 (by decide)
  | 13 => exact ho 17 (by decide)
  | 14 => exact k22 19 50 e19
  | 15 => exact k22 20 51 e20
  | 16 => exact k22 21 52 e21
  | 17 => exact k22 22 53 e22
  | 18 => show mk (cl (J 23 1)) (J 24) = mk (cl (I 23 1)) (I 24); rw [ho 23 (by decide), ho 24 (by decide)]
  | 19 => exact ho 47 (by decide)
  | 20 => exact ho 48 (by decide)
  | 21 => show mk (cl (J 45 3)) (J 54) = mk (cl (I 45 3)) (I 54); rw [ho 45 (by decide), ho 54 (by decide)]
  | 22 => show mk (cl (J 49 4)) (J 50) = mk (cl (I 49 4)) (I 50); rw [ho 49 (by decide), ho 50 (by decide)]
  | 23 => show mk (cl (J 49 4)) (J 51) = mk (cl (I 49 4)) (I 51); rw [ho 49 (by decide), ho 51 (by decide)]
  | 24 => show mk (cl (J 49 4)) (J 52) = mk (cl (I 49 4)) (I 52); rw [ho 49 (by decide), ho 52 (by decide)]
  | 25 => show mk (cl (J 49 4)) (J 53) = mk (cl (I 49 4)) (I 53); rw [ho 49 (by decide), ho 53 (by decide)]
  | 26 => exact ho 56 (by decide)
  | 27 => exact ho 57 (by decide)
  | 28 => exact ho 58 (by decide)
  | 29 =>
    funext j
    match j with
    | 0 => exact hs0
    | 1 => exact hs1
    | 2 => exact congrFun (ho 13 (by decide)) 4
    | 3 => exact hs3
    | 4 => exact hs4
    | 5 => exact hs5
    | 6 => exact congrFun (ho 23 (by decide)) 1
    | 7 => exact congrFun (ho 45 (by decide)) 5
    | 8 => exact congrFun (ho 46 (by decide)) 2
    | 9 => exact congrFun (ho 45 (by decide)) 3
    | 10 => exact congrFun (ho 49 (by decide)) 4
    | 11 => exact congrFun (ho 45 (by decide)) 4
    | n + 12 => rfl
  | 30 => exact (show mk (4 * cl (J 30 2)) (J 32) = mk (4 * cl (I 30 2)) (I 32) by rw [hs4, ho 32 (by decide)])
  | 31 => exact (show (fun j => if j / 200 < cl (J 30 2) ∧ j % 200 < cl (J 32 (4 * (j / 200) + 3)) then enc (J 31 (160 * (j / 200) + j % 200)) else 0) = (fun j => if j / 200 < cl (I 30 2) ∧ j % 200 < cl (I 32 (4 * (j / 200) + 3)) then enc (I 31 (160 * (j / 200) + j % 200)) else 0) by rw [hs4, ho 31 (by decide), ho 32 (by decide)])
  | n + 32 => rfl
def sp_W_image : SpT := cSp [] (fun E => .int (E 29 3)) imageU
set_option maxHeartbeats 4000000 in
set_option maxRecDepth 100000 in
theorem c_W_image : Con mW_image 4 0 0 sp_W_image := by
  refine con_of_X rfl fun G as S I L Post hs => ?_
  obtain ⟨rfl, rfl, hok, h1⟩ := hs
  dsimp only at h1
  refine ⟨0, Nat.le_of_ble_eq_true rfl, ?_⟩
  show X mW_image G _ S1 I L 0 [.ref 0] [] Post
  refine x_aload_n dW_image_0 rfl ?_
  refine x_getR fl_W_63 rfl dW_image_1 rfl rfl rfl ?_
  refine x_aload_n dW_image_4 rfl ?_
  refine x_getR fl_W_12 rfl dW_image_5 rfl rfl rfl ?_
  refine x_aload_n dW_image_8 rfl ?_
  refine x_getR fl_W_19 rfl dW_image_9 rfl rfl rfl ?_
  refine x_aload_n dW_image_12 rfl ?_
  refine x_getR fl_W_33 rfl dW_image_13 rfl rfl rfl ?_
  refine x_aload_n dW_image_16 rfl ?_
  refine x_getR fl_W_47 rfl dW_image_17 rfl rfl rfl ?_
  -- at 20: .invokevirtual 321
  refine x_callV_4 c_Image_keep ok_Image_keep ml_W_321 dW_image_20 rfl rfl rfl rfl rfl ?_
  refine ⟨pN (cE I), rfl, rfl, hok.1.1, hok.1.2.1, ?_⟩
  refine x_aload_n dW_image_23 rfl ?_
  refine x_getR fl_W_33 rfl dW_image_24 rfl rfl rfl ?_
  refine x_getI fl_W_125 rfl dW_image_27 rfl rfl ?_
  -- at 30: .ireturn
  have e : keepU I (pN (cE I)) 18 4 = I 18 4 := by
    unfold keepU sbU tbU
    simp only [up2_n, up2_s, ne_eq, Nat.reduceEqDiff, not_false_eq_true, upr_n]
  rw [e]
  refine x_ireturn dW_image_30 rfl rfl ?_
  exact h1 _ (fun k hk => by unfold keepU sbU tbU; rw [up2_n _ _ _ (by omega), up2_n _ _ _ (by omega), upr_n _ _ (by omega), up2_n _ _ _ (by omega), up2_n _ _ _ (by omega), upr_n _ _ (by omega), upr_n _ _ (by omega), upr_n _ _ (by omega), upr_n _ _ (by omega), up2_n _ _ _ (by omega), upr_n _ _ (by omega), upr_n _ _ (by omega)]) (keep_cE I hok)
def sp_W_back : SpT := cSp [] (fun E => .int (backS E)) backU
set_option maxHeartbeats 4000000 in
set_option maxRecDepth 100000 in
theorem c_W_back : Con mW_back 4 0 0 sp_W_back := by
  refine con_of_X rfl fun G as S I L Post hs => ?_
  obtain ⟨rfl, rfl, hok, h1⟩ := hs
  dsimp only at h1
  refine ⟨0, Nat.le_of_ble_eq_true rfl, ?_⟩
  show X mW_back G _ S1 I L 0 [.ref 0] [] Post
  obtain ⟨-, ⟨n, hnp, hn, -⟩, ⟨m, hm, em, -⟩, -⟩ := hok.2.2.2.2.2.2.1
  have h8 := hok.1.2.1
  refine x_aload_n dW_back_0 rfl ?_
  refine x_getR fl_W_63 rfl dW_back_1 rfl rfl rfl ?_
  refine x_getI fl_W_325 rfl dW_back_4 rfl rfl ?_
  -- at 7: .ifCond .ne 6
  refine x_if_ne (tgt := 13) dW_back_7 (by decide) (fun c1 => ?_) (fun c1 => ?_)
  · rw [backS, backU, if_pos (show ¬ cE I 29 7 = 0 from c1), if_pos (show ¬ cE I 29 7 = 0 from c1)] at h1
    refine x_aload_n dW_back_13 rfl ?_
    refine x_getR fl_W_63 rfl dW_back_14 rfl rfl rfl ?_
    refine x_aload_n dW_back_17 rfl ?_
    refine x_getR fl_W_12 rfl dW_back_18 rfl rfl rfl ?_
    refine x_aload_n dW_back_21 rfl ?_
    refine x_getR fl_W_19 rfl dW_back_22 rfl rfl rfl ?_
    refine x_aload_n dW_back_25 rfl ?_
    refine x_getR fl_W_33 rfl dW_back_26 rfl rfl rfl ?_
    refine x_aload_n dW_back_29 rfl ?_
    refine x_getR fl_W_47 rfl dW_back_30 rfl rfl rfl ?_
    -- at 33: .invokevirtual 329
    refine x_callV_4 c_Image_giveBack ok_Image_giveBack ml_W_329 dW_back_33 rfl rfl rfl rfl rfl ?_
    refine ⟨n, rfl, rfl, hn, by omega, ?_⟩
    refine x_aload_n dW_back_36 rfl ?_
    refine x_getR fl_W_33 rfl dW_back_37 rfl rfl rfl ?_
    refine x_getI fl_W_125 rfl dW_back_40 rfl rfl ?_
    -- at 43: .ireturn
    have e : gbU I n 18 4 = I 49 4 := by
      unfold gbU sbU tbU
      simp only [up2_n, up2_s, ne_eq, Nat.reduceEqDiff, not_false_eq_true, upr_n]
      simp [up1]
    rw [e]
    refine x_ireturn dW_back_43 rfl rfl ?_
    have em : I 49 4 = nI m := em
    exact h1 _ (fun k hk => by unfold gbU sbU tbU; rw [up2_n _ _ _ (by omega), upr_n _ _ (by omega), up2_n _ _ _ (by omega), upr_n _ _ (by omega), upr_n _ _ (by omega), upr_n _ _ (by omega), upr_n _ _ (by omega), up2_n _ _ _ (by omega), upr_n _ _ (by omega), upr_n _ _ (by omega)]) (back_cE I hok n hn hnp (by rw [em, cl_nI (by omega)]; exact hm))
  · rw [backS, backU, if_neg (show ¬ ¬ cE I 29 7 = 0 from fun z => z c1), if_neg (show ¬ ¬ cE I 29 7 = 0 from fun z => z c1)] at h1
    refine x_bipush (v := -3) dW_back_10 rfl ?_
    -- at 12: .ireturn
    refine x_ireturn dW_back_12 rfl rfl ?_
    exact h1 I (fun _ _ => rfl) rfl
