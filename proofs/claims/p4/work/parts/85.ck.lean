/-! the constructors of the class's own objects -/
/-- a row of how far, filled as far as m -/
def tw (m : Nat) : Nat → Int32 := fun j => if j < m then fa0 j else 0
theorem tw_0 : tw 0 = fun _ => 0 := by
  funext j
  unfold tw
  rw [if_neg (by omega)]
theorem tw_36 : tw (6 * 6) = fa0 := by
  funext j
  unfold tw
  by_cases h : j < 36
  · rw [if_pos (by omega)]
  · rw [if_neg (by omega), fa0, if_neg h]
theorem tw_s {J : IM} {k m : Nat} : up2 (upr J k (tw m)) k m (fa0 m) = upr J k (tw (m + 1)) := by
  funext i
  by_cases h : i = k
  · subst h
    rw [up2_s, upr_s, upr_s]
    funext j
    unfold tw
    by_cases hj : j = m
    · subst hj; rw [up1_s, if_pos (by omega)]
    · rw [up1_n _ _ hj]
      by_cases h2 : j < m
      · rw [if_pos h2, if_pos (by omega)]
      · rw [if_neg h2, if_neg (by omega)]
  · rw [up2_n _ _ _ h, upr_n _ _ h, upr_n _ _ h]
theorem tw_v (u v : Nat) (hu : u < 6) (hv : v < 6) : (if 0 ≤ nI u - nI v then nI u - nI v else 0 - (nI u - nI v)) = fa0 (u * 6 + v) :=
  (show ∀ u, u < 6 → ∀ v, v < 6 → (if 0 ≤ nI u - nI v then nI u - nI v else 0 - (nI u - nI v)) = fa0 (u * 6 + v) by decide +kernel) u hu v hv
set_option maxHeartbeats 4000000 in
set_option maxRecDepth 100000 in
theorem c_Folk_init : Con mFolk_init 2 8 64 (spC 4 13 [] [(0, 1, 0)]) := by
  refine con_of_X rfl fun G as S I L Post hs => ?_
  obtain ⟨rfl, rfl, hz, h1⟩ := hs
  refine ⟨0, Nat.le_of_ble_eq_true rfl, ?_⟩
  show X mFolk_init G _ (SP 5 ((4, 0, 0) :: [(0, 1, 0)])) I L 0 [.ref 4] [] Post
  have hF : Fill 4 5 I I := Fill.start hz
  refine x_aload_n dFolk_init_0 rfl ?_
  refine x_objInit dFolk_init_1 ml_Folk_3 im_obj co_obj rfl rfl ?_
  refine x_aload_n dFolk_init_4 rfl ?_
  refine x_bipush (v := 8) dFolk_init_5 rfl ?_
  refine x_newSP (N := 8) (n := 5) dFolk_init_7 rfl rfl rfl rfl ?_
  replace hF := hF.pushf (n := 5) (f := fun _ => 0) (by decide) rfl
  generalize upr _ 5 (fun _ => (0 : Int32)) = J at hF ⊢
  refine x_putSP (j := 0) fl_Folk_9 rfl dFolk_init_9 (by decide) rfl rfl rfl (by decide) (by decide) (fun _ => rfl) (fun _ => rfl) ?_
  refine x_aload_n dFolk_init_12 rfl ?_
  refine x_bipush (v := 8) dFolk_init_13 rfl ?_
  refine x_newSP (N := 8) (n := 6) dFolk_init_15 rfl rfl rfl rfl ?_
  replace hF := hF.pushf (n := 6) (f := fun _ => 0) (by decide) rfl
  generalize upr _ 6 (fun _ => (0 : Int32)) = J at hF ⊢
  refine x_putSP (j := 1) fl_Folk_15 rfl dFolk_init_17 (by decide) rfl rfl rfl (by decide) (by decide) (fun _ => rfl) (fun _ => rfl) ?_
  refine x_aload_n dFolk_init_20 rfl ?_
  refine x_bipush (v := 8) dFolk_init_21 rfl ?_
  refine x_newSP (N := 8) (n := 7) dFolk_init_23 rfl rfl rfl rfl ?_
  replace hF := hF.pushf (n := 7) (f := fun _ => 0) (by decide) rfl
  generalize upr _ 7 (fun _ => (0 : Int32)) = J at hF ⊢
  refine x_putSP (j := 2) fl_Folk_18 rfl dFolk_init_25 (by decide) rfl rfl rfl (by decide) (by decide) (fun _ => rfl) (fun _ => rfl) ?_
  refine x_aload_n dFolk_init_28 rfl ?_
  refine x_bipush (v := 8) dFolk_init_29 rfl ?_
  refine x_newSP (N := 8) (n := 8) dFolk_init_31 rfl rfl rfl rfl ?_
  replace hF := hF.pushf (n := 8) (f := fun _ => 0) (by decide) rfl
  generalize upr _ 8 (fun _ => (0 : Int32)) = J at hF ⊢
  refine x_putSP (j := 3) fl_Folk_21 rfl dFolk_init_33 (by decide) rfl rfl rfl (by decide) (by decide) (fun _ => rfl) (fun _ => rfl) ?_
  refine x_aload_n dFolk_init_36 rfl ?_
  refine x_bipush (v := 8) dFolk_init_37 rfl ?_
  refine x_newSP (N := 8) (n := 9) dFolk_init_39 rfl rfl rfl rfl ?_
  replace hF := hF.pushf (n := 9) (f := fun _ => 0) (by decide) rfl
  generalize upr _ 9 (fun _ => (0 : Int32)) = J at hF ⊢
  refine x_putSP (j := 4) fl_Folk_24 rfl dFolk_init_41 (by decide) rfl rfl rfl (by decide) (by decide) (fun _ => rfl) (fun _ => rfl) ?_
  refine x_aload_n dFolk_init_44 rfl ?_
  refine x_bipush (v := 8) dFolk_init_45 rfl ?_
  refine x_newSP (N := 8) (n := 10) dFolk_init_47 rfl rfl rfl rfl ?_
  replace hF := hF.pushf (n := 10) (f := fun _ => 0) (by decide) rfl
  generalize upr _ 10 (fun _ => (0 : Int32)) = J at hF ⊢
  refine x_putSP (j := 5) fl_Folk_27 rfl dFolk_init_49 (by decide) rfl rfl rfl (by decide) (by decide) (fun _ => rfl) (fun _ => rfl) ?_
  refine x_aload_n dFolk_init_52 rfl ?_
  refine x_bipush (v := 8) dFolk_init_53 rfl ?_
  refine x_newSP (N := 8) (n := 11) dFolk_init_55 rfl rfl rfl rfl ?_
  replace hF := hF.pushf (n := 11) (f := fun _ => 0) (by decide) rfl
  generalize upr _ 11 (fun _ => (0 : Int32)) = J at hF ⊢
  refine x_putSP (j := 6) fl_Folk_30 rfl dFolk_init_57 (by decide) rfl rfl rfl (by decide) (by decide) (fun _ => rfl) (fun _ => rfl) ?_
  refine x_aload_n dFolk_init_60 rfl ?_
  refine x_bipush (v := 8) dFolk_init_61 rfl ?_
  refine x_newSP (N := 8) (n := 12) dFolk_init_63 rfl rfl rfl rfl ?_
  replace hF := hF.pushf (n := 12) (f := fun _ => 0) (by decide) rfl
  generalize upr _ 12 (fun _ => (0 : Int32)) = J at hF ⊢
  refine x_putSP (j := 7) fl_Folk_33 rfl dFolk_init_65 (by decide) rfl rfl rfl (by decide) (by decide) (fun _ => rfl) (fun _ => rfl) ?_
  refine x_aload_n dFolk_init_68 rfl ?_
  refine x_iconst (v := 0) dFolk_init_69 rfl ?_
  refine x_putI fl_Folk_36 rfl dFolk_init_70 (by decide) rfl rfl rfl rfl ?_
  rw [up2_id (hF.at (i := 4) (j := 8) (x := 0) rfl rfl rfl)]
  refine x_return dFolk_init_73 rfl ?_
  have hp := h1 _ L hF
  rw [SP_close (by decide) (fun _ => rfl)]
  exact hp
set_option maxHeartbeats 4000000 in
set_option maxRecDepth 100000 in
theorem c_Vows_init : Con mVows_init 2 4 32 (spC 13 18 [] [(0, 2, 0)]) := by
  refine con_of_X rfl fun G as S I L Post hs => ?_
  obtain ⟨rfl, rfl, hz, h1⟩ := hs
  refine ⟨0, Nat.le_of_ble_eq_true rfl, ?_⟩
  show X mVows_init G _ (SP 14 ((13, 0, 0) :: [(0, 2, 0)])) I L 0 [.ref 13] [] Post
  have hF : Fill 13 14 I I := Fill.start hz
  refine x_aload_n dVows_init_0 rfl ?_
  refine x_objInit dVows_init_1 ml_Vows_3 im_obj co_obj rfl rfl ?_
  refine x_aload_n dVows_init_4 rfl ?_
  refine x_bipush (v := 8) dVows_init_5 rfl ?_
  refine x_newSP (N := 8) (n := 14) dVows_init_7 rfl rfl rfl rfl ?_
  replace hF := hF.pushf (n := 14) (f := fun _ => 0) (by decide) rfl
  generalize upr _ 14 (fun _ => (0 : Int32)) = J at hF ⊢
  refine x_putSP (j := 0) fl_Vows_9 rfl dVows_init_9 (by decide) rfl rfl rfl (by decide) (by decide) (fun _ => rfl) (fun _ => rfl) ?_
  refine x_aload_n dVows_init_12 rfl ?_
  refine x_bipush (v := 8) dVows_init_13 rfl ?_
  refine x_newSP (N := 8) (n := 15) dVows_init_15 rfl rfl rfl rfl ?_
  replace hF := hF.pushf (n := 15) (f := fun _ => 0) (by decide) rfl
  generalize upr _ 15 (fun _ => (0 : Int32)) = J at hF ⊢
  refine x_putSP (j := 1) fl_Vows_15 rfl dVows_init_17 (by decide) rfl rfl rfl (by decide) (by decide) (fun _ => rfl) (fun _ => rfl) ?_
  refine x_aload_n dVows_init_20 rfl ?_
  refine x_bipush (v := 8) dVows_init_21 rfl ?_
  refine x_newSP (N := 8) (n := 16) dVows_init_23 rfl rfl rfl rfl ?_
  replace hF := hF.pushf (n := 16) (f := fun _ => 0) (by decide) rfl
  generalize upr _ 16 (fun _ => (0 : Int32)) = J at hF ⊢
  refine x_putSP (j := 2) fl_Vows_18 rfl dVows_init_25 (by decide) rfl rfl rfl (by decide) (by decide) (fun _ => rfl) (fun _ => rfl) ?_
  refine x_aload_n dVows_init_28 rfl ?_
  refine x_bipush (v := 8) dVows_init_29 rfl ?_
  refine x_newSP (N := 8) (n := 17) dVows_init_31 rfl rfl rfl rfl ?_
  replace hF := hF.pushf (n := 17) (f := fun _ => 0) (by decide) rfl
  generalize upr _ 17 (fun _ => (0 : Int32)) = J at hF ⊢
  refine x_putSP (j := 3) fl_Vows_21 rfl dVows_init_33 (by decide) rfl rfl rfl (by decide) (by decide) (fun _ => rfl) (fun _ => rfl) ?_
  refine x_aload_n dVows_init_36 rfl ?_
  refine x_iconst (v := 0) dVows_init_37 rfl ?_
  refine x_putI fl_Vows_24 rfl dVows_init_38 (by decide) rfl rfl rfl rfl ?_
  rw [up2_id (hF.at (i := 13) (j := 4) (x := 0) rfl rfl rfl)]
  refine x_return dVows_init_41 rfl ?_
  have hp := h1 _ L hF
  rw [SP_close (by decide) (fun _ => rfl)]
  exact hp
set_option maxHeartbeats 4000000 in
set_option maxRecDepth 100000 in
theorem c_Sayings_init : Con mSayings_init 2 4 44 (spC 18 23 [] [(0, 3, 0)]) := by
  refine con_of_X rfl fun G as S I L Post hs => ?_
  obtain ⟨rfl, rfl, hz, h1⟩ := hs
  refine ⟨0, Nat.le_of_ble_eq_true rfl, ?_⟩
  show X mSayings_init G _ (SP 19 ((18, 0, 0) :: [(0, 3, 0)])) I L 0 [.ref 18] [] Post
  have hF : Fill 18 19 I I := Fill.start hz
  refine x_aload_n dSayings_init_0 rfl ?_
  refine x_objInit dSayings_init_1 ml_Sayings_3 im_obj co_obj rfl rfl ?_
  refine x_aload_n dSayings_init_4 rfl ?_
  refine x_bipush (v := 11) dSayings_init_5 rfl ?_
  refine x_newSP (N := 11) (n := 19) dSayings_init_7 rfl rfl rfl rfl ?_
  replace hF := hF.pushf (n := 19) (f := fun _ => 0) (by decide) rfl
  generalize upr _ 19 (fun _ => (0 : Int32)) = J at hF ⊢
  refine x_putSP (j := 0) fl_Sayings_9 rfl dSayings_init_9 (by decide) rfl rfl rfl (by decide) (by decide) (fun _ => rfl) (fun _ => rfl) ?_
  refine x_aload_n dSayings_init_12 rfl ?_
  refine x_bipush (v := 11) dSayings_init_13 rfl ?_
  refine x_newSP (N := 11) (n := 20) dSayings_init_15 rfl rfl rfl rfl ?_
  replace hF := hF.pushf (n := 20) (f := fun _ => 0) (by decide) rfl
  generalize upr _ 20 (fun _ => (0 : Int32)) = J at hF ⊢
  refine x_putSP (j := 1) fl_Sayings_15 rfl dSayings_init_17 (by decide) rfl rfl rfl (by decide) (by decide) (fun _ => rfl) (fun _ => rfl) ?_
  refine x_aload_n dSayings_init_20 rfl ?_
  refine x_bipush (v := 11) dSayings_init_21 rfl ?_
  refine x_newSP (N := 11) (n := 21) dSayings_init_23 rfl rfl rfl rfl ?_
  replace hF := hF.pushf (n := 21) (f := fun _ => 0) (by decide) rfl
  generalize upr _ 21 (fun _ => (0 : Int32)) = J at hF ⊢
  refine x_putSP (j := 2) fl_Sayings_18 rfl dSayings_init_25 (by decide) rfl rfl rfl (by decide) (by decide) (fun _ => rfl) (fun _ => rfl) ?_
  refine x_aload_n dSayings_init_28 rfl ?_
  refine x_bipush (v := 11) dSayings_init_29 rfl ?_
  refine x_newSP (N := 11) (n := 22) dSayings_init_31 rfl rfl rfl rfl ?_
  replace hF := hF.pushf (n := 22) (f := fun _ => 0) (by decide) rfl
  generalize upr _ 22 (fun _ => (0 : Int32)) = J at hF ⊢
  refine x_putSP (j := 3) fl_Sayings_21 rfl dSayings_init_33 (by decide) rfl rfl rfl (by decide) (by decide) (fun _ => rfl) (fun _ => rfl) ?_
  refine x_aload_n dSayings_init_36 rfl ?_
  refine x_iconst (v := 0) dSayings_init_37 rfl ?_
  refine x_putI fl_Sayings_24 rfl dSayings_init_38 (by decide) rfl rfl rfl rfl ?_
  rw [up2_id (hF.at (i := 18) (j := 4) (x := 0) rfl rfl rfl)]
  refine x_return dSayings_init_41 rfl ?_
  have hp := h1 _ L hF
  rw [SP_close (by decide) (fun _ => rfl)]
  exact hp
set_option maxHeartbeats 4000000 in
set_option maxRecDepth 100000 in
theorem c_Reader_init : Con mReader_init 2 6 807 (spC 23 30 [] [(0, 4, 0)]) := by
  refine con_of_X rfl fun G as S I L Post hs => ?_
  obtain ⟨rfl, rfl, hz, h1⟩ := hs
  refine ⟨0, Nat.le_of_ble_eq_true rfl, ?_⟩
  show X mReader_init G _ (SP 24 ((23, 0, 0) :: [(0, 4, 0)])) I L 0 [.ref 23] [] Post
  have hF : Fill 23 24 I I := Fill.start hz
  refine x_aload_n dReader_init_0 rfl ?_
  refine x_objInit dReader_init_1 ml_Reader_3 im_obj co_obj rfl rfl ?_
  refine x_aload_n dReader_init_4 rfl ?_
  refine x_sipush (v := 160) dReader_init_5 rfl ?_
  refine x_newSP (N := 160) (n := 24) dReader_init_8 rfl rfl rfl rfl ?_
  replace hF := hF.pushf (n := 24) (f := fun _ => 0) (by decide) rfl
  generalize upr _ 24 (fun _ => (0 : Int32)) = J at hF ⊢
  refine x_putSP (j := 0) fl_Reader_9 rfl dReader_init_10 (by decide) rfl rfl rfl (by decide) (by decide) (fun _ => rfl) (fun _ => rfl) ?_
  refine x_aload_n dReader_init_13 rfl ?_
  refine x_iconst (v := 0) dReader_init_14 rfl ?_
  refine x_putI fl_Reader_15 rfl dReader_init_15 (by decide) rfl rfl rfl rfl ?_
  rw [up2_id (hF.at (i := 23) (j := 1) (x := 0) rfl rfl rfl)]
  refine x_aload_n dReader_init_18 rfl ?_
  refine x_sipush (v := 161) dReader_init_19 rfl ?_
  refine x_newSP (N := 161) (n := 25) dReader_init_22 rfl rfl rfl rfl ?_
  replace hF := hF.pushf (n := 25) (f := fun _ => 0) (by decide) rfl
  generalize upr _ 25 (fun _ => (0 : Int32)) = J at hF ⊢
  refine x_putSP (j := 2) fl_Reader_19 rfl dReader_init_24 (by decide) rfl rfl rfl (by decide) (by decide) (fun _ => rfl) (fun _ => rfl) ?_
  refine x_aload_n dReader_init_27 rfl ?_
  refine x_sipush (v := 161) dReader_init_28 rfl ?_
  refine x_newSP (N := 161) (n := 26) dReader_init_31 rfl rfl rfl rfl ?_
  replace hF := hF.pushf (n := 26) (f := fun _ => 0) (by decide) rfl
  generalize upr _ 26 (fun _ => (0 : Int32)) = J at hF ⊢
  refine x_putSP (j := 3) fl_Reader_22 rfl dReader_init_33 (by decide) rfl rfl rfl (by decide) (by decide) (fun _ => rfl) (fun _ => rfl) ?_
  refine x_aload_n dReader_init_36 rfl ?_
  refine x_sipush (v := 161) dReader_init_37 rfl ?_
  refine x_newSP (N := 161) (n := 27) dReader_init_40 rfl rfl rfl rfl ?_
  replace hF := hF.pushf (n := 27) (f := fun _ => 0) (by decide) rfl
  generalize upr _ 27 (fun _ => (0 : Int32)) = J at hF ⊢
  refine x_putSP (j := 4) fl_Reader_25 rfl dReader_init_42 (by decide) rfl rfl rfl (by decide) (by decide) (fun _ => rfl) (fun _ => rfl) ?_
  refine x_aload_n dReader_init_45 rfl ?_
  refine x_iconst (v := 0) dReader_init_46 rfl ?_
  refine x_putI fl_Reader_28 rfl dReader_init_47 (by decide) rfl rfl rfl rfl ?_
  rw [up2_id (hF.at (i := 23) (j := 5) (x := 0) rfl rfl rfl)]
  refine x_aload_n dReader_init_50 rfl ?_
  refine x_iconst (v := 0) dReader_init_51 rfl ?_
  refine x_putI fl_Reader_31 rfl dReader_init_52 (by decide) rfl rfl rfl rfl ?_
  rw [up2_id (hF.at (i := 23) (j := 6) (x := 0) rfl rfl rfl)]
  refine x_aload_n dReader_init_55 rfl ?_
  refine x_sipush (v := 160) dReader_init_56 rfl ?_
  refine x_newSP (N := 160) (n := 28) dReader_init_59 rfl rfl rfl rfl ?_
  replace hF := hF.pushf (n := 28) (f := fun _ => 0) (by decide) rfl
  generalize upr _ 28 (fun _ => (0 : Int32)) = J at hF ⊢
  refine x_putSP (j := 7) fl_Reader_34 rfl dReader_init_61 (by decide) rfl rfl rfl (by decide) (by decide) (fun _ => rfl) (fun _ => rfl) ?_
  refine x_aload_n dReader_init_64 rfl ?_
  refine x_iconst (v := 4) dReader_init_65 rfl ?_
  refine x_newSP (N := 4) (n := 29) dReader_init_66 rfl rfl rfl rfl ?_
  replace hF := hF.pushf (n := 29) (f := fun _ => 0) (by decide) rfl
  generalize upr _ 29 (fun _ => (0 : Int32)) = J at hF ⊢
  refine x_putSP (j := 8) fl_Reader_37 rfl dReader_init_68 (by decide) rfl rfl rfl (by decide) (by decide) (fun _ => rfl) (fun _ => rfl) ?_
  refine x_aload_n dReader_init_71 rfl ?_
  refine x_iconst (v := 0) dReader_init_72 rfl ?_
  refine x_putI fl_Reader_40 rfl dReader_init_73 (by decide) rfl rfl rfl rfl ?_
  rw [up2_id (hF.at (i := 23) (j := 9) (x := 0) rfl rfl rfl)]
  refine x_return dReader_init_76 rfl ?_
  have hp := h1 _ L hF
  rw [SP_close (by decide) (fun _ => rfl)]
  exact hp
set_option maxHeartbeats 4000000 in
set_option maxRecDepth 100000 in
theorem c_Texts_init : Con mTexts_init 2 4 1151 (spC 30 35 [] [(0, 5, 0)]) := by
  refine con_of_X rfl fun G as S I L Post hs => ?_
  obtain ⟨rfl, rfl, hz, h1⟩ := hs
  refine ⟨0, Nat.le_of_ble_eq_true rfl, ?_⟩
  show X mTexts_init G _ (SP 31 ((30, 0, 0) :: [(0, 5, 0)])) I L 0 [.ref 30] [] Post
  have hF : Fill 30 31 I I := Fill.start hz
  refine x_aload_n dTexts_init_0 rfl ?_
  refine x_objInit dTexts_init_1 ml_Texts_3 im_obj co_obj rfl rfl ?_
  refine x_aload_n dTexts_init_4 rfl ?_
  refine x_sipush (v := 960) dTexts_init_5 rfl ?_
  refine x_newSP (N := 960) (n := 31) dTexts_init_8 rfl rfl rfl rfl ?_
  replace hF := hF.pushf (n := 31) (f := fun _ => 0) (by decide) rfl
  generalize upr _ 31 (fun _ => (0 : Int32)) = J at hF ⊢
  refine x_putSP (j := 0) fl_Texts_9 rfl dTexts_init_10 (by decide) rfl rfl rfl (by decide) (by decide) (fun _ => rfl) (fun _ => rfl) ?_
  refine x_aload_n dTexts_init_13 rfl ?_
  refine x_bipush (v := 24) dTexts_init_14 rfl ?_
  refine x_newSP (N := 24) (n := 32) dTexts_init_16 rfl rfl rfl rfl ?_
  replace hF := hF.pushf (n := 32) (f := fun _ => 0) (by decide) rfl
  generalize upr _ 32 (fun _ => (0 : Int32)) = J at hF ⊢
  refine x_putSP (j := 1) fl_Texts_15 rfl dTexts_init_18 (by decide) rfl rfl rfl (by decide) (by decide) (fun _ => rfl) (fun _ => rfl) ?_
  refine x_aload_n dTexts_init_21 rfl ?_
  refine x_iconst (v := 0) dTexts_init_22 rfl ?_
  refine x_putI fl_Texts_18 rfl dTexts_init_23 (by decide) rfl rfl rfl rfl ?_
  rw [up2_id (hF.at (i := 30) (j := 2) (x := 0) rfl rfl rfl)]
  refine x_aload_n dTexts_init_26 rfl ?_
  refine x_iconst (v := 0) dTexts_init_27 rfl ?_
  refine x_putI fl_Texts_22 rfl dTexts_init_28 (by decide) rfl rfl rfl rfl ?_
  rw [up2_id (hF.at (i := 30) (j := 3) (x := 0) rfl rfl rfl)]
  refine x_aload_n dTexts_init_31 rfl ?_
  refine x_bipush (v := 6) dTexts_init_32 rfl ?_
  refine x_newSP (N := 6) (n := 33) dTexts_init_34 rfl rfl rfl rfl ?_
  replace hF := hF.pushf (n := 33) (f := fun _ => 0) (by decide) rfl
  generalize upr _ 33 (fun _ => (0 : Int32)) = J at hF ⊢
  refine x_putSP (j := 4) fl_Texts_25 rfl dTexts_init_36 (by decide) rfl rfl rfl (by decide) (by decide) (fun _ => rfl) (fun _ => rfl) ?_
  refine x_aload_n dTexts_init_39 rfl ?_
  refine x_sipush (v := 161) dTexts_init_40 rfl ?_
  refine x_newSP (N := 161) (n := 34) dTexts_init_43 rfl rfl rfl rfl ?_
  replace hF := hF.pushf (n := 34) (f := fun _ => 0) (by decide) rfl
  generalize upr _ 34 (fun _ => (0 : Int32)) = J at hF ⊢
  refine x_putSP (j := 5) fl_Texts_28 rfl dTexts_init_45 (by decide) rfl rfl rfl (by decide) (by decide) (fun _ => rfl) (fun _ => rfl) ?_
  refine x_return dTexts_init_48 rfl ?_
  have hp := h1 _ L hF
  rw [SP_close (by decide) (fun _ => rfl)]
  exact hp
set_option maxHeartbeats 4000000 in
set_option maxRecDepth 100000 in
theorem c_Ledger_init : Con mLedger_init 2 9 289 (spC 35 45 [.ref 1, .ref 4, .ref 13, .ref 18, .ref 30] [(0, 6, 0)]) := by
  refine con_of_X rfl fun G as S I L Post hs => ?_
  obtain ⟨rfl, rfl, hz, h1⟩ := hs
  refine ⟨0, Nat.le_of_ble_eq_true rfl, ?_⟩
  show X mLedger_init G _ (SP 36 ((35, 0, 0) :: [(0, 6, 0)])) I L 0 [.ref 35, .ref 1, .ref 4, .ref 13, .ref 18, .ref 30] [] Post
  have hF : Fill 35 36 I I := Fill.start hz
  refine x_aload_n dLedger_init_0 rfl ?_
  refine x_objInit dLedger_init_1 ml_Ledger_3 im_obj co_obj rfl rfl ?_
  refine x_aload_n dLedger_init_4 rfl ?_
  refine x_iconst (v := 0) dLedger_init_5 rfl ?_
  refine x_putI fl_Ledger_9 rfl dLedger_init_6 (by decide) rfl rfl rfl rfl ?_
  rw [up2_id (hF.at (i := 35) (j := 5) (x := 0) rfl rfl rfl)]
  refine x_aload_n dLedger_init_9 rfl ?_
  refine x_bipush (v := 88) dLedger_init_10 rfl ?_
  refine x_newSP (N := 88) (n := 36) dLedger_init_12 rfl rfl rfl rfl ?_
  replace hF := hF.pushf (n := 36) (f := fun _ => 0) (by decide) rfl
  generalize upr _ 36 (fun _ => (0 : Int32)) = J at hF ⊢
  refine x_putSQ (j := 6) fl_Ledger_15 rfl dLedger_init_14 (by decide) rfl rfl rfl rfl (by decide) (fun _ => rfl) (fun _ => rfl) ?_
  refine x_aload_n dLedger_init_17 rfl ?_
  refine x_bipush (v := 11) dLedger_init_18 rfl ?_
  refine x_newSP (N := 11) (n := 37) dLedger_init_20 rfl rfl rfl rfl ?_
  replace hF := hF.pushf (n := 37) (f := fun _ => 0) (by decide) rfl
  generalize upr _ 37 (fun _ => (0 : Int32)) = J at hF ⊢
  refine x_putSQ (j := 7) fl_Ledger_19 rfl dLedger_init_22 (by decide) rfl rfl rfl rfl (by decide) (fun _ => rfl) (fun _ => rfl) ?_
  refine x_aload_n dLedger_init_25 rfl ?_
  refine x_bipush (v := 88) dLedger_init_26 rfl ?_
  refine x_newSP (N := 88) (n := 38) dLedger_init_28 rfl rfl rfl rfl ?_
  replace hF := hF.pushf (n := 38) (f := fun _ => 0) (by decide) rfl
  generalize upr _ 38 (fun _ => (0 : Int32)) = J at hF ⊢
  refine x_putSQ (j := 8) fl_Ledger_22 rfl dLedger_init_30 (by decide) rfl rfl rfl rfl (by decide) (fun _ => rfl) (fun _ => rfl) ?_
  refine x_aload_n dLedger_init_33 rfl ?_
  refine x_bipush (v := 64) dLedger_init_34 rfl ?_
  refine x_newSP (N := 64) (n := 39) dLedger_init_36 rfl rfl rfl rfl ?_
  replace hF := hF.pushf (n := 39) (f := fun _ => 0) (by decide) rfl
  generalize upr _ 39 (fun _ => (0 : Int32)) = J at hF ⊢
  refine x_putSQ (j := 9) fl_Ledger_25 rfl dLedger_init_38 (by decide) rfl rfl rfl rfl (by decide) (fun _ => rfl) (fun _ => rfl) ?_
  refine x_aload_n dLedger_init_41 rfl ?_
  refine x_bipush (v := 8) dLedger_init_42 rfl ?_
  refine x_newSP (N := 8) (n := 40) dLedger_init_44 rfl rfl rfl rfl ?_
  replace hF := hF.pushf (n := 40) (f := fun _ => 0) (by decide) rfl
  generalize upr _ 40 (fun _ => (0 : Int32)) = J at hF ⊢
  refine x_putSQ (j := 10) fl_Ledger_28 rfl dLedger_init_46 (by decide) rfl rfl rfl rfl (by decide) (fun _ => rfl) (fun _ => rfl) ?_
  refine x_aload_n dLedger_init_49 rfl ?_
  refine x_bipush (v := 8) dLedger_init_50 rfl ?_
  refine x_newSP (N := 8) (n := 41) dLedger_init_52 rfl rfl rfl rfl ?_
  replace hF := hF.pushf (n := 41) (f := fun _ => 0) (by decide) rfl
  generalize upr _ 41 (fun _ => (0 : Int32)) = J at hF ⊢
  refine x_putSQ (j := 11) fl_Ledger_31 rfl dLedger_init_54 (by decide) rfl rfl rfl rfl (by decide) (fun _ => rfl) (fun _ => rfl) ?_
  refine x_aload_n dLedger_init_57 rfl ?_
  refine x_bipush (v := 8) dLedger_init_58 rfl ?_
  refine x_newSP (N := 8) (n := 42) dLedger_init_60 rfl rfl rfl rfl ?_
  replace hF := hF.pushf (n := 42) (f := fun _ => 0) (by decide) rfl
  generalize upr _ 42 (fun _ => (0 : Int32)) = J at hF ⊢
  refine x_putSQ (j := 12) fl_Ledger_34 rfl dLedger_init_62 (by decide) rfl rfl rfl rfl (by decide) (fun _ => rfl) (fun _ => rfl) ?_
  refine x_aload_n dLedger_init_65 rfl ?_
  refine x_bipush (v := 8) dLedger_init_66 rfl ?_
  refine x_newSP (N := 8) (n := 43) dLedger_init_68 rfl rfl rfl rfl ?_
  replace hF := hF.pushf (n := 43) (f := fun _ => 0) (by decide) rfl
  generalize upr _ 43 (fun _ => (0 : Int32)) = J at hF ⊢
  refine x_putSQ (j := 13) fl_Ledger_37 rfl dLedger_init_70 (by decide) rfl rfl rfl rfl (by decide) (fun _ => rfl) (fun _ => rfl) ?_
  refine x_aload_n dLedger_init_73 rfl ?_
  refine x_bipush (v := 6) dLedger_init_74 rfl ?_
  refine x_newSP (N := 6) (n := 44) dLedger_init_76 rfl rfl rfl rfl ?_
  replace hF := hF.pushf (n := 44) (f := fun _ => 0) (by decide) rfl
  generalize upr _ 44 (fun _ => (0 : Int32)) = J at hF ⊢
  refine x_putSQ (j := 14) fl_Ledger_40 rfl dLedger_init_78 (by decide) rfl rfl rfl rfl (by decide) (fun _ => rfl) (fun _ => rfl) ?_
  refine x_aload_n dLedger_init_81 rfl ?_
  refine x_aload_n dLedger_init_82 rfl ?_
  refine x_putSP (j := 0) fl_Ledger_43 rfl dLedger_init_83 (by decide) rfl rfl rfl (by decide) (by decide) (fun _ => rfl) (fun _ => rfl) ?_
  refine x_aload_n dLedger_init_86 rfl ?_
  refine x_aload_n dLedger_init_87 rfl ?_
  refine x_putSP (j := 1) fl_Ledger_47 rfl dLedger_init_88 (by decide) rfl rfl rfl (by decide) (by decide) (fun _ => rfl) (fun _ => rfl) ?_
  refine x_aload_n dLedger_init_91 rfl ?_
  refine x_aload_n dLedger_init_92 rfl ?_
  refine x_putSP (j := 2) fl_Ledger_51 rfl dLedger_init_93 (by decide) rfl rfl rfl (by decide) (by decide) (fun _ => rfl) (fun _ => rfl) ?_
  refine x_aload_n dLedger_init_96 rfl ?_
  refine x_aload dLedger_init_97 rfl ?_
  refine x_putSP (j := 3) fl_Ledger_55 rfl dLedger_init_99 (by decide) rfl rfl rfl (by decide) (by decide) (fun _ => rfl) (fun _ => rfl) ?_
  refine x_aload_n dLedger_init_102 rfl ?_
  refine x_aload dLedger_init_103 rfl ?_
  refine x_putSP (j := 4) fl_Ledger_59 rfl dLedger_init_105 (by decide) rfl rfl rfl (by decide) (by decide) (fun _ => rfl) (fun _ => rfl) ?_
  refine x_return dLedger_init_108 rfl ?_
  have hp := h1 _ L hF
  rw [SP_close (by decide) (fun _ => rfl)]
  exact hp
set_option maxHeartbeats 4000000 in
set_option maxRecDepth 100000 in
theorem c_Sayings_init2 : Con mSayings_init 2 4 44 (spC 49 54 [] [(45, 1, 0), (0, 7, 0)]) := by
  refine con_of_X rfl fun G as S I L Post hs => ?_
  obtain ⟨rfl, rfl, hz, h1⟩ := hs
  refine ⟨0, Nat.le_of_ble_eq_true rfl, ?_⟩
  show X mSayings_init G _ (SP 50 ((49, 0, 0) :: [(45, 1, 0), (0, 7, 0)])) I L 0 [.ref 49] [] Post
  have hF : Fill 49 50 I I := Fill.start hz
  refine x_aload_n dSayings_init_0 rfl ?_
  refine x_objInit dSayings_init_1 ml_Sayings_3 im_obj co_obj rfl rfl ?_
  refine x_aload_n dSayings_init_4 rfl ?_
  refine x_bipush (v := 11) dSayings_init_5 rfl ?_
  refine x_newSP (N := 11) (n := 50) dSayings_init_7 rfl rfl rfl rfl ?_
  replace hF := hF.pushf (n := 50) (f := fun _ => 0) (by decide) rfl
  generalize upr _ 50 (fun _ => (0 : Int32)) = J at hF ⊢
  refine x_putSP (j := 0) fl_Sayings_9 rfl dSayings_init_9 (by decide) rfl rfl rfl (by decide) (by decide) (fun _ => rfl) (fun _ => rfl) ?_
  refine x_aload_n dSayings_init_12 rfl ?_
  refine x_bipush (v := 11) dSayings_init_13 rfl ?_
  refine x_newSP (N := 11) (n := 51) dSayings_init_15 rfl rfl rfl rfl ?_
  replace hF := hF.pushf (n := 51) (f := fun _ => 0) (by decide) rfl
  generalize upr _ 51 (fun _ => (0 : Int32)) = J at hF ⊢
  refine x_putSP (j := 1) fl_Sayings_15 rfl dSayings_init_17 (by decide) rfl rfl rfl (by decide) (by decide) (fun _ => rfl) (fun _ => rfl) ?_
  refine x_aload_n dSayings_init_20 rfl ?_
  refine x_bipush (v := 11) dSayings_init_21 rfl ?_
  refine x_newSP (N := 11) (n := 52) dSayings_init_23 rfl rfl rfl rfl ?_
  replace hF := hF.pushf (n := 52) (f := fun _ => 0) (by decide) rfl
  generalize upr _ 52 (fun _ => (0 : Int32)) = J at hF ⊢
  refine x_putSP (j := 2) fl_Sayings_18 rfl dSayings_init_25 (by decide) rfl rfl rfl (by decide) (by decide) (fun _ => rfl) (fun _ => rfl) ?_
  refine x_aload_n dSayings_init_28 rfl ?_
  refine x_bipush (v := 11) dSayings_init_29 rfl ?_
  refine x_newSP (N := 11) (n := 53) dSayings_init_31 rfl rfl rfl rfl ?_
  replace hF := hF.pushf (n := 53) (f := fun _ => 0) (by decide) rfl
  generalize upr _ 53 (fun _ => (0 : Int32)) = J at hF ⊢
  refine x_putSP (j := 3) fl_Sayings_21 rfl dSayings_init_33 (by decide) rfl rfl rfl (by decide) (by decide) (fun _ => rfl) (fun _ => rfl) ?_
  refine x_aload_n dSayings_init_36 rfl ?_
  refine x_iconst (v := 0) dSayings_init_37 rfl ?_
  refine x_putI fl_Sayings_24 rfl dSayings_init_38 (by decide) rfl rfl rfl rfl ?_
  rw [up2_id (hF.at (i := 49) (j := 4) (x := 0) rfl rfl rfl)]
  refine x_return dSayings_init_41 rfl ?_
  have hp := h1 _ L hF
  rw [SP_close (by decide) (fun _ => rfl)]
  exact hp
set_option maxHeartbeats 4000000 in
set_option maxRecDepth 100000 in
theorem c_Town_init : Con mTown_init 3 2 42 (spC 1 4 [] [(0, 0, 0)]) := by
  refine con_of_X rfl fun G as S I L Post hs => ?_
  obtain ⟨rfl, rfl, hz, h1⟩ := hs
  refine ⟨2, Nat.le_of_ble_eq_true rfl, ?_⟩
  show X mTown_init G _ (SP 2 ((1, 0, 0) :: [(0, 0, 0)])) I L 0 [.ref 1, .null, .null] [] Post
  refine x_aload_n dTown_init_0 rfl ?_
  -- at 1: .invokespecial 3
  refine x_objInit dTown_init_1 ml_Town_3 im_obj co_obj rfl rfl ?_
  refine x_aload_n dTown_init_4 rfl ?_
  refine x_bipush (v := 36) dTown_init_5 rfl ?_
  -- at 7: .newarray .int
  refine x_newSP (N := 36) (n := 2) dTown_init_7 rfl rfl rfl rfl ?_
  refine x_putSP (j := 0) fl_Town_9 rfl dTown_init_9 (by decide) rfl rfl rfl (by decide) (by decide) (fun _ => rfl) (fun _ => rfl) ?_
  refine x_aload_n dTown_init_12 rfl ?_
  refine x_bipush (v := 6) dTown_init_13 rfl ?_
  -- at 15: .newarray .int
  refine x_newSP (N := 6) (n := 3) dTown_init_15 rfl rfl rfl rfl ?_
  refine x_putSP (j := 1) fl_Town_15 rfl dTown_init_17 (by decide) rfl rfl rfl (by decide) (by decide) (fun _ => rfl) (fun _ => rfl) ?_
  refine x_aload_n dTown_init_20 rfl ?_
  refine x_iconst (v := 2) dTown_init_21 rfl ?_
  refine x_putI fl_Town_18 rfl dTown_init_22 (by decide) rfl rfl rfl rfl ?_
  refine x_iconst (v := 0) dTown_init_25 rfl ?_
  refine x_istoren_1 dTown_init_26 rfl rfl ?_
  -- at 27: .iload_n 1
  have hJ : ∃ J : IM, (∀ i, i < 1 ∨ 4 ≤ i → J i = I i) ∧ J 1 = rowI 1 ∧ J 3 = rowI 3 ∧ up2 (upr (upr I 2 (fun _ => 0)) 3 (fun _ => 0)) 1 2 2 = upr J 2 (tw 0) := by
    refine ⟨upr (upr I 1 (rowI 1)) 3 (rowI 3), fun i hi => ?_, ?_, ?_, ?_⟩
    · rw [upr_n _ _ (by omega), upr_n _ _ (by omega)]
    · rw [upr_n _ _ (by decide), upr_s]
    · rw [upr_s]
    · funext i
      by_cases e1 : i = 1
      · subst e1
        rw [up2_s, upr_n _ _ (by decide), upr_n _ _ (by decide), upr_n _ _ (by decide), upr_n _ _ (by decide), upr_s, hz]
        funext j
        by_cases hj : j = 2
        · subst hj; rw [up1_s]; rfl
        · rw [up1_n _ _ hj]
          show (0 : Int32) = if j = 2 then 2 else 0
          rw [if_neg hj]
      · rw [up2_n _ _ _ e1]
        by_cases e2 : i = 3
        · subst e2
          rw [upr_s, upr_n _ _ (by decide), upr_s]
          rfl
        · rw [upr_n _ _ e2]
          by_cases e3 : i = 2
          · subst e3
            rw [upr_s, upr_s, tw_0]
          · rw [upr_n _ _ e3, upr_n _ _ e3, upr_n _ _ e2, upr_n _ _ e1]
  obtain ⟨J, j1, j2, j3, j4⟩ := hJ
  rw [j4]
  have inner : ∀ u, u < 6 → (∀ a2 : Value, X mTown_init G (3, 0, 0) (SP 4 ((1, 2, 0) :: [(0, 0, 0)])) (upr J 2 (tw (u * 6 + 6))) L 64 [.ref 1, .int (nI u), a2] [] Post) → ∀ (r v : Nat), v + r = 6 → X mTown_init G (3, 0, 0) (SP 4 ((1, 2, 0) :: [(0, 0, 0)])) (upr J 2 (tw (u * 6 + v))) L 35 [.ref 1, .int (nI u), .int (nI v)] [] Post := by
    intro u hu hc r
    induction r with
    | zero =>
      intro v hv
      obtain rfl : v = 6 := by omega
      refine x_iload_n dTown_init_35 rfl ?_
      refine x_bipush (v := 6) dTown_init_36 rfl ?_
      -- at 38: .if_icmp .ge 26
      refine x_icmp_ge (tgt := 64) dTown_init_38 (by decide) (fun _ => ?_) (fun h => absurd (Int32.le_refl _) h)
      exact hc _
    | succ r ih =>
      intro v hv
      refine x_iload_n dTown_init_35 rfl ?_
      refine x_bipush (v := 6) dTown_init_36 rfl ?_
      -- at 38: .if_icmp .ge 26
      refine x_icmp_ge (tgt := 64) dTown_init_38 (by decide) (fun h => absurd h (nI_ge (b := 6) (by omega) (by omega))) (fun _ => ?_)
      refine x_aload_n dTown_init_41 rfl ?_
      refine x_getR fl_Town_9 rfl dTown_init_42 rfl rfl rfl ?_
      refine x_iload_n dTown_init_45 rfl ?_
      refine x_bipush (v := 6) dTown_init_46 rfl ?_
      refine x_imul dTown_init_48 ?_
      refine x_iload_n dTown_init_49 rfl ?_
      refine x_iadd dTown_init_50 ?_
      refine x_iload_n dTown_init_51 rfl ?_
      refine x_iload_n dTown_init_52 rfl ?_
      refine x_isub dTown_init_53 ?_
      -- at 54: .invokestatic 22
      refine x_mabs dTown_init_54 ml_Town_22 st_abs it_Math co_abs rfl rfl ?_
      rw [tw_v u v hu (by omega)]
      refine x_iastJ (j := u * 6 + v) dTown_init_57 rfl rfl (by first | rfl | (simp only [← nI_add, ← pk_mul]; rfl)) (by omega) ?_
      rw [tw_s]
      refine x_iincp_2 dTown_init_58 rfl rfl ?_
      refine x_goto (tgt := 35) dTown_init_61 (by decide) ?_
      -- at 35: .iload_n 2
      rw [nI_1]
      exact ih (v + 1) (by omega)
  have outer : ∀ (r u : Nat), u + r = 6 → ∀ a2 : Value, X mTown_init G (3, 0, 0) (SP 4 ((1, 2, 0) :: [(0, 0, 0)])) (upr J 2 (tw (u * 6))) L 27 [.ref 1, .int (nI u), a2] [] Post := by
    intro r
    induction r with
    | zero =>
      intro u hu a2
      obtain rfl : u = 6 := by omega
      refine x_iload_n dTown_init_27 rfl ?_
      refine x_bipush (v := 6) dTown_init_28 rfl ?_
      -- at 30: .if_icmp .ge 40
      refine x_icmp_ge (tgt := 70) dTown_init_30 (by decide) (fun _ => ?_) (fun h => absurd (Int32.le_refl _) h)
      refine x_return dTown_init_70 rfl ?_
      have hp := h1 (upr J 2 (tw (6 * 6))) L ⟨fun i hi => by rw [upr_n _ _ (by omega)]; exact j1 i hi, fun i hi1 hi2 => by
        rcases (show i = 1 ∨ i = 2 ∨ i = 3 by omega) with rfl | rfl | rfl
        · rw [upr_n _ _ (by decide)]; exact j2
        · rw [upr_s, tw_36]; rfl
        · rw [upr_n _ _ (by decide)]; exact j3⟩
      rw [SP_close (by decide) (fun _ => rfl)]
      exact hp
    | succ r ih =>
      intro u hu a2
      refine x_iload_n dTown_init_27 rfl ?_
      refine x_bipush (v := 6) dTown_init_28 rfl ?_
      -- at 30: .if_icmp .ge 40
      refine x_icmp_ge (tgt := 70) dTown_init_30 (by decide) (fun h => absurd h (nI_ge (b := 6) (by omega) (by omega))) (fun _ => ?_)
      refine x_iconst (v := 0) dTown_init_33 rfl ?_
      refine x_istoren_2 dTown_init_34 rfl rfl ?_
      -- at 35: .iload_n 2
      refine inner u (by omega) (fun a2 => ?_) 6 0 rfl
      refine x_iincp_1 dTown_init_64 rfl rfl ?_
      refine x_goto (tgt := 27) dTown_init_67 (by decide) ?_
      -- at 27: .iload_n 1
      rw [nI_1, show u * 6 + 6 = (u + 1) * 6 by omega]
      exact ih (u + 1) (by omega) a2
  exact outer 6 0 rfl _
set_option maxHeartbeats 4000000 in
set_option maxRecDepth 100000 in
theorem c_Town_init2 : Con mTown_init 3 2 42 (spC 46 49 [] [(45, 0, 0), (0, 7, 0)]) := by
  refine con_of_X rfl fun G as S I L Post hs => ?_
  obtain ⟨rfl, rfl, hz, h1⟩ := hs
  refine ⟨2, Nat.le_of_ble_eq_true rfl, ?_⟩
  show X mTown_init G _ (SP 47 ((46, 0, 0) :: [(45, 0, 0), (0, 7, 0)])) I L 0 [.ref 46, .null, .null] [] Post
  refine x_aload_n dTown_init_0 rfl ?_
  -- at 1: .invokespecial 3
  refine x_objInit dTown_init_1 ml_Town_3 im_obj co_obj rfl rfl ?_
  refine x_aload_n dTown_init_4 rfl ?_
  refine x_bipush (v := 36) dTown_init_5 rfl ?_
  -- at 7: .newarray .int
  refine x_newSP (N := 36) (n := 47) dTown_init_7 rfl rfl rfl rfl ?_
  refine x_putSP (j := 0) fl_Town_9 rfl dTown_init_9 (by decide) rfl rfl rfl (by decide) (by decide) (fun _ => rfl) (fun _ => rfl) ?_
  refine x_aload_n dTown_init_12 rfl ?_
  refine x_bipush (v := 6) dTown_init_13 rfl ?_
  -- at 15: .newarray .int
  refine x_newSP (N := 6) (n := 48) dTown_init_15 rfl rfl rfl rfl ?_
  refine x_putSP (j := 1) fl_Town_15 rfl dTown_init_17 (by decide) rfl rfl rfl (by decide) (by decide) (fun _ => rfl) (fun _ => rfl) ?_
  refine x_aload_n dTown_init_20 rfl ?_
  refine x_iconst (v := 2) dTown_init_21 rfl ?_
  refine x_putI fl_Town_18 rfl dTown_init_22 (by decide) rfl rfl rfl rfl ?_
  refine x_iconst (v := 0) dTown_init_25 rfl ?_
  refine x_istoren_1 dTown_init_26 rfl rfl ?_
  -- at 27: .iload_n 1
  have hJ : ∃ J : IM, (∀ i, i < 46 ∨ 49 ≤ i → J i = I i) ∧ J 46 = rowI 46 ∧ J 48 = rowI 48 ∧ up2 (upr (upr I 47 (fun _ => 0)) 48 (fun _ => 0)) 46 2 2 = upr J 47 (tw 0) := by
    refine ⟨upr (upr I 46 (rowI 46)) 48 (rowI 48), fun i hi => ?_, ?_, ?_, ?_⟩
    · rw [upr_n _ _ (by omega), upr_n _ _ (by omega)]
    · rw [upr_n _ _ (by decide), upr_s]
    · rw [upr_s]
    · funext i
      by_cases e1 : i = 46
      · subst e1
        rw [up2_s, upr_n _ _ (by decide), upr_n _ _ (by decide), upr_n _ _ (by decide), upr_n _ _ (by decide), upr_s, hz]
        funext j
        by_cases hj : j = 2
        · subst hj; rw [up1_s]; rfl
        · rw [up1_n _ _ hj]
          show (0 : Int32) = if j = 2 then 2 else 0
          rw [if_neg hj]
      · rw [up2_n _ _ _ e1]
        by_cases e2 : i = 48
        · subst e2
          rw [upr_s, upr_n _ _ (by decide), upr_s]
          rfl
        · rw [upr_n _ _ e2]
          by_cases e3 : i = 47
          · subst e3
            rw [upr_s, upr_s, tw_0]
          · rw [upr_n _ _ e3, upr_n _ _ e3, upr_n _ _ e2, upr_n _ _ e1]
  obtain ⟨J, j1, j2, j3, j4⟩ := hJ
  rw [j4]
  have inner : ∀ u, u < 6 → (∀ a2 : Value, X mTown_init G (3, 0, 0) (SP 49 ((46, 2, 0) :: [(45, 0, 0), (0, 7, 0)])) (upr J 47 (tw (u * 6 + 6))) L 64 [.ref 46, .int (nI u), a2] [] Post) → ∀ (r v : Nat), v + r = 6 → X mTown_init G (3, 0, 0) (SP 49 ((46, 2, 0) :: [(45, 0, 0), (0, 7, 0)])) (upr J 47 (tw (u * 6 + v))) L 35 [.ref 46, .int (nI u), .int (nI v)] [] Post := by
    intro u hu hc r
    induction r with
    | zero =>
      intro v hv
      obtain rfl : v = 6 := by omega
      refine x_iload_n dTown_init_35 rfl ?_
      refine x_bipush (v := 6) dTown_init_36 rfl ?_
      -- at 38: .if_icmp .ge 26
      refine x_icmp_ge (tgt := 64) dTown_init_38 (by decide) (fun _ => ?_) (fun h => absurd (Int32.le_refl _) h)
      exact hc _
    | succ r ih =>
      intro v hv
      refine x_iload_n dTown_init_35 rfl ?_
      refine x_bipush (v := 6) dTown_init_36 rfl ?_
      -- at 38: .if_icmp .ge 26
      refine x_icmp_ge (tgt := 64) dTown_init_38 (by decide) (fun h => absurd h (nI_ge (b := 6) (by omega) (by omega))) (fun _ => ?_)
      refine x_aload_n dTown_init_41 rfl ?_
      refine x_getR fl_Town_9 rfl dTown_init_42 rfl rfl rfl ?_
      refine x_iload_n dTown_init_45 rfl ?_
      refine x_bipush (v := 6) dTown_init_46 rfl ?_
      refine x_imul dTown_init_48 ?_
      refine x_iload_n dTown_init_49 rfl ?_
      refine x_iadd dTown_init_50 ?_
      refine x_iload_n dTown_init_51 rfl ?_
      refine x_iload_n dTown_init_52 rfl ?_
      refine x_isub dTown_init_53 ?_
      -- at 54: .invokestatic 22
      refine x_mabs dTown_init_54 ml_Town_22 st_abs it_Math co_abs rfl rfl ?_
      rw [tw_v u v hu (by omega)]
      refine x_iastJ (j := u * 6 + v) dTown_init_57 rfl rfl (by first | rfl | (simp only [← nI_add, ← pk_mul]; rfl)) (by omega) ?_
      rw [tw_s]
      refine x_iincp_2 dTown_init_58 rfl rfl ?_
      refine x_goto (tgt := 35) dTown_init_61 (by decide) ?_
      -- at 35: .iload_n 2
      rw [nI_1]
      exact ih (v + 1) (by omega)
  have outer : ∀ (r u : Nat), u + r = 6 → ∀ a2 : Value, X mTown_init G (3, 0, 0) (SP 49 ((46, 2, 0) :: [(45, 0, 0), (0, 7, 0)])) (upr J 47 (tw (u * 6))) L 27 [.ref 46, .int (nI u), a2] [] Post := by
    intro r
    induction r with
    | zero =>
      intro u hu a2
      obtain rfl : u = 6 := by omega
      refine x_iload_n dTown_init_27 rfl ?_
      refine x_bipush (v := 6) dTown_init_28 rfl ?_
      -- at 30: .if_icmp .ge 40
      refine x_icmp_ge (tgt := 70) dTown_init_30 (by decide) (fun _ => ?_) (fun h => absurd (Int32.le_refl _) h)
      refine x_return dTown_init_70 rfl ?_
      have hp := h1 (upr J 47 (tw (6 * 6))) L ⟨fun i hi => by rw [upr_n _ _ (by omega)]; exact j1 i hi, fun i hi1 hi2 => by
        rcases (show i = 46 ∨ i = 47 ∨ i = 48 by omega) with rfl | rfl | rfl
        · rw [upr_n _ _ (by decide)]; exact j2
        · rw [upr_s, tw_36]; rfl
        · rw [upr_n _ _ (by decide)]; exact j3⟩
      rw [SP_close (by decide) (fun _ => rfl)]
      exact hp
    | succ r ih =>
      intro u hu a2
      refine x_iload_n dTown_init_27 rfl ?_
      refine x_bipush (v := 6) dTown_init_28 rfl ?_
      -- at 30: .if_icmp .ge 40
      refine x_icmp_ge (tgt := 70) dTown_init_30 (by decide) (fun h => absurd h (nI_ge (b := 6) (by omega) (by omega))) (fun _ => ?_)
      refine x_iconst (v := 0) dTown_init_33 rfl ?_
      refine x_istoren_2 dTown_init_34 rfl rfl ?_
      -- at 35: .iload_n 2
      refine inner u (by omega) (fun a2 => ?_) 6 0 rfl
      refine x_iincp_1 dTown_init_64 rfl rfl ?_
      refine x_goto (tgt := 27) dTown_init_67 (by decide) ?_
      -- at 27: .iload_n 1
      rw [nI_1, show u * 6 + 6 = (u + 1) * 6 by omega]
      exact ih (u + 1) (by omega) a2
  exact outer 6 0 rfl _
set_option maxHeartbeats 4000000 in
set_option maxRecDepth 100000 in
theorem c_Image_init : Con mImage_init 4 9 102 (spC 45 55 [] [(0, 7, 0)]) := by
  refine con_of_X rfl fun G as S I L Post hs => ?_
  obtain ⟨rfl, rfl, hz, h1⟩ := hs
  refine ⟨0, Nat.le_of_ble_eq_true rfl, ?_⟩
  show X mImage_init G _ (SP 46 ((45, 0, 0) :: [(0, 7, 0)])) I L 0 [.ref 45] [] Post
  have hF : Fill 45 46 I I := Fill.start hz
  refine x_aload_n dImage_init_0 rfl ?_
  refine x_objInit dImage_init_1 ml_Image_3 im_obj co_obj rfl rfl ?_
  refine x_aload_n dImage_init_4 rfl ?_
  refine x_newOb (ci := 7) (nq := 3) (n := 46) dImage_init_5 (q := _) rfl cl_Image_9 in_Town it_Town rfl rfl rfl ?_
  refine x_dup dImage_init_8 rfl ?_
  refine x_callI_0 c_Town_init2 ok_Town_init rfl ml_Image_11 dImage_init_9 rfl rfl rfl rfl rfl ?_
  refine ⟨rfl, rfl, upr_s _ _ _, fun J2 L2 hF2 => ?_⟩
  replace hF := hF.app hF2 (by decide) (by decide)
  clear hF2
  refine x_putSP (j := 0) fl_Image_12 rfl dImage_init_12 (by decide) rfl rfl rfl (by decide) (by decide) (fun _ => rfl) (fun _ => rfl) ?_
  refine x_aload_n dImage_init_15 rfl ?_
  refine x_newOb (ci := 4) (nq := 5) (n := 49) dImage_init_16 (q := _) rfl cl_Image_18 in_Sayings it_Sayings rfl rfl rfl ?_
  refine x_dup dImage_init_19 rfl ?_
  refine x_callIN_0 c_Sayings_init2 ok_Sayings_init rfl nw_Image_20 dImage_init_20 rfl rfl rfl rfl rfl ?_
  refine ⟨rfl, rfl, upr_s _ _ _, fun J2 L2 hF2 => ?_⟩
  replace hF := hF.app hF2 (by decide) (by decide)
  clear hF2
  refine x_putSP (j := 1) fl_Image_21 rfl dImage_init_23 (by decide) rfl rfl rfl (by decide) (by decide) (fun _ => rfl) (fun _ => rfl) ?_
  refine x_aload_n dImage_init_26 rfl ?_
  refine x_bipush (v := 8) dImage_init_27 rfl ?_
  refine x_newSP (N := 8) (n := 54) dImage_init_29 rfl rfl rfl rfl ?_
  replace hF := hF.pushf (n := 54) (f := fun _ => 0) (by decide) rfl
  generalize upr _ 54 (fun _ => (0 : Int32)) = J at hF ⊢
  refine x_putSP (j := 2) fl_Image_25 rfl dImage_init_31 (by decide) rfl rfl rfl (by decide) (by decide) (fun _ => rfl) (fun _ => rfl) ?_
  refine x_aload_n dImage_init_34 rfl ?_
  refine x_iconst (v := 0) dImage_init_35 rfl ?_
  refine x_putI fl_Image_29 rfl dImage_init_36 (by decide) rfl rfl rfl rfl ?_
  rw [up2_id (hF.at (i := 45) (j := 3) (x := 0) rfl rfl rfl)]
  refine x_aload_n dImage_init_39 rfl ?_
  refine x_iconst (v := 0) dImage_init_40 rfl ?_
  refine x_putI fl_Image_33 rfl dImage_init_41 (by decide) rfl rfl rfl rfl ?_
  rw [up2_id (hF.at (i := 45) (j := 4) (x := 0) rfl rfl rfl)]
  refine x_aload_n dImage_init_44 rfl ?_
  refine x_iconst (v := 0) dImage_init_45 rfl ?_
  refine x_putI fl_Image_36 rfl dImage_init_46 (by decide) rfl rfl rfl rfl ?_
  rw [up2_id (hF.at (i := 45) (j := 5) (x := 0) rfl rfl rfl)]
  refine x_return dImage_init_49 rfl ?_
  have hp := h1 _ L2 hF
  rw [SP_close (by decide) (fun _ => rfl)]
  exact hp
set_option maxHeartbeats 4000000 in
set_option maxRecDepth 100000 in
theorem c_Sheets_init : Con mSheets_init 2 3 168 (spC 55 59 [] [(0, 8, 0)]) := by
  refine con_of_X rfl fun G as S I L Post hs => ?_
  obtain ⟨rfl, rfl, hz, h1⟩ := hs
  refine ⟨0, Nat.le_of_ble_eq_true rfl, ?_⟩
  show X mSheets_init G _ (SP 56 ((55, 0, 0) :: [(0, 8, 0)])) I L 0 [.ref 55] [] Post
  have hF : Fill 55 56 I I := Fill.start hz
  refine x_aload_n dSheets_init_0 rfl ?_
  refine x_objInit dSheets_init_1 ml_Sheets_3 im_obj co_obj rfl rfl ?_
  refine x_aload_n dSheets_init_4 rfl ?_
  refine x_iconst (v := 4) dSheets_init_5 rfl ?_
  refine x_newSP (N := 4) (n := 56) dSheets_init_6 rfl rfl rfl rfl ?_
  refine x_dup dSheets_init_8 rfl ?_
  refine x_iconst (v := 0) dSheets_init_9 rfl ?_
  refine x_iconst (v := -1) dSheets_init_10 rfl ?_
  refine x_iastJ (j := 0) dSheets_init_11 rfl rfl rfl (by decide) ?_
  rw [show upr _ 56 (fun _ => (0 : Int32)) = upr _ 56 (fL (List.take 0 m4L)) from rfl]
  rw [fL_t (l := m4L) (i := 0) rfl]
  refine x_dup dSheets_init_12 rfl ?_
  refine x_iconst (v := 1) dSheets_init_13 rfl ?_
  refine x_iconst (v := -1) dSheets_init_14 rfl ?_
  refine x_iastJ (j := 1) dSheets_init_15 rfl rfl rfl (by decide) ?_
  rw [fL_t (l := m4L) (i := 1) rfl]
  refine x_dup dSheets_init_16 rfl ?_
  refine x_iconst (v := 2) dSheets_init_17 rfl ?_
  refine x_iconst (v := -1) dSheets_init_18 rfl ?_
  refine x_iastJ (j := 2) dSheets_init_19 rfl rfl rfl (by decide) ?_
  rw [fL_t (l := m4L) (i := 2) rfl]
  refine x_dup dSheets_init_20 rfl ?_
  refine x_iconst (v := 3) dSheets_init_21 rfl ?_
  refine x_iconst (v := -1) dSheets_init_22 rfl ?_
  refine x_iastJ (j := 3) dSheets_init_23 rfl rfl rfl (by decide) ?_
  rw [fL_t (l := m4L) (i := 3) rfl]
  replace hF := hF.pushf (n := 56) (f := fL (List.take 4 m4L)) (by decide) rfl
  generalize upr _ 56 (fL (List.take 4 m4L)) = J at hF ⊢
  refine x_putSP (j := 0) fl_Sheets_9 rfl dSheets_init_24 (by decide) rfl rfl rfl (by decide) (by decide) (fun _ => rfl) (fun _ => rfl) ?_
  refine x_aload_n dSheets_init_27 rfl ?_
  refine x_iconst (v := 4) dSheets_init_28 rfl ?_
  refine x_newSP (N := 4) (n := 57) dSheets_init_29 rfl rfl rfl rfl ?_
  replace hF := hF.pushf (n := 57) (f := fun _ => 0) (by decide) rfl
  generalize upr _ 57 (fun _ => (0 : Int32)) = J at hF ⊢
  refine x_putSP (j := 1) fl_Sheets_15 rfl dSheets_init_31 (by decide) rfl rfl rfl (by decide) (by decide) (fun _ => rfl) (fun _ => rfl) ?_
  refine x_aload_n dSheets_init_34 rfl ?_
  refine x_sipush (v := 160) dSheets_init_35 rfl ?_
  refine x_newSP (N := 160) (n := 58) dSheets_init_38 rfl rfl rfl rfl ?_
  replace hF := hF.pushf (n := 58) (f := fun _ => 0) (by decide) rfl
  generalize upr _ 58 (fun _ => (0 : Int32)) = J at hF ⊢
  refine x_putSP (j := 2) fl_Sheets_18 rfl dSheets_init_40 (by decide) rfl rfl rfl (by decide) (by decide) (fun _ => rfl) (fun _ => rfl) ?_
  refine x_return dSheets_init_43 rfl ?_
  have hp := h1 _ L hF
  rw [SP_close (by decide) (fun _ => rfl)]
  exact hp
