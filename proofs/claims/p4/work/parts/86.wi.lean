/-! the first state; the class's own constructor -/
theorem lawL_eq : lawL = stB.getD 0 [] := by decide
def LA : List Int32 := [100040, 0, 100012, 18, 16, 1, 100015, 18, 17, 2, 100003, 18, 16]
def LB : List Int32 := [3]
def LC : List Int32 := [3, 5, 18]
theorem law_pt : pt (tokS (fL lawL) 75 0) = .inr (LA, LB, LC) := by decide +kernel
/-- no PEOPLE, PROMISES, SAYINGS, TEXTS -/
def EZ : IM := fun a => match a with
  | 0 => fa0 | 19 => fa0 | 26 => fL m4L | 29 => (fun j => if j = 0 ∨ j = 8 then 2 else 0) | _ => fun _ => 0
/-- a new object -/
def E0 : IM := addT EZ 0 LA LB LC
/-- THE TAPE as far as m -/
def tpE (J : IM) (m : Nat) : IM := up2 (upr J 24 (fL (lawL.take m))) 23 1 (nI m)
theorem tpE_s {J : IM} {m : Nat} {b : Int32} (h : lawL[m]? = some b) : up2 (up2 (tpE J m) 24 m b) 23 1 (nI (m + 1)) = tpE J (m + 1) := by
  unfold tpE
  rw [← fL_t (I := J) (n := 24) h]
  funext x
  by_cases h1 : x = 23
  · subst h1
    rw [up2_s, up2_s, up2_n _ _ _ (by decide), up2_s, upr_n _ _ (by decide), up2_n _ _ _ (by decide), upr_n _ _ (by decide)]
    funext j
    by_cases hj : j = 1
    · subst hj; rw [up1_s, up1_s]
    · rw [up1_n _ _ hj, up1_n _ _ hj, up1_n _ _ hj]
  · rw [up2_n _ _ _ h1, up2_n _ _ _ h1]
    by_cases h2 : x = 24
    · subst h2
      rw [up2_s, up2_s, up2_n _ _ _ (by decide)]
    · rw [up2_n _ _ _ h2, up2_n _ _ _ h1, up2_n _ _ _ h2]
theorem tpE_0 {J : IM} (h1 : J 24 = fun _ => 0) (h2 : J 23 1 = 0) : J = tpE J 0 := by
  unfold tpE
  have e : upr J 24 (fL (lawL.take 0)) = J := by
    funext x
    by_cases hx : x = 24
    · subst hx; rw [upr_s, h1]; rfl
    · rw [upr_n _ _ hx]
  rw [e]
  exact (up2_id h2).symm
theorem mk_z {n : Nat} {f : Nat → Int32} (h : n = 0) : mk n f = fun _ => 0 := by
  subst h
  funext i
  simp [mk]
theorem cE_first {I0 J : IM} (h : Fill 0 59 I0 J) : clr (cE (tpE J 75)) = EZ := by
  have r : ∀ i, i < 59 → i ≠ 23 → i ≠ 24 → tpE J 75 i = rowI i := fun i h1 h2 h3 => by
    unfold tpE
    rw [up2_n _ _ _ h2, upr_n _ _ h3]
    exact h.2 i (Nat.zero_le _) h1
  have c0 : ∀ i j, i < 59 → i ≠ 23 → i ≠ 24 → rowI i j = 0 → cl (tpE J 75 i j) = 0 := fun i j h1 h2 h3 h4 => by
    rw [r i h1 h2 h3, h4]
    rfl
  funext x
  unfold clr
  by_cases e18 : x = 18
  · subst e18
    rw [upr_s]
    rfl
  rw [upr_n _ _ e18]
  by_cases e29 : x = 29
  · subst e29
    rw [up2_s]
    funext j
    by_cases e6 : j = 6
    · subst e6
      rw [up1_s]
      rfl
    · rw [up1_n _ _ e6]
      show cSc (tpE J 75) j = if j = 0 ∨ j = 8 then 2 else 0
      unfold cSc
      rw [r 1 (by decide) (by decide) (by decide), r 4 (by decide) (by decide) (by decide), r 13 (by decide) (by decide) (by decide), r 18 (by decide) (by decide) (by decide), r 30 (by decide) (by decide) (by decide), r 45 (by decide) (by decide) (by decide), r 46 (by decide) (by decide) (by decide), r 49 (by decide) (by decide) (by decide)]
      match j with
      | 0 => rfl
      | 1 => rfl
      | 2 => rfl
      | 3 => rfl
      | 4 => rfl
      | 5 => rfl
      | 6 => exact absurd rfl e6
      | 7 => rfl
      | 8 => rfl
      | 9 => rfl
      | 10 => rfl
      | 11 => rfl
      | n + 12 => exact (if_neg (by omega)).symm
  rw [up2_n _ _ _ e29]
  match x with
  | 0 => exact r 2 (by decide) (by decide) (by decide)
  | 1 => exact r 3 (by decide) (by decide) (by decide)
  | 2 => exact r 5 (by decide) (by decide) (by decide)
  | 3 => exact r 6 (by decide) (by decide) (by decide)
  | 4 => exact r 7 (by decide) (by decide) (by decide)
  | 5 => exact r 8 (by decide) (by decide) (by decide)
  | 6 => exact r 9 (by decide) (by decide) (by decide)
  | 7 => exact r 10 (by decide) (by decide) (by decide)
  | 8 => exact r 11 (by decide) (by decide) (by decide)
  | 9 => exact mk_z (c0 4 8 (by decide) (by decide) (by decide) rfl)
  | 10 => exact r 14 (by decide) (by decide) (by decide)
  | 11 => exact r 15 (by decide) (by decide) (by decide)
  | 12 => exact r 16 (by decide) (by decide) (by decide)
  | 13 => exact r 17 (by decide) (by decide) (by decide)
  | 14 => exact mk_z (c0 18 4 (by decide) (by decide) (by decide) rfl)
  | 15 => exact mk_z (c0 18 4 (by decide) (by decide) (by decide) rfl)
  | 16 => exact mk_z (c0 18 4 (by decide) (by decide) (by decide) rfl)
  | 17 => exact mk_z (c0 18 4 (by decide) (by decide) (by decide) rfl)
  | 18 => exact absurd rfl e18
  | 19 => exact r 47 (by decide) (by decide) (by decide)
  | 20 => exact r 48 (by decide) (by decide) (by decide)
  | 21 => exact mk_z (c0 45 3 (by decide) (by decide) (by decide) rfl)
  | 22 => exact mk_z (c0 49 4 (by decide) (by decide) (by decide) rfl)
  | 23 => exact mk_z (c0 49 4 (by decide) (by decide) (by decide) rfl)
  | 24 => exact mk_z (c0 49 4 (by decide) (by decide) (by decide) rfl)
  | 25 => exact mk_z (c0 49 4 (by decide) (by decide) (by decide) rfl)
  | 26 => exact r 56 (by decide) (by decide) (by decide)
  | 27 => exact r 57 (by decide) (by decide) (by decide)
  | 28 => exact r 58 (by decide) (by decide) (by decide)
  | 29 => exact absurd rfl e29
  | 30 => exact mk_z (by rw [c0 30 2 (by decide) (by decide) (by decide) rfl])
  | 31 =>
    funext j
    show (if j / 200 < cl (tpE J 75 30 2) ∧ j % 200 < cl (tpE J 75 32 (4 * (j / 200) + 3)) then enc (tpE J 75 31 (160 * (j / 200) + j % 200)) else 0) = 0
    exact if_neg (fun y => by
      have := y.1
      rw [c0 30 2 (by decide) (by decide) (by decide) rfl] at this
      omega)
  | n + 32 => rfl
def sp_W_init : SpT := fun as S I L Post => as = [.ref 0] ∧ S = SP 1 [(0, 0, 0)] ∧ I 0 = (fun _ => 0) ∧ ∀ (I' : IM) (L' : LM), cE I' = E0 → Post none S5 I' L'
set_option maxHeartbeats 4000000 in
set_option maxRecDepth 100000 in
theorem c_W_init : Con mW_init 82 58 2761 sp_W_init := by
  refine con_of_X rfl fun G as S I L Post hs => ?_
  obtain ⟨rfl, rfl, hz, h1⟩ := hs
  refine ⟨1, Nat.le_of_ble_eq_true rfl, ?_⟩
  show X mW_init G _ (SP 1 [(0, 0, 0)]) I L 0 [.ref 0, .null] [] Post
  have hF : Fill 0 1 I I := Fill.start hz
  have fin : ∀ (J : IM) (LL : LM), Fill 0 59 I J → ∀ (r m : Nat), m + r = 75 → X mW_init G (82, 0, 0) S5 (tpE J m) LL 125 [.ref 0, .int (nI m)] [] Post := by
    intro J LL hF r
    induction r with
    | zero =>
      intro m hm
      obtain rfl : m = 75 := by omega
      refine x_iload_n dW_init_125 rfl ?_
      refine x_ldcS (i := 0) dW_init_126 rfl rfl rfl ?_
      -- at 128: .invokevirtual 76
      refine x_callT (As := []) (rest := [.int (nI 75)]) c_String_length ok_String_length ml_W_76 dW_init_128 rfl rfl rfl (by decide) rfl rfl ?_
      refine ⟨0, rfl, by decide, ?_⟩
      refine x_icmp_ge (tgt := 153) dW_init_131 (by decide) (fun _ => ?_) (fun h => absurd (Int32.le_refl _) h)
      refine x_aload_n dW_init_153 rfl ?_
      refine x_getR fl_W_40 rfl dW_init_154 rfl rfl rfl ?_
      -- at 157: .invokevirtual 90
      refine x_callV_0 c_Reader_reads5 ok_Reader_reads ml_W_90 dW_init_157 rfl rfl rfl rfl rfl ?_
      have ht24 : tpE J 75 24 = fL lawL := by
        unfold tpE
        rw [up2_n _ _ _ (by decide), upr_s]
        rfl
      have ht23 : tpE J 75 23 1 = nI 75 := by
        unfold tpE
        rw [up2_s, up1_s]
      refine ⟨75, rfl, rfl, ht23, by decide, fun a b c hp I' hFr h23 h29 hc hn wa wb wc => ?_, fun q hp => ?_⟩
      · rw [ht24, law_pt] at hp
        injection hp with hp
        injection hp with ha hp
        injection hp with hb hp
        subst ha hb hp
        refine x_if_eq (tgt := 175) dW_init_160 (by decide) (fun h => absurd h (by decide)) (fun _ => ?_)
        refine x_aload_n dW_init_163 rfl ?_
        refine x_getR fl_W_47 rfl dW_init_164 rfl rfl rfl ?_
        refine x_aload_n dW_init_167 rfl ?_
        refine x_getR fl_W_40 rfl dW_init_168 rfl rfl rfl ?_
        -- at 171: .invokevirtual 94
        have ht30 : I' 30 2 = nI 0 := by
          rw [hFr 30 (by decide)]
          unfold tpE
          rw [up2_n _ _ _ (by decide), upr_n _ _ (by decide)]
          exact hF.at (x := 0) rfl rfl rfl
        refine x_callV_1 c_Texts_add5 ok_Texts_add ml_W_94 dW_init_171 rfl rfl rfl rfl rfl ?_
        refine ⟨0, rfl, rfl, ht30, by decide, ?_⟩
        refine x_pop dW_init_174 rfl ?_
        refine x_aload_n dW_init_175 rfl ?_
        refine x_getR fl_W_40 rfl dW_init_176 rfl rfl rfl ?_
        -- at 179: .invokevirtual 98
        refine x_callV_0 c_Reader_clear5 ok_Reader_clear ml_W_98 dW_init_179 rfl rfl rfl rfl rfl ?_
        refine ⟨rfl, rfl, ?_⟩
        refine x_return dW_init_182 rfl ?_
        refine h1 _ _ ?_
        rw [cE_clr, cE_taU I' 0 LA LB LC ht30 (by decide) h29 hc hn (fun q hq => absurd hq (by omega)), clr_addT, cE_rd hFr h23, cE_first hF]
        rfl
      · rw [ht24, law_pt] at hp
        cases hp
    | succ r ih =>
      intro m hm
      obtain ⟨b, hb⟩ : ∃ b, lawL[m]? = some b := ⟨lawL[m]'(by show m < 75; omega), List.getElem?_eq_getElem _⟩
      refine x_iload_n dW_init_125 rfl ?_
      refine x_ldcS (i := 0) dW_init_126 rfl rfl rfl ?_
      -- at 128: .invokevirtual 76
      refine x_callT (As := []) (rest := [.int (nI m)]) c_String_length ok_String_length ml_W_76 dW_init_128 rfl rfl rfl (by decide) rfl rfl ?_
      refine ⟨0, rfl, by decide, ?_⟩
      refine x_icmp_ge (tgt := 153) dW_init_131 (by decide) (fun h => absurd h (nI_ge (b := 75) (by omega) (by omega))) (fun _ => ?_)
      refine x_aload_n dW_init_134 rfl ?_
      refine x_getR fl_W_40 rfl dW_init_135 rfl rfl rfl ?_
      refine x_ldcS (i := 0) dW_init_138 rfl rfl rfl ?_
      refine x_iload_n dW_init_140 rfl ?_
      -- at 141: .invokevirtual 82
      refine x_callT (As := [.int (nI m)]) (rest := [.ref 23]) c_String_charAt ok_String_charAt ml_W_82 dW_init_141 rfl rfl rfl (by decide) rfl rfl ?_
      refine ⟨0, m, rfl, by decide, by show m < 75; omega, ?_⟩
      have hb2 : (stB.getD 0 []).getD m 0 = b := by
        rw [← lawL_eq, List.getD_eq_getElem?_getD, hb]
        rfl
      rw [hb2]
      refine x_callV_1 c_Reader_put5 ok_Reader_put ml_W_86 dW_init_144 rfl rfl rfl rfl rfl ?_
      have ht23 : tpE J m 23 1 = nI m := by
        unfold tpE
        rw [up2_s, up1_s]
      refine ⟨m, b, rfl, rfl, ht23, by omega, ?_⟩
      rw [tpE_s hb]
      refine x_iincp_1 dW_init_147 rfl rfl ?_
      refine x_goto (tgt := 125) dW_init_150 (by decide) ?_
      -- at 125: .iload_n 1
      rw [nI_1]
      exact ih (m + 1) (by omega)
  refine x_aload_n dW_init_0 rfl ?_
  refine x_objInit dW_init_1 ml_W_3 im_obj co_obj rfl rfl ?_
  refine x_aload_n dW_init_4 rfl ?_
  refine x_newOb (ci := 7) (nq := 3) (n := 1) dW_init_5 (q := _) rfl cl_W_9 in_Town it_Town rfl rfl rfl ?_
  refine x_dup dW_init_8 rfl ?_
  refine x_callI_0 c_Town_init ok_Town_init rfl ml_W_11 dW_init_9 rfl rfl rfl rfl rfl ?_
  refine ⟨rfl, rfl, upr_s _ _ _, fun J2 L2 hF2 => ?_⟩
  replace hF := hF.app hF2 (by decide) (by decide)
  clear hF2
  refine x_putSP (j := 0) fl_W_12 rfl dW_init_12 (by decide) rfl rfl rfl (by decide) (by decide) (fun _ => rfl) (fun _ => rfl) ?_
  refine x_aload_n dW_init_15 rfl ?_
  refine x_newOb (ci := 0) (nq := 9) (n := 4) dW_init_16 (q := _) rfl cl_W_16 in_Folk it_Folk rfl rfl rfl ?_
  refine x_dup dW_init_19 rfl ?_
  refine x_callIN_0 c_Folk_init ok_Folk_init rfl nw_W_18 dW_init_20 rfl rfl rfl rfl rfl ?_
  refine ⟨rfl, rfl, upr_s _ _ _, fun J2 L2 hF2 => ?_⟩
  replace hF := hF.app hF2 (by decide) (by decide)
  clear hF2
  refine x_putSP (j := 1) fl_W_19 rfl dW_init_23 (by decide) rfl rfl rfl (by decide) (by decide) (fun _ => rfl) (fun _ => rfl) ?_
  refine x_aload_n dW_init_26 rfl ?_
  refine x_newOb (ci := 8) (nq := 5) (n := 13) dW_init_27 (q := _) rfl cl_W_23 in_Vows it_Vows rfl rfl rfl ?_
  refine x_dup dW_init_30 rfl ?_
  refine x_callIN_0 c_Vows_init ok_Vows_init rfl nw_W_25 dW_init_31 rfl rfl rfl rfl rfl ?_
  refine ⟨rfl, rfl, upr_s _ _ _, fun J2 L2 hF2 => ?_⟩
  replace hF := hF.app hF2 (by decide) (by decide)
  clear hF2
  refine x_putSP (j := 2) fl_W_26 rfl dW_init_34 (by decide) rfl rfl rfl (by decide) (by decide) (fun _ => rfl) (fun _ => rfl) ?_
  refine x_aload_n dW_init_37 rfl ?_
  refine x_newOb (ci := 4) (nq := 5) (n := 18) dW_init_38 (q := _) rfl cl_W_30 in_Sayings it_Sayings rfl rfl rfl ?_
  refine x_dup dW_init_41 rfl ?_
  refine x_callIN_0 c_Sayings_init ok_Sayings_init rfl nw_W_32 dW_init_42 rfl rfl rfl rfl rfl ?_
  refine ⟨rfl, rfl, upr_s _ _ _, fun J2 L2 hF2 => ?_⟩
  replace hF := hF.app hF2 (by decide) (by decide)
  clear hF2
  refine x_putSP (j := 3) fl_W_33 rfl dW_init_45 (by decide) rfl rfl rfl (by decide) (by decide) (fun _ => rfl) (fun _ => rfl) ?_
  refine x_aload_n dW_init_48 rfl ?_
  refine x_newOb (ci := 3) (nq := 10) (n := 23) dW_init_49 (q := _) rfl cl_W_37 in_Reader it_Reader rfl rfl rfl ?_
  refine x_dup dW_init_52 rfl ?_
  refine x_callIN_0 c_Reader_init ok_Reader_init rfl nw_W_39 dW_init_53 rfl rfl rfl rfl rfl ?_
  refine ⟨rfl, rfl, upr_s _ _ _, fun J2 L2 hF2 => ?_⟩
  replace hF := hF.app hF2 (by decide) (by decide)
  clear hF2
  refine x_putSP (j := 4) fl_W_40 rfl dW_init_56 (by decide) rfl rfl rfl (by decide) (by decide) (fun _ => rfl) (fun _ => rfl) ?_
  refine x_aload_n dW_init_59 rfl ?_
  refine x_newOb (ci := 6) (nq := 6) (n := 30) dW_init_60 (q := _) rfl cl_W_44 in_Texts it_Texts rfl rfl rfl ?_
  refine x_dup dW_init_63 rfl ?_
  refine x_callIN_0 c_Texts_init ok_Texts_init rfl nw_W_46 dW_init_64 rfl rfl rfl rfl rfl ?_
  refine ⟨rfl, rfl, upr_s _ _ _, fun J2 L2 hF2 => ?_⟩
  replace hF := hF.app hF2 (by decide) (by decide)
  clear hF2
  refine x_putSP (j := 5) fl_W_47 rfl dW_init_67 (by decide) rfl rfl rfl (by decide) (by decide) (fun _ => rfl) (fun _ => rfl) ?_
  refine x_aload_n dW_init_70 rfl ?_
  refine x_newOb (ci := 2) (nq := 15) (n := 35) dW_init_71 (q := _) rfl cl_W_51 in_Ledger it_Ledger rfl rfl rfl ?_
  refine x_dup dW_init_74 rfl ?_
  refine x_aload_n dW_init_75 rfl ?_
  refine x_getR fl_W_12 rfl dW_init_76 rfl rfl rfl ?_
  refine x_aload_n dW_init_79 rfl ?_
  refine x_getR fl_W_19 rfl dW_init_80 rfl rfl rfl ?_
  refine x_aload_n dW_init_83 rfl ?_
  refine x_getR fl_W_26 rfl dW_init_84 rfl rfl rfl ?_
  refine x_aload_n dW_init_87 rfl ?_
  refine x_getR fl_W_33 rfl dW_init_88 rfl rfl rfl ?_
  refine x_aload_n dW_init_91 rfl ?_
  refine x_getR fl_W_47 rfl dW_init_92 rfl rfl rfl ?_
  refine x_callI_5 c_Ledger_init ok_Ledger_init rfl ml_W_53 dW_init_95 rfl rfl rfl rfl rfl ?_
  refine ⟨rfl, rfl, upr_s _ _ _, fun J2 L2 hF2 => ?_⟩
  replace hF := hF.app hF2 (by decide) (by decide)
  clear hF2
  refine x_putSP (j := 6) fl_W_56 rfl dW_init_98 (by decide) rfl rfl rfl (by decide) (by decide) (fun _ => rfl) (fun _ => rfl) ?_
  refine x_aload_n dW_init_101 rfl ?_
  refine x_newOb (ci := 1) (nq := 6) (n := 45) dW_init_102 (q := _) rfl cl_W_60 in_Image it_Image rfl rfl rfl ?_
  refine x_dup dW_init_105 rfl ?_
  refine x_callIN_0 c_Image_init ok_Image_init rfl nw_W_62 dW_init_106 rfl rfl rfl rfl rfl ?_
  refine ⟨rfl, rfl, upr_s _ _ _, fun J2 L2 hF2 => ?_⟩
  replace hF := hF.app hF2 (by decide) (by decide)
  clear hF2
  refine x_putSP (j := 7) fl_W_63 rfl dW_init_109 (by decide) rfl rfl rfl (by decide) (by decide) (fun _ => rfl) (fun _ => rfl) ?_
  refine x_aload_n dW_init_112 rfl ?_
  refine x_newOb (ci := 5) (nq := 3) (n := 55) dW_init_113 (q := _) rfl cl_W_67 in_Sheets it_Sheets rfl rfl rfl ?_
  refine x_dup dW_init_116 rfl ?_
  refine x_callIN_0 c_Sheets_init ok_Sheets_init rfl nw_W_69 dW_init_117 rfl rfl rfl rfl rfl ?_
  refine ⟨rfl, rfl, upr_s _ _ _, fun J2 L2 hF2 => ?_⟩
  replace hF := hF.app hF2 (by decide) (by decide)
  clear hF2
  refine x_putSP (j := 8) fl_W_70 rfl dW_init_120 (by decide) rfl rfl rfl (by decide) (by decide) (fun _ => rfl) (fun _ => rfl) ?_
  rw [SP_close (by decide) (fun _ => rfl), SP_59]
  refine x_iconst (v := 0) dW_init_123 rfl ?_
  refine x_istoren_1 dW_init_124 rfl rfl ?_
  -- at 125: .iload_n 1
  have hp := fin _ L2 hF 75 0 rfl
  rw [← tpE_0 (hF.2 24 (by decide) (by decide)) (hF.at (i := 23) (j := 1) (x := 0) rfl rfl rfl)] at hp
  exact hp
