/-! places, promises, sayings -/
def sp_Town_between : SpT := fun as S I L Post => ∃ u v : Nat, as = [.ref 1, .int (nI u), .int (nI v)] ∧ S = S1 ∧ u < 6 ∧ v < 6 ∧ Post (some (.int (I 2 (u * 6 + v)))) S I L
set_option maxHeartbeats 4000000 in
set_option maxRecDepth 100000 in
theorem c_Town_between : Con mTown_between 2 0 0 sp_Town_between := by
  refine con_of_X rfl fun G as S I L Post hs => ?_
  obtain ⟨u, v, rfl, rfl, hu, hv, h1⟩ := hs
  refine ⟨0, Nat.le_of_ble_eq_true rfl, ?_⟩
  show X mTown_between G _ S1 I L 0 [.ref 1, .int (nI u), .int (nI v)] [] Post
  refine x_aload_n dTown_between_0 rfl ?_
  refine x_getR fl_Town_9 rfl dTown_between_1 rfl rfl rfl ?_
  refine x_iload_n dTown_between_4 rfl ?_
  refine x_bipush (v := 6) dTown_between_5 rfl ?_
  refine x_imul dTown_between_7 ?_
  refine x_iload_n dTown_between_8 rfl ?_
  refine x_iadd dTown_between_9 ?_
  refine x_ialdJ (j := u * 6 + v) dTown_between_10 rfl rfl (by first | rfl | (simp only [← nI_add, ← pk_mul]; rfl)) (by omega) ?_
  -- at 11: .ireturn
  refine x_ireturn dTown_between_11 rfl rfl ?_
  exact h1
def sp_Town_setBetween : SpT := fun as S I L Post => ∃ (u v : Nat) (d : Int32), as = [.ref 1, .int (nI u), .int (nI v), .int d] ∧ S = S1 ∧ u < 6 ∧ v < 6 ∧ Post none S (up2 (up2 I 2 (u * 6 + v) d) 2 (v * 6 + u) d) L
set_option maxHeartbeats 4000000 in
set_option maxRecDepth 100000 in
theorem c_Town_setBetween : Con mTown_setBetween 2 0 0 sp_Town_setBetween := by
  refine con_of_X rfl fun G as S I L Post hs => ?_
  obtain ⟨u, v, d, rfl, rfl, hu, hv, h1⟩ := hs
  refine ⟨0, Nat.le_of_ble_eq_true rfl, ?_⟩
  show X mTown_setBetween G _ S1 I L 0 [.ref 1, .int (nI u), .int (nI v), .int d] [] Post
  refine x_aload_n dTown_setBetween_0 rfl ?_
  refine x_getR fl_Town_9 rfl dTown_setBetween_1 rfl rfl rfl ?_
  refine x_iload_n dTown_setBetween_4 rfl ?_
  refine x_bipush (v := 6) dTown_setBetween_5 rfl ?_
  refine x_imul dTown_setBetween_7 ?_
  refine x_iload_n dTown_setBetween_8 rfl ?_
  refine x_iadd dTown_setBetween_9 ?_
  refine x_iload_n dTown_setBetween_10 rfl ?_
  refine x_iastJ (j := u * 6 + v) dTown_setBetween_11 rfl rfl (by first | rfl | (simp only [← nI_add, ← pk_mul]; rfl)) (by omega) ?_
  refine x_aload_n dTown_setBetween_12 rfl ?_
  refine x_getR fl_Town_9 rfl dTown_setBetween_13 rfl rfl rfl ?_
  refine x_iload_n dTown_setBetween_16 rfl ?_
  refine x_bipush (v := 6) dTown_setBetween_17 rfl ?_
  refine x_imul dTown_setBetween_19 ?_
  refine x_iload_n dTown_setBetween_20 rfl ?_
  refine x_iadd dTown_setBetween_21 ?_
  refine x_iload_n dTown_setBetween_22 rfl ?_
  refine x_iastJ (j := v * 6 + u) dTown_setBetween_23 rfl rfl (by first | rfl | (simp only [← nI_add, ← pk_mul]; rfl)) (by omega) ?_
  -- at 24: .return_
  refine x_return dTown_setBetween_24 rfl ?_
  exact h1
def sp_Vows_has : SpT := fun as S I L Post => ∃ p : Int32, as = [.ref 13, .int p] ∧ S = S1 ∧ bPost (0 ≤ p ∧ p ≤ I 13 4 - 1) S I L Post
set_option maxHeartbeats 4000000 in
set_option maxRecDepth 100000 in
theorem c_Vows_has : Con mVows_has 3 0 0 sp_Vows_has := by
  refine con_of_X rfl fun G as S I L Post hs => ?_
  obtain ⟨p, rfl, rfl, h1, h2⟩ := hs
  refine ⟨0, Nat.le_of_ble_eq_true rfl, ?_⟩
  show X mVows_has G _ S1 I L 0 [.ref 13, .int p] [] Post
  refine x_iload_n dVows_has_0 rfl ?_
  refine x_iconst (v := 0) dVows_has_1 rfl ?_
  refine x_aload_n dVows_has_2 rfl ?_
  refine x_getI fl_Vows_24 rfl dVows_has_3 rfl rfl ?_
  refine x_iconst (v := 1) dVows_has_6 rfl ?_
  refine x_isub dVows_has_7 ?_
  -- at 8: .invokestatic 28
  refine x_callSN_3 c_W_within ok_W_within nw_Vows_28 dVows_has_8 rfl rfl ?_
  refine ⟨p, 0, _, rfl, fun q => ?_, fun q => ?_⟩
  · refine x_ireturn dVows_has_11 rfl rfl ?_
    exact h1 q
  · refine x_ireturn dVows_has_11 rfl rfl ?_
    exact h2 q
def sp_Sayings_has : SpT := fun as S I L Post => ∃ p : Int32, as = [.ref 18, .int p] ∧ S = S1 ∧ bPost (0 ≤ p ∧ p ≤ I 18 4 - 1) S I L Post
set_option maxHeartbeats 4000000 in
set_option maxRecDepth 100000 in
theorem c_Sayings_has : Con mSayings_has 3 0 0 sp_Sayings_has := by
  refine con_of_X rfl fun G as S I L Post hs => ?_
  obtain ⟨p, rfl, rfl, h1, h2⟩ := hs
  refine ⟨0, Nat.le_of_ble_eq_true rfl, ?_⟩
  show X mSayings_has G _ S1 I L 0 [.ref 18, .int p] [] Post
  refine x_iload_n dSayings_has_0 rfl ?_
  refine x_iconst (v := 0) dSayings_has_1 rfl ?_
  refine x_aload_n dSayings_has_2 rfl ?_
  refine x_getI fl_Sayings_24 rfl dSayings_has_3 rfl rfl ?_
  refine x_iconst (v := 1) dSayings_has_6 rfl ?_
  refine x_isub dSayings_has_7 ?_
  -- at 8: .invokestatic 28
  refine x_callSN_3 c_W_within ok_W_within nw_Sayings_28 dSayings_has_8 rfl rfl ?_
  refine ⟨p, 0, _, rfl, fun q => ?_, fun q => ?_⟩
  · refine x_ireturn dSayings_has_11 rfl rfl ?_
    exact h1 q
  · refine x_ireturn dSayings_has_11 rfl rfl ?_
    exact h2 q
def cVadd (I : IM) (n : Nat) (a b c d : Int32) : IM := up2 (up2 (up2 (up2 (up2 I 14 n a) 15 n b) 16 n c) 17 n d) 13 4 (nI n + 1)
def sp_Vows_add : SpT := fun as S I L Post => ∃ (n : Nat) (a b c d : Int32), as = [.ref 13, .int a, .int b, .int c, .int d] ∧ S = S1 ∧ n < 8 ∧ I 13 4 = nI n ∧ Post (some (.int (nI n))) S (cVadd I n a b c d) L
set_option maxHeartbeats 4000000 in
set_option maxRecDepth 100000 in
theorem c_Vows_add : Con mVows_add 2 0 0 sp_Vows_add := by
  refine con_of_X rfl fun G as S I L Post hs => ?_
  obtain ⟨n, a, b, c, d, rfl, rfl, hn, hm, h1⟩ := hs
  refine ⟨1, Nat.le_of_ble_eq_true rfl, ?_⟩
  show X mVows_add G _ S1 I L 0 [.ref 13, .int a, .int b, .int c, .int d, .null] [] Post
  refine x_aload_n dVows_add_0 rfl ?_
  refine x_getI fl_Vows_24 rfl dVows_add_1 rfl rfl ?_
  -- at 4: .istore 5
  rw [hm]
  refine x_istore_5 dVows_add_4 rfl rfl ?_
  refine x_aload_n dVows_add_6 rfl ?_
  refine x_getR fl_Vows_9 rfl dVows_add_7 rfl rfl rfl ?_
  refine x_iload dVows_add_10 rfl ?_
  refine x_iload_n dVows_add_12 rfl ?_
  refine x_iastJ dVows_add_13 rfl rfl rfl (by omega) ?_
  refine x_aload_n dVows_add_14 rfl ?_
  refine x_getR fl_Vows_15 rfl dVows_add_15 rfl rfl rfl ?_
  refine x_iload dVows_add_18 rfl ?_
  refine x_iload_n dVows_add_20 rfl ?_
  refine x_iastJ dVows_add_21 rfl rfl rfl (by omega) ?_
  refine x_aload_n dVows_add_22 rfl ?_
  refine x_getR fl_Vows_18 rfl dVows_add_23 rfl rfl rfl ?_
  refine x_iload dVows_add_26 rfl ?_
  refine x_iload_n dVows_add_28 rfl ?_
  refine x_iastJ dVows_add_29 rfl rfl rfl (by omega) ?_
  refine x_aload_n dVows_add_30 rfl ?_
  refine x_getR fl_Vows_21 rfl dVows_add_31 rfl rfl rfl ?_
  refine x_iload dVows_add_34 rfl ?_
  refine x_iload dVows_add_36 rfl ?_
  refine x_iastJ dVows_add_38 rfl rfl rfl (by omega) ?_
  refine x_aload_n dVows_add_39 rfl ?_
  refine x_iload dVows_add_40 rfl ?_
  refine x_iconst (v := 1) dVows_add_42 rfl ?_
  refine x_iadd dVows_add_43 ?_
  refine x_putI fl_Vows_24 rfl dVows_add_44 (by decide) rfl rfl rfl rfl ?_
  refine x_iload dVows_add_47 rfl ?_
  -- at 49: .ireturn
  refine x_ireturn dVows_add_49 rfl rfl ?_
  exact h1
def cSput (I : IM) (s : Nat) (q h : Int32) : IM := up2 (up2 (up2 (up2 I 19 s q) 20 s (h / 100)) 21 s (rem (h / 10) 10)) 22 s (rem h 10)
def sp_Sayings_put : SpT := fun as S I L Post => ∃ (s : Nat) (q h : Int32), as = [.ref 18, .int (nI s), .int q, .int h] ∧ S = S1 ∧ s < 11 ∧ Post none S (cSput I s q h) L
set_option maxHeartbeats 4000000 in
set_option maxRecDepth 100000 in
theorem c_Sayings_put : Con mSayings_put 2 0 0 sp_Sayings_put := by
  refine con_of_X rfl fun G as S I L Post hs => ?_
  obtain ⟨s, q, h, rfl, rfl, hs, h1⟩ := hs
  refine ⟨0, Nat.le_of_ble_eq_true rfl, ?_⟩
  show X mSayings_put G _ S1 I L 0 [.ref 18, .int (nI s), .int q, .int h] [] Post
  refine x_aload_n dSayings_put_0 rfl ?_
  refine x_getR fl_Sayings_9 rfl dSayings_put_1 rfl rfl rfl ?_
  refine x_iload_n dSayings_put_4 rfl ?_
  refine x_iload_n dSayings_put_5 rfl ?_
  refine x_iastJ dSayings_put_6 rfl rfl rfl (by omega) ?_
  refine x_aload_n dSayings_put_7 rfl ?_
  refine x_getR fl_Sayings_15 rfl dSayings_put_8 rfl rfl rfl ?_
  refine x_iload_n dSayings_put_11 rfl ?_
  refine x_iload_n dSayings_put_12 rfl ?_
  refine x_bipush (v := 100) dSayings_put_13 rfl ?_
  refine x_idiv dSayings_put_15 (by decide) ?_
  refine x_iastJ dSayings_put_16 rfl rfl rfl (by omega) ?_
  refine x_aload_n dSayings_put_17 rfl ?_
  refine x_getR fl_Sayings_18 rfl dSayings_put_18 rfl rfl rfl ?_
  refine x_iload_n dSayings_put_21 rfl ?_
  refine x_iload_n dSayings_put_22 rfl ?_
  refine x_bipush (v := 10) dSayings_put_23 rfl ?_
  refine x_idiv dSayings_put_25 (by decide) ?_
  refine x_bipush (v := 10) dSayings_put_26 rfl ?_
  refine x_irem dSayings_put_28 (by decide) ?_
  refine x_iastJ dSayings_put_29 rfl rfl rfl (by omega) ?_
  refine x_aload_n dSayings_put_30 rfl ?_
  refine x_getR fl_Sayings_21 rfl dSayings_put_31 rfl rfl rfl ?_
  refine x_iload_n dSayings_put_34 rfl ?_
  refine x_iload_n dSayings_put_35 rfl ?_
  refine x_bipush (v := 10) dSayings_put_36 rfl ?_
  refine x_irem dSayings_put_38 (by decide) ?_
  refine x_iastJ dSayings_put_39 rfl rfl rfl (by omega) ?_
  -- at 40: .return_
  refine x_return dSayings_put_40 rfl ?_
  exact h1
def cFadd (I : IM) (n : Nat) (k w ws ld : Int32) : IM := up2 (up2 (up2 (up2 (up2 (up2 (up2 (up2 (up2 I 5 n k) 6 n (w / 100)) 7 n (rem (w / 10) 10)) 8 n (rem w 10)) 9 n ws) 10 n (ld / 100)) 11 n (rem ld 100)) 12 n (-1)) 4 8 (nI n + 1)
def sp_Folk_add : SpT := fun as S I L Post => ∃ (n : Nat) (k w ws ld : Int32), as = [.ref 4, .int k, .int w, .int ws, .int ld] ∧ S = S1 ∧ n < 8 ∧ I 4 8 = nI n ∧ Post (some (.int (nI n))) S (cFadd I n k w ws ld) L
set_option maxHeartbeats 4000000 in
set_option maxRecDepth 100000 in
theorem c_Folk_add : Con mFolk_add 2 0 0 sp_Folk_add := by
  refine con_of_X rfl fun G as S I L Post hs => ?_
  obtain ⟨n, k, w, ws, ld, rfl, rfl, hn, hm, h1⟩ := hs
  refine ⟨1, Nat.le_of_ble_eq_true rfl, ?_⟩
  show X mFolk_add G _ S1 I L 0 [.ref 4, .int k, .int w, .int ws, .int ld, .null] [] Post
  refine x_aload_n dFolk_add_0 rfl ?_
  refine x_getI fl_Folk_36 rfl dFolk_add_1 rfl rfl ?_
  -- at 4: .istore 5
  rw [hm]
  refine x_istore_5 dFolk_add_4 rfl rfl ?_
  refine x_aload_n dFolk_add_6 rfl ?_
  refine x_getR fl_Folk_9 rfl dFolk_add_7 rfl rfl rfl ?_
  refine x_iload dFolk_add_10 rfl ?_
  refine x_iload_n dFolk_add_12 rfl ?_
  refine x_iastJ dFolk_add_13 rfl rfl rfl (by omega) ?_
  refine x_aload_n dFolk_add_14 rfl ?_
  refine x_getR fl_Folk_15 rfl dFolk_add_15 rfl rfl rfl ?_
  refine x_iload dFolk_add_18 rfl ?_
  refine x_iload_n dFolk_add_20 rfl ?_
  refine x_bipush (v := 100) dFolk_add_21 rfl ?_
  refine x_idiv dFolk_add_23 (by decide) ?_
  refine x_iastJ dFolk_add_24 rfl rfl rfl (by omega) ?_
  refine x_aload_n dFolk_add_25 rfl ?_
  refine x_getR fl_Folk_18 rfl dFolk_add_26 rfl rfl rfl ?_
  refine x_iload dFolk_add_29 rfl ?_
  refine x_iload_n dFolk_add_31 rfl ?_
  refine x_bipush (v := 10) dFolk_add_32 rfl ?_
  refine x_idiv dFolk_add_34 (by decide) ?_
  refine x_bipush (v := 10) dFolk_add_35 rfl ?_
  refine x_irem dFolk_add_37 (by decide) ?_
  refine x_iastJ dFolk_add_38 rfl rfl rfl (by omega) ?_
  refine x_aload_n dFolk_add_39 rfl ?_
  refine x_getR fl_Folk_21 rfl dFolk_add_40 rfl rfl rfl ?_
  refine x_iload dFolk_add_43 rfl ?_
  refine x_iload_n dFolk_add_45 rfl ?_
  refine x_bipush (v := 10) dFolk_add_46 rfl ?_
  refine x_irem dFolk_add_48 (by decide) ?_
  refine x_iastJ dFolk_add_49 rfl rfl rfl (by omega) ?_
  refine x_aload_n dFolk_add_50 rfl ?_
  refine x_getR fl_Folk_24 rfl dFolk_add_51 rfl rfl rfl ?_
  refine x_iload dFolk_add_54 rfl ?_
  refine x_iload_n dFolk_add_56 rfl ?_
  refine x_iastJ dFolk_add_57 rfl rfl rfl (by omega) ?_
  refine x_aload_n dFolk_add_58 rfl ?_
  refine x_getR fl_Folk_27 rfl dFolk_add_59 rfl rfl rfl ?_
  refine x_iload dFolk_add_62 rfl ?_
  refine x_iload dFolk_add_64 rfl ?_
  refine x_bipush (v := 100) dFolk_add_66 rfl ?_
  refine x_idiv dFolk_add_68 (by decide) ?_
  refine x_iastJ dFolk_add_69 rfl rfl rfl (by omega) ?_
  refine x_aload_n dFolk_add_70 rfl ?_
  refine x_getR fl_Folk_30 rfl dFolk_add_71 rfl rfl rfl ?_
  refine x_iload dFolk_add_74 rfl ?_
  refine x_iload dFolk_add_76 rfl ?_
  refine x_bipush (v := 100) dFolk_add_78 rfl ?_
  refine x_irem dFolk_add_80 (by decide) ?_
  refine x_iastJ dFolk_add_81 rfl rfl rfl (by omega) ?_
  refine x_aload_n dFolk_add_82 rfl ?_
  refine x_getR fl_Folk_33 rfl dFolk_add_83 rfl rfl rfl ?_
  refine x_iload dFolk_add_86 rfl ?_
  refine x_iconst (v := -1) dFolk_add_88 rfl ?_
  refine x_iastJ dFolk_add_89 rfl rfl rfl (by omega) ?_
  refine x_aload_n dFolk_add_90 rfl ?_
  refine x_iload dFolk_add_91 rfl ?_
  refine x_iconst (v := 1) dFolk_add_93 rfl ?_
  refine x_iadd dFolk_add_94 ?_
  refine x_putI fl_Folk_36 rfl dFolk_add_95 (by decide) rfl rfl rfl rfl ?_
  refine x_iload dFolk_add_98 rfl ?_
  -- at 100: .ireturn
  refine x_ireturn dFolk_add_100 rfl rfl ?_
  exact h1
/-- where one of a kind is in a minute -/
def whK (k b mo t : Int32) : Int32 := if isU k 1 then (if k = 3 ∧ (t = 2 ∨ t = 3) then 0 else rem (b + t / imax 1 mo) 6) else b
theorem imax1 (x : Int32) : ¬ imax 1 x = 0 := by
  unfold imax
  split
  · rename_i h
    intro e
    rw [e] at h
    exact absurd h (by decide)
  · decide
def sp_Folk_placeOf : SpT := fun as S I L Post => ∃ (p k : Nat) (t : Int32), as = [.ref 4, .int (nI p), .int t] ∧ S = S1 ∧ p < 8 ∧ I 5 p = nI k ∧ k < 6 ∧ Post (some (.int (whK (nI k) (cStart I p) (I 8 p) t))) S I L
set_option maxHeartbeats 4000000 in
set_option maxRecDepth 100000 in
theorem c_Folk_placeOf : Con mFolk_placeOf 3 0 0 sp_Folk_placeOf := by
  refine con_of_X rfl fun G as S I L Post hs => ?_
  obtain ⟨p, k, t, rfl, rfl, hp, hk, hk6, h1⟩ := hs
  refine ⟨1, Nat.le_of_ble_eq_true rfl, ?_⟩
  show X mFolk_placeOf G _ S1 I L 0 [.ref 4, .int (nI p), .int t, .null] [] Post
  refine x_aload_n dFolk_placeOf_0 rfl ?_
  refine x_iload_n dFolk_placeOf_1 rfl ?_
  -- at 2: .invokevirtual 47
  refine x_callV_1 c_Folk_startOf ok_Folk_startOf ml_Folk_47 dFolk_placeOf_2 rfl rfl rfl rfl rfl ?_
  refine ⟨p, rfl, rfl, hp, ?_⟩
  refine x_istoren_3 dFolk_placeOf_5 rfl rfl ?_
  refine x_aload_n dFolk_placeOf_6 rfl ?_
  refine x_iload_n dFolk_placeOf_7 rfl ?_
  refine x_iconst (v := 1) dFolk_placeOf_8 rfl ?_
  -- at 9: .invokevirtual 51
  refine x_callV_2 c_Folk_isA ok_Folk_isA ml_Folk_51 dFolk_placeOf_9 rfl rfl rfl rfl rfl ?_
  refine ⟨p, k, 1, rfl, rfl, hp, hk, hk6, by decide, fun q => ?_, fun q => ?_⟩
  · rw [whK, if_pos q] at h1
    refine x_if_ne (tgt := 17) dFolk_placeOf_12 (by decide) (fun _ => ?_) (fun h => absurd h (by decide))
    have tail : ¬ (nI k = 3 ∧ (t = 2 ∨ t = 3)) → X mFolk_placeOf G (3, 0, 0) S1 I L 39 [.ref 4, .int (nI p), .int t, .int (cStart I p)] [] Post := by
      intro hn
      rw [if_neg hn] at h1
      refine x_iload_n dFolk_placeOf_39 rfl ?_
      refine x_iload_n dFolk_placeOf_40 rfl ?_
      refine x_iconst (v := 1) dFolk_placeOf_41 rfl ?_
      refine x_aload_n dFolk_placeOf_42 rfl ?_
      refine x_getR fl_Folk_21 rfl dFolk_placeOf_43 rfl rfl rfl ?_
      refine x_iload_n dFolk_placeOf_46 rfl ?_
      refine x_ialdJ dFolk_placeOf_47 rfl rfl rfl (by omega) ?_
      -- at 48: .invokestatic 55
      refine x_mmax dFolk_placeOf_48 ml_Folk_55 st_max it_Math co_max rfl rfl ?_
      refine x_idiv dFolk_placeOf_51 (imax1 _) ?_
      refine x_iadd dFolk_placeOf_52 ?_
      refine x_bipush (v := 6) dFolk_placeOf_53 rfl ?_
      refine x_irem dFolk_placeOf_55 (by decide) ?_
      -- at 56: .ireturn
      refine x_ireturn dFolk_placeOf_56 rfl rfl ?_
      exact h1
    refine x_aload_n dFolk_placeOf_17 rfl ?_
    refine x_getR fl_Folk_9 rfl dFolk_placeOf_18 rfl rfl rfl ?_
    refine x_iload_n dFolk_placeOf_21 rfl ?_
    refine x_ialdJ dFolk_placeOf_22 rfl rfl rfl (by omega) ?_
    refine x_iconst (v := 3) dFolk_placeOf_23 rfl ?_
    -- at 24: .if_icmp .ne 15
    rw [hk]
    refine x_icmp_ne (tgt := 39) dFolk_placeOf_24 (by decide) (fun c1 => ?_) (fun c1 => ?_)
    · exact tail (fun z => c1 z.1)
    · refine x_iload_n dFolk_placeOf_27 rfl ?_
      refine x_iconst (v := 2) dFolk_placeOf_28 rfl ?_
      -- at 29: .if_icmp .eq 8
      refine x_icmp_eq (tgt := 37) dFolk_placeOf_29 (by decide) (fun c2 => ?_) (fun c2 => ?_)
      · refine x_iconst (v := 0) dFolk_placeOf_37 rfl ?_
        -- at 38: .ireturn
        refine x_ireturn dFolk_placeOf_38 rfl rfl ?_
        rw [if_pos ⟨c1, Or.inl c2⟩] at h1
        exact h1
      · refine x_iload_n dFolk_placeOf_32 rfl ?_
        refine x_iconst (v := 3) dFolk_placeOf_33 rfl ?_
        -- at 34: .if_icmp .ne 5
        refine x_icmp_ne (tgt := 39) dFolk_placeOf_34 (by decide) (fun c3 => ?_) (fun c3 => ?_)
        · exact tail (fun z => z.2.elim c2 c3)
        · refine x_iconst (v := 0) dFolk_placeOf_37 rfl ?_
          -- at 38: .ireturn
          refine x_ireturn dFolk_placeOf_38 rfl rfl ?_
          rw [if_pos ⟨c1, Or.inr c3⟩] at h1
          exact h1
  · rw [whK, if_neg q] at h1
    refine x_if_ne (tgt := 17) dFolk_placeOf_12 (by decide) (fun h => absurd (by decide) h) (fun _ => ?_)
    refine x_iload_n dFolk_placeOf_15 rfl ?_
    -- at 16: .ireturn
    refine x_ireturn dFolk_placeOf_16 rfl rfl ?_
    exact h1
