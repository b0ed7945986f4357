/-! the class's calls: load, sum, the sayer -/
def loadS (E : IM) (p w : Int32) : Int32 := if ¬ inR p 0 (E 29 1 - 1) then -5 else if ¬ inR w 0 4 then -7 else
  if w = 0 then TT E (wN E) (cl p) else if w = 1 then str1 E (DD E (PE E) (CE E (wN E)) (cl p)) (qN E) (-1) (sN E) else if w = 2 then (OE E (PE E) (CE E (wN E)) (-1) (sN E) (cl p)).2.2 else
  if w = 3 then painV E (PE E) (TT E (wN E)) (cl p) else E 8 (cl p) - TT E (wN E) (cl p)
def sp_W_load : SpT := fun as S I L Post => ∃ p w : Int32, cSp [.int p, .int w] (fun E => .int (loadS E p w)) (fun E => E) as S I L Post
set_option maxHeartbeats 4000000 in
set_option maxRecDepth 100000 in
theorem c_W_load : Con mW_load 8 0 0 sp_W_load := by
  refine con_of_X rfl fun G as S I L Post hs => ?_
  obtain ⟨p, w, rfl, rfl, hok, h1⟩ := hs
  dsimp only at h1
  refine ⟨0, Nat.le_of_ble_eq_true rfl, ?_⟩
  show X mW_load G _ S1 I L 0 [.ref 0, .int p, .int w] [] Post
  obtain ⟨c1, c2, -⟩ := hok.ppl
  obtain ⟨l1, l2⟩ := hok.law
  refine x_aload_n dW_load_0 rfl ?_
  refine x_getR fl_W_19 rfl dW_load_1 rfl rfl rfl ?_
  refine x_iload_n dW_load_4 rfl ?_
  -- at 5: .invokevirtual 143
  refine x_callV_1 c_Folk_has ok_Folk_has ml_W_143 dW_load_5 rfl rfl rfl rfl rfl ?_
  refine ⟨_, rfl, rfl, fun a1 => ?_, fun a1 => ?_⟩
  · have a1 : inR p 0 (cE I 29 1 - 1) := a1
    refine x_if_ne (tgt := 14) dW_load_8 (by decide) (fun _ => ?_) (fun h => absurd h (by decide))
    rw [loadS, if_neg (not_not_intro a1)] at h1
    rw [show cE I 29 1 = nI (pN (cE I)) from c1] at a1
    obtain ⟨i, hi, rfl⟩ := has_nat (by omega) a1
    rw [cl_nI (by omega)] at h1
    refine x_iload_n dW_load_14 rfl ?_
    refine x_iconst (v := 0) dW_load_15 rfl ?_
    refine x_iconst (v := 4) dW_load_16 rfl ?_
    -- at 17: .invokestatic 101
    refine x_callS_3 c_W_within ok_W_within ml_W_101 dW_load_17 rfl rfl ?_
    refine ⟨_, _, _, rfl, fun a2 => ?_, fun a2 => ?_⟩
    · have a2 : inR w 0 4 := a2
      refine x_if_ne (tgt := 26) dW_load_20 (by decide) (fun _ => ?_) (fun h => absurd h (by decide))
      rw [if_neg (not_not_intro a2)] at h1
      obtain ⟨j, hj, rfl⟩ := inR_of (n := 4) (by decide) a2
      refine x_aload_n dW_load_26 rfl ?_
      refine x_getR fl_W_56 rfl dW_load_27 rfl rfl rfl ?_
      refine x_aload_n dW_load_30 rfl ?_
      refine x_getR fl_W_47 rfl dW_load_31 rfl rfl rfl ?_
      refine x_getI fl_W_127 rfl dW_load_34 rfl rfl ?_
      -- at 37: .invokevirtual 213
      rw [l1]
      refine x_callV_1 cE_reckon ok_Ledger_reckon ml_W_213 dW_load_37 rfl rfl rfl rfl rfl ?_
      refine ⟨_, rfl, rfl, hok, l2, fun I' hF hl _ ho => ?_⟩
      obtain ⟨o1, o2, o3, o4⟩ := ho i hi
      refine x_iload_n dW_load_40 rfl ?_
      -- at 41: .tableswitch 70 0 3 #[31, 41, 51, 61]
      rcases (show j = 0 ∨ j = 1 ∨ j = 2 ∨ j = 3 ∨ j = 4 by omega) with rfl | rfl | rfl | rfl | rfl
      · rw [if_pos (show nI 0 = (0 : Int32) from rfl)] at h1
        refine x_tableIn (tgt := 72) dW_load_41 (by decide) (by decide) rfl (by decide) ?_
        refine x_aload_n dW_load_72 rfl ?_
        refine x_getR fl_W_56 rfl dW_load_73 rfl rfl rfl ?_
        refine x_getR fl_W_219 rfl dW_load_76 rfl rfl rfl ?_
        refine x_iload_n dW_load_79 rfl ?_
        refine x_ialdJ dW_load_80 rfl rfl rfl (by omega) ?_
        -- at 81: .ireturn
        refine x_ireturn dW_load_81 rfl rfl ?_
        rw [o4]
        exact h1 I' (kstay hF) (cE_k hF)
      · rw [if_neg (show ¬ nI 1 = (0 : Int32) by decide), if_pos (show nI 1 = (1 : Int32) from rfl)] at h1
        refine x_tableIn (tgt := 82) dW_load_41 (by decide) (by decide) rfl (by decide) ?_
        refine x_aload_n dW_load_82 rfl ?_
        refine x_getR fl_W_56 rfl dW_load_83 rfl rfl rfl ?_
        refine x_getR fl_W_222 rfl dW_load_86 rfl rfl rfl ?_
        refine x_iload_n dW_load_89 rfl ?_
        refine x_ialdJ dW_load_90 rfl rfl rfl (by omega) ?_
        -- at 91: .ireturn
        refine x_ireturn dW_load_91 rfl rfl ?_
        rw [o2]
        exact h1 I' (kstay hF) (cE_k hF)
      · rw [if_neg (show ¬ nI 2 = (0 : Int32) by decide), if_neg (show ¬ nI 2 = (1 : Int32) by decide), if_pos (show nI 2 = (2 : Int32) from rfl)] at h1
        refine x_tableIn (tgt := 92) dW_load_41 (by decide) (by decide) rfl (by decide) ?_
        refine x_aload_n dW_load_92 rfl ?_
        refine x_getR fl_W_56 rfl dW_load_93 rfl rfl rfl ?_
        refine x_getR fl_W_225 rfl dW_load_96 rfl rfl rfl ?_
        refine x_iload_n dW_load_99 rfl ?_
        refine x_ialdJ dW_load_100 rfl rfl rfl (by omega) ?_
        -- at 101: .ireturn
        refine x_ireturn dW_load_101 rfl rfl ?_
        rw [o3]
        exact h1 I' (kstay hF) (cE_k hF)
      · rw [if_neg (show ¬ nI 3 = (0 : Int32) by decide), if_neg (show ¬ nI 3 = (1 : Int32) by decide), if_neg (show ¬ nI 3 = (2 : Int32) by decide), if_pos (show nI 3 = (3 : Int32) from rfl)] at h1
        refine x_tableIn (tgt := 102) dW_load_41 (by decide) (by decide) rfl (by decide) ?_
        refine x_aload_n dW_load_102 rfl ?_
        refine x_getR fl_W_56 rfl dW_load_103 rfl rfl rfl ?_
        refine x_iload_n dW_load_106 rfl ?_
        -- at 107: .invokevirtual 228
        refine x_callV_1 c_Ledger_painOf ok_Ledger_painOf ml_W_228 dW_load_107 rfl rfl rfl rfl rfl ?_
        refine ⟨i, wN (cE I), PE (cE I), rfl, rfl, by omega, hl, (hok.txt l2).fr (hF _ (by decide)) (hF _ (by decide)), fun I2 hF2 => ?_⟩
        refine x_ireturn dW_load_110 rfl rfl ?_
        have e : painV (cV I') (PE (cE I)) (I' 40) i = painV (cE I) (PE (cE I)) (TT (cE I) (wN (cE I))) i := by
          rw [cV_k hF]
          unfold painV
          rw [ho.tot hi]
          rfl
        rw [e]
        have hF3 : Fr kScr I I2 := hF.tr (hF2.wk (by decide))
        exact h1 I2 (kstay hF3) (cE_k hF3)
      · rw [if_neg (show ¬ nI 4 = (0 : Int32) by decide), if_neg (show ¬ nI 4 = (1 : Int32) by decide), if_neg (show ¬ nI 4 = (2 : Int32) by decide), if_neg (show ¬ nI 4 = (3 : Int32) by decide)] at h1
        refine x_tableOut (tgt := 111) dW_load_41 (by decide) (by decide) ?_
        refine x_aload_n dW_load_111 rfl ?_
        refine x_getR fl_W_19 rfl dW_load_112 rfl rfl rfl ?_
        refine x_getR fl_W_167 rfl dW_load_115 rfl rfl rfl ?_
        refine x_iload_n dW_load_118 rfl ?_
        refine x_ialdJ dW_load_119 rfl rfl rfl (by omega) ?_
        refine x_aload_n dW_load_120 rfl ?_
        refine x_getR fl_W_56 rfl dW_load_121 rfl rfl rfl ?_
        refine x_getR fl_W_219 rfl dW_load_124 rfl rfl rfl ?_
        refine x_iload_n dW_load_127 rfl ?_
        refine x_ialdJ dW_load_128 rfl rfl rfl (by omega) ?_
        refine x_isub dW_load_129 ?_
        -- at 130: .ireturn
        refine x_ireturn dW_load_130 rfl rfl ?_
        rw [o4, hF 11 (by decide)]
        exact h1 I' (kstay hF) (cE_k hF)
    · have a2 : ¬ inR w 0 4 := a2
      refine x_if_ne (tgt := 26) dW_load_20 (by decide) (fun h => absurd (by decide) h) (fun _ => ?_)
      rw [if_pos a2] at h1
      refine x_bipush (v := -7) dW_load_23 rfl ?_
      -- at 25: .ireturn
      refine x_ireturn dW_load_25 rfl rfl ?_
      exact h1 I (fun _ _ => rfl) rfl
  · have a1 : ¬ inR p 0 (cE I 29 1 - 1) := a1
    refine x_if_ne (tgt := 14) dW_load_8 (by decide) (fun h => absurd (by decide) h) (fun _ => ?_)
    rw [loadS, if_pos a1] at h1
    refine x_bipush (v := -5) dW_load_11 rfl ?_
    -- at 13: .ireturn
    refine x_ireturn dW_load_13 rfl rfl ?_
    exact h1 I (fun _ _ => rfl) rfl
/-- the outcome w of what is owed (R), in all (T), by programs P -/
def outE (E : IM) (P : Nat → List Int32) (R : Nat → Nat → Int32) (T : Nat → Int32) (w : Int32) : Int32 := outV E P (pN E) (qN E) R T w
def sumS (E : IM) (w : Int32) : Int32 := if ¬ inR w 0 3 then -2 else if w = 3 then fullV E (TT E (wN E)) (pN E) else outE E (PE E) (RT E (wN E)) (TT E (wN E)) w
theorem out_eq {V E : IM} {n m : Nat} (h : VEq V E n m) (P : Nat → List Int32) {k nq : Nat} (hq : nq ≤ 8) {R R' : Nat → Nat → Int32} {T T' : Nat → Int32} (hR : ∀ p, p < k → ∀ q, q < 8 → R p q = R' p q) (hT : ∀ p, p < k → T p = T' p) (w : Int32) : outV V P k nq R T w = outV E P k nq R' T' w := by
  unfold outV
  rw [kept_eq h k nq hq hR, worth_eq h k hR nq hq, pain_eq h P k hT]
def sp_W_sum : SpT := fun as S I L Post => ∃ w : Int32, cSp [.int w] (fun E => .int (sumS E w)) (fun E => E) as S I L Post
set_option maxHeartbeats 4000000 in
set_option maxRecDepth 100000 in
theorem c_W_sum : Con mW_sum 8 0 0 sp_W_sum := by
  refine con_of_X rfl fun G as S I L Post hs => ?_
  obtain ⟨w, rfl, rfl, hok, h1⟩ := hs
  dsimp only at h1
  refine ⟨0, Nat.le_of_ble_eq_true rfl, ?_⟩
  show X mW_sum G _ S1 I L 0 [.ref 0, .int w] [] Post
  obtain ⟨c1, c2, -⟩ := hok.ppl
  obtain ⟨v1, v2, -⟩ := hok.vow
  obtain ⟨l1, l2⟩ := hok.law
  refine x_iload_n dW_sum_0 rfl ?_
  refine x_iconst (v := 0) dW_sum_1 rfl ?_
  refine x_iconst (v := 3) dW_sum_2 rfl ?_
  -- at 3: .invokestatic 101
  refine x_callS_3 c_W_within ok_W_within ml_W_101 dW_sum_3 rfl rfl ?_
  refine ⟨_, _, _, rfl, fun a1 => ?_, fun a1 => ?_⟩
  · have a1 : inR w 0 3 := a1
    refine x_if_ne (tgt := 12) dW_sum_6 (by decide) (fun _ => ?_) (fun h => absurd h (by decide))
    rw [sumS, if_neg (not_not_intro a1)] at h1
    refine x_aload_n dW_sum_12 rfl ?_
    refine x_getR fl_W_56 rfl dW_sum_13 rfl rfl rfl ?_
    refine x_aload_n dW_sum_16 rfl ?_
    refine x_getR fl_W_47 rfl dW_sum_17 rfl rfl rfl ?_
    refine x_getI fl_W_127 rfl dW_sum_20 rfl rfl ?_
    -- at 23: .invokevirtual 213
    rw [l1]
    refine x_callV_1 cE_reckon ok_Ledger_reckon ml_W_213 dW_sum_23 rfl rfl rfl rfl rfl ?_
    refine ⟨_, rfl, rfl, hok, l2, fun I' hF hl _ ho => ?_⟩
    refine x_iload_n dW_sum_26 rfl ?_
    refine x_iconst (v := 3) dW_sum_27 rfl ?_
    -- at 28: .if_icmp .ne 13
    refine x_icmp_ne (tgt := 41) dW_sum_28 (by decide) (fun c3 => ?_) (fun c3 => ?_)
    · rw [if_neg c3] at h1
      refine x_aload_n dW_sum_41 rfl ?_
      refine x_getR fl_W_56 rfl dW_sum_42 rfl rfl rfl ?_
      refine x_iload_n dW_sum_45 rfl ?_
      -- at 46: .invokevirtual 238
      refine x_callV_1 c_Ledger_outcome ok_Ledger_outcome ml_W_238 dW_sum_46 rfl rfl rfl rfl rfl ?_
      refine ⟨_, qN (cE I), wN (cE I), w, _, PE (cE I), rfl, rfl, ho.rows hok hF, by rw [hF 13 (by decide)]; exact v1, v2, hl, (hok.txt l2).fr (hF _ (by decide)) (hF _ (by decide)), fun I2 hF2 => ?_⟩
      rw [cV_k hF, out_eq (cVE I) (PE (cE I)) v2 (R' := RT (cE I) (wN (cE I))) (T' := TT (cE I) (wN (cE I))) (fun _ _ _ _ => rfl) (fun p hp => ho.tot hp)]
      have hF3 : Fr kScr I I2 := hF.tr (hF2.wk (by decide))
      refine x_ireturn dW_sum_49 rfl rfl ?_
      exact h1 I2 (kstay hF3) (cE_k hF3)
    · rw [if_pos c3] at h1
      refine x_aload_n dW_sum_31 rfl ?_
      refine x_getR fl_W_56 rfl dW_sum_32 rfl rfl rfl ?_
      -- at 35: .invokevirtual 235
      refine x_callV_0 c_Ledger_fullBits ok_Ledger_fullBits ml_W_235 dW_sum_35 rfl rfl rfl rfl rfl ?_
      refine ⟨pN (cE I), rfl, rfl, by rw [hF 4 (by decide)]; exact c1, c2, ?_⟩
      rw [cV_k hF, full_eq (cVE I) (pN (cE I)) (T' := TT (cE I) (wN (cE I))) (fun p hp => ho.tot hp)]
      refine x_goto (tgt := 49) dW_sum_38 (by decide) ?_
      -- at 49: .ireturn
      refine x_ireturn dW_sum_49 rfl rfl ?_
      exact h1 I' (kstay hF) (cE_k hF)
  · have a1 : ¬ inR w 0 3 := a1
    refine x_if_ne (tgt := 12) dW_sum_6 (by decide) (fun h => absurd (by decide) h) (fun _ => ?_)
    rw [sumS, if_pos a1] at h1
    refine x_bipush (v := -2) dW_sum_9 rfl ?_
    -- at 11: .ireturn
    refine x_ireturn dW_sum_11 rfl rfl ?_
    exact h1 I (fun _ _ => rfl) rfl
def wayV (E : IM) (s : Nat) : Int32 := E 0 (cl (E 15 (s - 1)) * 6 + cl (E 15 s))
def sp_W_wayTo : SpT := fun as S I L Post => ∃ s : Nat, as = [.ref 0, .int (nI s)] ∧ S = S1 ∧ cOk I ∧ 1 ≤ s ∧ s < sN (cE I) ∧ Post (some (.int (wayV (cE I) s))) S1 I L
set_option maxHeartbeats 4000000 in
set_option maxRecDepth 100000 in
theorem c_W_wayTo : Con mW_wayTo 3 0 0 sp_W_wayTo := by
  refine con_of_X rfl fun G as S I L Post hs => ?_
  obtain ⟨s, rfl, rfl, hok, hs1, hs2, h1⟩ := hs
  refine ⟨0, Nat.le_of_ble_eq_true rfl, ?_⟩
  show X mW_wayTo G _ S1 I L 0 [.ref 0, .int (nI s)] [] Post
  obtain ⟨b1, b2, b3⟩ := hok.say
  obtain ⟨-, ⟨u, hu, eu⟩, -⟩ := b3 s hs2
  obtain ⟨-, ⟨v, hv, ev⟩, -⟩ := b3 (s - 1) (by omega)
  have eu : I 20 s = nI u := eu
  have ev : I 20 (s - 1) = nI v := ev
  have e15 : cE I 15 s = nI u := (mk_lt hs2).trans eu
  have e15' : cE I 15 (s - 1) = nI v := (mk_lt (by rw [← cE_sN]; omega)).trans ev
  rw [wayV, e15, e15', cl_nI (by omega), cl_nI (by omega)] at h1
  refine x_aload_n dW_wayTo_0 rfl ?_
  refine x_getR fl_W_12 rfl dW_wayTo_1 rfl rfl rfl ?_
  refine x_aload_n dW_wayTo_4 rfl ?_
  refine x_getR fl_W_33 rfl dW_wayTo_5 rfl rfl rfl ?_
  refine x_getR fl_W_196 rfl dW_wayTo_8 rfl rfl rfl ?_
  refine x_iload_n dW_wayTo_11 rfl ?_
  refine x_iconst (v := 1) dW_wayTo_12 rfl ?_
  refine x_isub dW_wayTo_13 ?_
  refine x_ialdJ dW_wayTo_14 rfl rfl (pk_sub (b := 1) (by omega)) (by omega) ?_
  -- at 15: .aload_n 0
  rw [ev]
  refine x_aload_n dW_wayTo_15 rfl ?_
  refine x_getR fl_W_33 rfl dW_wayTo_16 rfl rfl rfl ?_
  refine x_getR fl_W_196 rfl dW_wayTo_19 rfl rfl rfl ?_
  refine x_iload_n dW_wayTo_22 rfl ?_
  refine x_ialdJ dW_wayTo_23 rfl rfl rfl (by omega) ?_
  -- at 24: .invokevirtual 105
  rw [eu]
  refine x_callV_2 c_Town_between ok_Town_between ml_W_105 dW_wayTo_24 rfl rfl rfl rfl rfl ?_
  refine ⟨v, u, rfl, rfl, hv, hu, ?_⟩
  refine x_ireturn dW_wayTo_27 rfl rfl ?_
  exact h1
abbrev lateV (E : IM) (s : Nat) : Prop := E 16 s - E 16 (s - 1) < 0 ∨ E 29 0 * (E 16 s - E 16 (s - 1)) < wayV E s
def jR (E : IM) (k i : Nat) : Int32 := match k with
  | 0 => -1
  | j + 1 => if lateV E i then nI i else jR E j (i + 1)
def judgeS (E : IM) : Int32 := jR E (sN E - 1) 1
def sp_W_judge : SpT := cSp [] (fun E => .int (judgeS E)) (fun E => E)
set_option maxHeartbeats 4000000 in
set_option maxRecDepth 100000 in
theorem c_W_judge : Con mW_judge 4 0 0 sp_W_judge := by
  refine con_of_X rfl fun G as S I L Post hs => ?_
  obtain ⟨rfl, rfl, hok, h1⟩ := hs
  dsimp only at h1
  have h1 := h1 I (fun _ _ => rfl) rfl
  refine ⟨2, Nat.le_of_ble_eq_true rfl, ?_⟩
  show X mW_judge G _ S1 I L 0 [.ref 0, .null, .null] [] Post
  obtain ⟨b1, b2, -⟩ := hok.say
  refine x_iconst (v := 1) dW_judge_0 rfl ?_
  refine x_istoren_1 dW_judge_1 rfl rfl ?_
  -- at 2: .iload_n 1
  have loop : ∀ (k i : Nat) (a2 : Value), (i + k = sN (cE I) ∨ (k = 0 ∧ sN (cE I) ≤ i ∧ i < 100)) → 1 ≤ i → Post (some (.int (jR (cE I) k i))) S1 I L → X mW_judge G (4, 0, 0) S1 I L 2 [.ref 0, .int (nI i), a2] [] Post := by
    intro k
    induction k with
    | zero =>
      intro i a2 hi hi1 hp
      refine x_iload_n dW_judge_2 rfl ?_
      refine x_aload_n dW_judge_3 rfl ?_
      refine x_getR fl_W_33 rfl dW_judge_4 rfl rfl rfl ?_
      refine x_getI fl_W_125 rfl dW_judge_7 rfl rfl ?_
      -- at 10: .if_icmp .ge 54
      rw [b1]
      refine x_icmp_ge (tgt := 64) dW_judge_10 (by decide) (fun _ => ?_) (fun h => absurd (nI_le (by omega) (by omega)) h)
      refine x_iconst (v := -1) dW_judge_64 rfl ?_
      -- at 65: .ireturn
      refine x_ireturn dW_judge_65 rfl rfl ?_
      exact hp
    | succ k ih =>
      intro i a2 hi hi1 hp
      have hi2 : i < sN (cE I) := by omega
      have e16 : I 21 i = cE I 16 i := (mk_lt hi2).symm
      have e16' : I 21 (i - 1) = cE I 16 (i - 1) := (mk_lt (by rw [← cE_sN]; omega)).symm
      rw [jR] at hp
      refine x_iload_n dW_judge_2 rfl ?_
      refine x_aload_n dW_judge_3 rfl ?_
      refine x_getR fl_W_33 rfl dW_judge_4 rfl rfl rfl ?_
      refine x_getI fl_W_125 rfl dW_judge_7 rfl rfl ?_
      -- at 10: .if_icmp .ge 54
      rw [b1]
      refine x_icmp_ge (tgt := 64) dW_judge_10 (by decide) (fun h => absurd h (nI_ge (by omega) (by omega))) (fun _ => ?_)
      refine x_aload_n dW_judge_13 rfl ?_
      refine x_getR fl_W_33 rfl dW_judge_14 rfl rfl rfl ?_
      refine x_getR fl_W_199 rfl dW_judge_17 rfl rfl rfl ?_
      refine x_iload_n dW_judge_20 rfl ?_
      refine x_ialdJ (j := i) dW_judge_21 rfl rfl (by first | rfl | (simp only [← nI_add, ← pk_mul]; rfl)) (by omega) ?_
      refine x_aload_n dW_judge_22 rfl ?_
      refine x_getR fl_W_33 rfl dW_judge_23 rfl rfl rfl ?_
      refine x_getR fl_W_199 rfl dW_judge_26 rfl rfl rfl ?_
      refine x_iload_n dW_judge_29 rfl ?_
      refine x_iconst (v := 1) dW_judge_30 rfl ?_
      refine x_isub dW_judge_31 ?_
      refine x_ialdJ dW_judge_32 rfl rfl (pk_sub (b := 1) (by omega)) (by omega) ?_
      -- at 33: .isub
      rw [e16, e16']
      refine x_isub dW_judge_33 ?_
      refine x_istoren_2 dW_judge_34 rfl rfl ?_
      refine x_iload_n dW_judge_35 rfl ?_
      -- at 36: .ifCond .lt 20
      refine x_if_lt (tgt := 56) dW_judge_36 (by decide) (fun c1 => ?_) (fun c1 => ?_)
      · rw [if_pos (show lateV (cE I) i from Or.inl c1)] at hp
        refine x_iload_n dW_judge_56 rfl ?_
        -- at 57: .ireturn
        refine x_ireturn dW_judge_57 rfl rfl ?_
        exact hp
      · refine x_aload_n dW_judge_39 rfl ?_
        refine x_iload_n dW_judge_40 rfl ?_
        -- at 41: .invokevirtual 241
        refine x_callV_1 c_W_wayTo ok_W_wayTo ml_W_241 dW_judge_41 rfl rfl rfl rfl rfl ?_
        refine ⟨i, rfl, rfl, hok, hi1, hi2, ?_⟩
        refine x_aload_n dW_judge_44 rfl ?_
        refine x_getR fl_W_12 rfl dW_judge_45 rfl rfl rfl ?_
        refine x_getI fl_W_117 rfl dW_judge_48 rfl rfl ?_
        refine x_iload_n dW_judge_51 rfl ?_
        refine x_imul dW_judge_52 ?_
        -- at 53: .if_icmp .le 5
        refine x_icmp_le (tgt := 58) dW_judge_53 (by decide) (fun c2 => ?_) (fun c2 => ?_)
        · rw [if_neg (show ¬ lateV (cE I) i from fun z => z.elim c1 (fun y => absurd y (Int32.not_lt.mpr c2)))] at hp
          refine x_iincp_1 dW_judge_58 rfl rfl ?_
          refine x_goto (tgt := 2) dW_judge_61 (by decide) ?_
          -- at 2: .iload_n 1
          rw [nI_1]
          exact ih (i + 1) _ (by omega) (by omega) hp
        · rw [if_pos (show lateV (cE I) i from Or.inr (Int32.not_le.mp c2))] at hp
          refine x_iload_n dW_judge_56 rfl ?_
          -- at 57: .ireturn
          refine x_ireturn dW_judge_57 rfl rfl ?_
          exact hp
  exact loop (sN (cE I) - 1) 1 .null (by omega) (by omega) h1
def wkR (E : IM) (k : Nat) : Int32 := match k with
  | 0 => 0
  | j + 1 => wkR E j + wayV E (j + 1)
def walkS (E : IM) : Int32 := wkR E (sN E - 1)
def sp_W_walk : SpT := cSp [] (fun E => .int (walkS E)) (fun E => E)
set_option maxHeartbeats 4000000 in
set_option maxRecDepth 100000 in
theorem c_W_walk : Con mW_walk 4 0 0 sp_W_walk := by
  refine con_of_X rfl fun G as S I L Post hs => ?_
  obtain ⟨rfl, rfl, hok, h1⟩ := hs
  dsimp only at h1
  have h1 := h1 I (fun _ _ => rfl) rfl
  refine ⟨2, Nat.le_of_ble_eq_true rfl, ?_⟩
  show X mW_walk G _ S1 I L 0 [.ref 0, .null, .null] [] Post
  obtain ⟨b1, b2, -⟩ := hok.say
  refine x_iconst (v := 0) dW_walk_0 rfl ?_
  refine x_istoren_1 dW_walk_1 rfl rfl ?_
  refine x_iconst (v := 1) dW_walk_2 rfl ?_
  refine x_istoren_2 dW_walk_3 rfl rfl ?_
  -- at 4: .iload_n 2
  have loop : ∀ (k i : Nat) (acc : Int32), i + k = sN (cE I) - 1 → acc = wkR (cE I) i → X mW_walk G (4, 0, 0) S1 I L 4 [.ref 0, .int acc, .int (nI (i + 1))] [] Post := by
    intro k
    induction k with
    | zero =>
      intro i acc hi ha
      obtain rfl : i = sN (cE I) - 1 := by omega
      refine x_iload_n dW_walk_4 rfl ?_
      refine x_aload_n dW_walk_5 rfl ?_
      refine x_getR fl_W_33 rfl dW_walk_6 rfl rfl rfl ?_
      refine x_getI fl_W_125 rfl dW_walk_9 rfl rfl ?_
      -- at 12: .if_icmp .ge 17
      rw [b1]
      refine x_icmp_ge (tgt := 29) dW_walk_12 (by decide) (fun _ => ?_) (fun h => absurd (nI_le (by omega) (by omega)) h)
      refine x_iload_n dW_walk_29 rfl ?_
      -- at 30: .ireturn
      refine x_ireturn dW_walk_30 rfl rfl ?_
      rw [ha]
      exact h1
    | succ k ih =>
      intro i acc hi ha
      refine x_iload_n dW_walk_4 rfl ?_
      refine x_aload_n dW_walk_5 rfl ?_
      refine x_getR fl_W_33 rfl dW_walk_6 rfl rfl rfl ?_
      refine x_getI fl_W_125 rfl dW_walk_9 rfl rfl ?_
      -- at 12: .if_icmp .ge 17
      rw [b1]
      refine x_icmp_ge (tgt := 29) dW_walk_12 (by decide) (fun h => absurd h (nI_ge (by omega) (by omega))) (fun _ => ?_)
      refine x_iload_n dW_walk_15 rfl ?_
      refine x_aload_n dW_walk_16 rfl ?_
      refine x_iload_n dW_walk_17 rfl ?_
      -- at 18: .invokevirtual 241
      refine x_callV_1 c_W_wayTo ok_W_wayTo ml_W_241 dW_walk_18 rfl rfl rfl rfl rfl ?_
      refine ⟨i + 1, rfl, rfl, hok, by omega, by omega, ?_⟩
      refine x_iadd dW_walk_21 ?_
      refine x_istoren_1 dW_walk_22 rfl rfl ?_
      refine x_iincp_2 dW_walk_23 rfl rfl ?_
      refine x_goto (tgt := 4) dW_walk_26 (by decide) ?_
      -- at 4: .iload_n 2
      rw [nI_1]
      refine ih (i + 1) _ (by omega) ?_
      rw [wkR, ha]
  exact loop (sN (cE I) - 1) 0 0 (by omega) rfl
