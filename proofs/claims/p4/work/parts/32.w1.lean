/-! the class's calls: the town -/
abbrev inR (x lo hi : Int32) : Prop := lo ≤ x ∧ x ≤ hi
theorem inR_of {x M : Int32} {n : Nat} (hM : M.toInt = n) (h : inR x 0 M) : ∃ k, k ≤ n ∧ x = nI k := nI_of2 hM (Int32.not_lt.mpr h.1) h.2
/-- a call that answers 'ans', and the state is 'upd' then -/
def cSp (args : List Value) (ans : IM → Value) (upd : IM → IM) : SpT := fun as S I L Post => as = .ref 0 :: args ∧ S = S1 ∧ cOk I ∧ ∀ I' : IM, (∀ k, 59 ≤ k → I' k = I k) → cE I' = upd (cE I) → Post (some (ans (cE I))) S1 I' L
abbrev farN (u v d : Int32) : Prop := ¬ inR u 0 5 ∨ ¬ inR v 0 5 ∨ u = v
def farS (E : IM) (u v d : Int32) : Int32 := if farN u v d then -1 else if ¬ inR d 0 9 then -2 else E 0 (cl u * 6 + cl v)
def farU (E : IM) (u v d : Int32) : IM := if farN u v d then E else if ¬ inR d 0 9 then E else up2 (up2 E 0 (cl u * 6 + cl v) d) 0 (cl v * 6 + cl u) d
def sp_W_far : SpT := fun as S I L Post => ∃ u v d : Int32, cSp [.int u, .int v, .int d] (fun E => .int (farS E u v d)) (fun E => farU E u v d) as S I L Post
set_option maxHeartbeats 4000000 in
set_option maxRecDepth 100000 in
theorem c_W_far : Con mW_far 3 0 0 sp_W_far := by
  refine con_of_X rfl fun G as S I L Post hs => ?_
  obtain ⟨u, v, d, rfl, rfl, hok, h1⟩ := hs
  dsimp only at h1
  refine ⟨1, Nat.le_of_ble_eq_true rfl, ?_⟩
  show X mW_far G _ S1 I L 0 [.ref 0, .int u, .int v, .int d, .null] [] Post
  have none1 : farN u v d → X mW_far G (3, 0, 0) S1 I L 23 [.ref 0, .int u, .int v, .int d, .null] [] Post := by
    intro hc
    refine x_iconst (v := -1) dW_far_23 rfl ?_
    -- at 24: .ireturn
    refine x_ireturn dW_far_24 rfl rfl ?_
    have := h1 I (fun _ _ => rfl) (by rw [farU, if_pos hc])
    rw [farS, if_pos hc] at this
    exact this
  refine x_iload_n dW_far_0 rfl ?_
  refine x_iconst (v := 0) dW_far_1 rfl ?_
  refine x_iconst (v := 5) dW_far_2 rfl ?_
  -- at 3: .invokestatic 101
  refine x_callS_3 c_W_within ok_W_within ml_W_101 dW_far_3 rfl rfl ?_
  refine ⟨_, _, _, rfl, fun hu => ?_, fun hu => ?_⟩
  · refine x_if_eq (tgt := 23) dW_far_6 (by decide) (fun h => absurd h (by decide)) (fun _ => ?_)
    refine x_iload_n dW_far_9 rfl ?_
    refine x_iconst (v := 0) dW_far_10 rfl ?_
    refine x_iconst (v := 5) dW_far_11 rfl ?_
    -- at 12: .invokestatic 101
    refine x_callS_3 c_W_within ok_W_within ml_W_101 dW_far_12 rfl rfl ?_
    refine ⟨_, _, _, rfl, fun hv => ?_, fun hv => ?_⟩
    · refine x_if_eq (tgt := 23) dW_far_15 (by decide) (fun h => absurd h (by decide)) (fun _ => ?_)
      refine x_iload_n dW_far_18 rfl ?_
      refine x_iload_n dW_far_19 rfl ?_
      -- at 20: .if_icmp .ne 5
      refine x_icmp_ne (tgt := 25) dW_far_20 (by decide) (fun c1 => ?_) (fun c1 => ?_)
      · have hn : ¬ farN u v d := fun z => z.elim (fun y => y hu) (fun y => y.elim (fun x => x hv) c1)
        rw [farS, if_neg hn, farU, if_neg hn] at h1
        refine x_iload_n dW_far_25 rfl ?_
        refine x_iconst (v := 0) dW_far_26 rfl ?_
        refine x_bipush (v := 9) dW_far_27 rfl ?_
        -- at 29: .invokestatic 101
        refine x_callS_3 c_W_within ok_W_within ml_W_101 dW_far_29 rfl rfl ?_
        refine ⟨_, _, _, rfl, fun hd => ?_, fun hd => ?_⟩
        · refine x_if_ne (tgt := 38) dW_far_32 (by decide) (fun _ => ?_) (fun h => absurd h (by decide))
          obtain ⟨a, ha, rfl⟩ := inR_of (n := 5) (by decide) hu
          obtain ⟨b, hb, rfl⟩ := inR_of (n := 5) (by decide) hv
          rw [if_neg (not_not_intro hd), if_neg (not_not_intro hd), cl_nI (by omega), cl_nI (by omega)] at h1
          refine x_aload_n dW_far_38 rfl ?_
          refine x_getR fl_W_12 rfl dW_far_39 rfl rfl rfl ?_
          refine x_iload_n dW_far_42 rfl ?_
          refine x_iload_n dW_far_43 rfl ?_
          -- at 44: .invokevirtual 105
          refine x_callV_2 c_Town_between ok_Town_between ml_W_105 dW_far_44 rfl rfl rfl rfl rfl ?_
          refine ⟨a, b, rfl, rfl, by omega, by omega, ?_⟩
          refine x_istore_4 dW_far_47 rfl rfl ?_
          refine x_aload_n dW_far_49 rfl ?_
          refine x_getR fl_W_12 rfl dW_far_50 rfl rfl rfl ?_
          refine x_iload_n dW_far_53 rfl ?_
          refine x_iload_n dW_far_54 rfl ?_
          refine x_iload_n dW_far_55 rfl ?_
          -- at 56: .invokevirtual 109
          refine x_callV_3 c_Town_setBetween ok_Town_setBetween ml_W_109 dW_far_56 rfl rfl rfl rfl rfl ?_
          refine ⟨a, b, d, rfl, rfl, by omega, by omega, ?_⟩
          refine x_iload dW_far_59 rfl ?_
          -- at 61: .ireturn
          refine x_ireturn dW_far_61 rfl rfl ?_
          refine h1 _ (fun k hk => ?_) ?_
          · rw [up2_n _ _ _ (by omega), up2_n _ _ _ (by omega)]
          · rw [cE_u0, cE_u0]
        · refine x_if_ne (tgt := 38) dW_far_32 (by decide) (fun h => absurd (by decide) h) (fun _ => ?_)
          refine x_bipush (v := -2) dW_far_35 rfl ?_
          -- at 37: .ireturn
          refine x_ireturn dW_far_37 rfl rfl ?_
          have := h1 I (fun _ _ => rfl) (by rw [if_pos hd])
          rw [if_pos hd] at this
          exact this
      · exact none1 (Or.inr (Or.inr c1))
    · refine x_if_eq (tgt := 23) dW_far_15 (by decide) (fun _ => ?_) (fun h => absurd (by decide) h)
      exact none1 (Or.inr (Or.inl hv))
  · refine x_if_eq (tgt := 23) dW_far_6 (by decide) (fun _ => ?_) (fun h => absurd (by decide) h)
    exact none1 (Or.inl hu)
def hushS (E : IM) (t v : Int32) : Int32 := if ¬ inR t 0 5 then -1 else if ¬ inR v 0 9 then -2 else E 1 (cl t)
def hushU (E : IM) (t v : Int32) : IM := if ¬ inR t 0 5 then E else if ¬ inR v 0 9 then E else up2 E 1 (cl t) v
def sp_W_hush : SpT := fun as S I L Post => ∃ t v : Int32, cSp [.int t, .int v] (fun E => .int (hushS E t v)) (fun E => hushU E t v) as S I L Post
set_option maxHeartbeats 4000000 in
set_option maxRecDepth 100000 in
theorem c_W_hush : Con mW_hush 3 0 0 sp_W_hush := by
  refine con_of_X rfl fun G as S I L Post hs => ?_
  obtain ⟨t, v, rfl, rfl, hok, h1⟩ := hs
  dsimp only at h1
  refine ⟨1, Nat.le_of_ble_eq_true rfl, ?_⟩
  show X mW_hush G _ S1 I L 0 [.ref 0, .int t, .int v, .null] [] Post
  refine x_iload_n dW_hush_0 rfl ?_
  refine x_iconst (v := 0) dW_hush_1 rfl ?_
  refine x_iconst (v := 5) dW_hush_2 rfl ?_
  -- at 3: .invokestatic 101
  refine x_callS_3 c_W_within ok_W_within ml_W_101 dW_hush_3 rfl rfl ?_
  refine ⟨_, _, _, rfl, fun hu => ?_, fun hu => ?_⟩
  · refine x_if_ne (tgt := 11) dW_hush_6 (by decide) (fun _ => ?_) (fun h => absurd h (by decide))
    rw [hushS, hushU, if_neg (not_not_intro hu), if_neg (not_not_intro hu)] at h1
    refine x_iload_n dW_hush_11 rfl ?_
    refine x_iconst (v := 0) dW_hush_12 rfl ?_
    refine x_bipush (v := 9) dW_hush_13 rfl ?_
    -- at 15: .invokestatic 101
    refine x_callS_3 c_W_within ok_W_within ml_W_101 dW_hush_15 rfl rfl ?_
    refine ⟨_, _, _, rfl, fun hv => ?_, fun hv => ?_⟩
    · refine x_if_ne (tgt := 24) dW_hush_18 (by decide) (fun _ => ?_) (fun h => absurd h (by decide))
      obtain ⟨a, ha, rfl⟩ := inR_of (n := 5) (by decide) hu
      rw [if_neg (not_not_intro hv), if_neg (not_not_intro hv), cl_nI (by omega)] at h1
      refine x_aload_n dW_hush_24 rfl ?_
      refine x_getR fl_W_12 rfl dW_hush_25 rfl rfl rfl ?_
      refine x_getR fl_W_113 rfl dW_hush_28 rfl rfl rfl ?_
      refine x_iload_n dW_hush_31 rfl ?_
      refine x_ialdJ dW_hush_32 rfl rfl rfl (by omega) ?_
      refine x_istoren_3 dW_hush_33 rfl rfl ?_
      refine x_aload_n dW_hush_34 rfl ?_
      refine x_getR fl_W_12 rfl dW_hush_35 rfl rfl rfl ?_
      refine x_getR fl_W_113 rfl dW_hush_38 rfl rfl rfl ?_
      refine x_iload_n dW_hush_41 rfl ?_
      refine x_iload_n dW_hush_42 rfl ?_
      refine x_iastJ dW_hush_43 rfl rfl rfl (by omega) ?_
      refine x_iload_n dW_hush_44 rfl ?_
      -- at 45: .ireturn
      refine x_ireturn dW_hush_45 rfl rfl ?_
      exact h1 _ (fun k hk => by rw [up2_n _ _ _ (by omega)]) (cE_u1 _ _ _)
    · refine x_if_ne (tgt := 24) dW_hush_18 (by decide) (fun h => absurd (by decide) h) (fun _ => ?_)
      rw [if_pos hv, if_pos hv] at h1
      refine x_bipush (v := -2) dW_hush_21 rfl ?_
      -- at 23: .ireturn
      refine x_ireturn dW_hush_23 rfl rfl ?_
      exact h1 I (fun _ _ => rfl) rfl
  · refine x_if_ne (tgt := 11) dW_hush_6 (by decide) (fun h => absurd (by decide) h) (fun _ => ?_)
    rw [hushS, hushU, if_pos hu, if_pos hu] at h1
    refine x_iconst (v := -1) dW_hush_9 rfl ?_
    -- at 10: .ireturn
    refine x_ireturn dW_hush_10 rfl rfl ?_
    exact h1 I (fun _ _ => rfl) rfl
def strideS (E : IM) (v : Int32) : Int32 := if ¬ inR v 0 9 then -2 else E 29 0
def strideU (E : IM) (v : Int32) : IM := if ¬ inR v 0 9 then E else up2 E 29 0 v
def sp_W_stride : SpT := fun as S I L Post => ∃ v : Int32, cSp [.int v] (fun E => .int (strideS E v)) (fun E => strideU E v) as S I L Post
set_option maxHeartbeats 4000000 in
set_option maxRecDepth 100000 in
theorem c_W_stride : Con mW_stride 3 0 0 sp_W_stride := by
  refine con_of_X rfl fun G as S I L Post hs => ?_
  obtain ⟨v, rfl, rfl, hok, h1⟩ := hs
  dsimp only at h1
  refine ⟨1, Nat.le_of_ble_eq_true rfl, ?_⟩
  show X mW_stride G _ S1 I L 0 [.ref 0, .int v, .null] [] Post
  refine x_iload_n dW_stride_0 rfl ?_
  refine x_iconst (v := 0) dW_stride_1 rfl ?_
  refine x_bipush (v := 9) dW_stride_2 rfl ?_
  -- at 4: .invokestatic 101
  refine x_callS_3 c_W_within ok_W_within ml_W_101 dW_stride_4 rfl rfl ?_
  refine ⟨_, _, _, rfl, fun hu => ?_, fun hu => ?_⟩
  · refine x_if_ne (tgt := 13) dW_stride_7 (by decide) (fun _ => ?_) (fun h => absurd h (by decide))
    rw [strideS, strideU, if_neg (not_not_intro hu), if_neg (not_not_intro hu)] at h1
    refine x_aload_n dW_stride_13 rfl ?_
    refine x_getR fl_W_12 rfl dW_stride_14 rfl rfl rfl ?_
    refine x_getI fl_W_117 rfl dW_stride_17 rfl rfl ?_
    refine x_istoren_2 dW_stride_20 rfl rfl ?_
    refine x_aload_n dW_stride_21 rfl ?_
    refine x_getR fl_W_12 rfl dW_stride_22 rfl rfl rfl ?_
    refine x_iload_n dW_stride_25 rfl ?_
    refine x_putI fl_W_117 rfl dW_stride_26 (by decide) rfl rfl rfl rfl ?_
    refine x_iload_n dW_stride_29 rfl ?_
    -- at 30: .ireturn
    refine x_ireturn dW_stride_30 rfl rfl ?_
    exact h1 _ (fun k hk => by rw [up2_n _ _ _ (by omega)]) (cE_s0 _ _)
  · refine x_if_ne (tgt := 13) dW_stride_7 (by decide) (fun h => absurd (by decide) h) (fun _ => ?_)
    rw [strideS, strideU, if_pos hu, if_pos hu] at h1
    refine x_bipush (v := -2) dW_stride_10 rfl ?_
    -- at 12: .ireturn
    refine x_ireturn dW_stride_12 rfl rfl ?_
    exact h1 I (fun _ _ => rfl) rfl
def countS (E : IM) (w : Int32) : Int32 := if w = 0 then E 29 0 else if w = 1 then E 29 1 else if w = 2 then E 29 2 else if w = 3 then E 29 3 else if w = 4 then E 29 4 else if w = 5 then E 29 5 else if w = 6 then E 29 6 else -2
def sp_W_count : SpT := fun as S I L Post => ∃ w : Int32, cSp [.int w] (fun E => .int (countS E w)) (fun E => E) as S I L Post
theorem toInt_out {w : Int32} {n : Nat} (hn : n < 2 ^ 31) (h : ∀ k, k ≤ n → ¬ w = nI k) : w.toInt < 0 ∨ (n : Int) < w.toInt := by
  by_cases h0 : 0 ≤ w.toInt
  · refine Or.inr ?_
    by_cases h1 : (n : Int) < w.toInt
    · exact h1
    · exfalso
      have hw : w = nI w.toInt.toNat := by
        apply Int32.toInt_inj.mp
        rw [nI_toInt (by omega)]
        omega
      exact h w.toInt.toNat (by omega) hw
  · exact Or.inl (by omega)
set_option maxHeartbeats 4000000 in
set_option maxRecDepth 100000 in
theorem c_W_count : Con mW_count 2 0 0 sp_W_count := by
  refine con_of_X rfl fun G as S I L Post hs => ?_
  obtain ⟨w, rfl, rfl, hok, h1⟩ := hs
  dsimp only at h1
  have h1 := h1 I (fun _ _ => rfl) rfl
  refine ⟨0, Nat.le_of_ble_eq_true rfl, ?_⟩
  show X mW_count G _ S1 I L 0 [.ref 0, .int w] [] Post
  refine x_iload_n dW_count_0 rfl ?_
  -- at 1: .tableswitch 99 0 6 #[43, 51, 59, 67, 75, 83, 91]
  by_cases w0 : w = 0
  · subst w0
    refine x_tableIn (tgt := 44) dW_count_1 (by decide) (by decide) rfl (by decide) ?_
    refine x_aload_n dW_count_44 rfl ?_
    refine x_getR fl_W_12 rfl dW_count_45 rfl rfl rfl ?_
    refine x_getI fl_W_117 rfl dW_count_48 rfl rfl ?_
    -- at 51: .ireturn
    refine x_ireturn dW_count_51 rfl rfl ?_
    exact h1
  by_cases w1 : w = 1
  · subst w1
    refine x_tableIn (tgt := 52) dW_count_1 (by decide) (by decide) rfl (by decide) ?_
    refine x_aload_n dW_count_52 rfl ?_
    refine x_getR fl_W_19 rfl dW_count_53 rfl rfl rfl ?_
    refine x_getI fl_W_121 rfl dW_count_56 rfl rfl ?_
    -- at 59: .ireturn
    refine x_ireturn dW_count_59 rfl rfl ?_
    exact h1
  by_cases w2 : w = 2
  · subst w2
    refine x_tableIn (tgt := 60) dW_count_1 (by decide) (by decide) rfl (by decide) ?_
    refine x_aload_n dW_count_60 rfl ?_
    refine x_getR fl_W_26 rfl dW_count_61 rfl rfl rfl ?_
    refine x_getI fl_W_124 rfl dW_count_64 rfl rfl ?_
    -- at 67: .ireturn
    refine x_ireturn dW_count_67 rfl rfl ?_
    exact h1
  by_cases w3 : w = 3
  · subst w3
    refine x_tableIn (tgt := 68) dW_count_1 (by decide) (by decide) rfl (by decide) ?_
    refine x_aload_n dW_count_68 rfl ?_
    refine x_getR fl_W_33 rfl dW_count_69 rfl rfl rfl ?_
    refine x_getI fl_W_125 rfl dW_count_72 rfl rfl ?_
    -- at 75: .ireturn
    refine x_ireturn dW_count_75 rfl rfl ?_
    exact h1
  by_cases w4 : w = 4
  · subst w4
    refine x_tableIn (tgt := 76) dW_count_1 (by decide) (by decide) rfl (by decide) ?_
    refine x_aload_n dW_count_76 rfl ?_
    refine x_getR fl_W_47 rfl dW_count_77 rfl rfl rfl ?_
    refine x_getI fl_W_126 rfl dW_count_80 rfl rfl ?_
    -- at 83: .ireturn
    refine x_ireturn dW_count_83 rfl rfl ?_
    exact h1
  by_cases w5 : w = 5
  · subst w5
    refine x_tableIn (tgt := 84) dW_count_1 (by decide) (by decide) rfl (by decide) ?_
    refine x_aload_n dW_count_84 rfl ?_
    refine x_getR fl_W_47 rfl dW_count_85 rfl rfl rfl ?_
    refine x_getI fl_W_127 rfl dW_count_88 rfl rfl ?_
    -- at 91: .ireturn
    refine x_ireturn dW_count_91 rfl rfl ?_
    exact h1
  by_cases w6 : w = 6
  · subst w6
    refine x_tableIn (tgt := 92) dW_count_1 (by decide) (by decide) rfl (by decide) ?_
    refine x_aload_n dW_count_92 rfl ?_
    refine x_getR fl_W_40 rfl dW_count_93 rfl rfl rfl ?_
    refine x_getI fl_W_130 rfl dW_count_96 rfl rfl ?_
    -- at 99: .ireturn
    refine x_ireturn dW_count_99 rfl rfl ?_
    exact h1
  have ho := toInt_out (w := w) (n := 6) (by omega) (fun k hk => by
    rcases (show k = 0 ∨ k = 1 ∨ k = 2 ∨ k = 3 ∨ k = 4 ∨ k = 5 ∨ k = 6 by omega) with rfl | rfl | rfl | rfl | rfl | rfl | rfl <;> assumption)
  refine x_tableOut (tgt := 100) dW_count_1 ho (by decide) ?_
  refine x_bipush (v := -2) dW_count_100 rfl ?_
  -- at 102: .ireturn
  refine x_ireturn dW_count_102 rfl rfl ?_
  rw [countS, if_neg w0, if_neg w1, if_neg w2, if_neg w3, if_neg w4, if_neg w5, if_neg w6] at h1
  exact h1
def forceS (E : IM) (t : Int32) : Int32 := if ¬ inR t 0 (E 29 4 - 1) then -2 else E 29 5
def forceU (E : IM) (t : Int32) : IM := if ¬ inR t 0 (E 29 4 - 1) then E else up2 E 29 5 t
def sp_W_force : SpT := fun as S I L Post => ∃ t : Int32, cSp [.int t] (fun E => .int (forceS E t)) (fun E => forceU E t) as S I L Post
set_option maxHeartbeats 4000000 in
set_option maxRecDepth 100000 in
theorem c_W_force : Con mW_force 3 0 0 sp_W_force := by
  refine con_of_X rfl fun G as S I L Post hs => ?_
  obtain ⟨t, rfl, rfl, hok, h1⟩ := hs
  dsimp only at h1
  refine ⟨1, Nat.le_of_ble_eq_true rfl, ?_⟩
  show X mW_force G _ S1 I L 0 [.ref 0, .int t, .null] [] Post
  refine x_iload_n dW_force_0 rfl ?_
  refine x_iconst (v := 0) dW_force_1 rfl ?_
  refine x_aload_n dW_force_2 rfl ?_
  refine x_getR fl_W_47 rfl dW_force_3 rfl rfl rfl ?_
  refine x_getI fl_W_126 rfl dW_force_6 rfl rfl ?_
  refine x_iconst (v := 1) dW_force_9 rfl ?_
  refine x_isub dW_force_10 ?_
  -- at 11: .invokestatic 101
  refine x_callS_3 c_W_within ok_W_within ml_W_101 dW_force_11 rfl rfl ?_
  refine ⟨_, _, _, rfl, fun hu => ?_, fun hu => ?_⟩
  · have hu : inR t 0 (cE I 29 4 - 1) := hu
    refine x_if_ne (tgt := 20) dW_force_14 (by decide) (fun _ => ?_) (fun h => absurd h (by decide))
    rw [forceS, forceU, if_neg (not_not_intro hu), if_neg (not_not_intro hu)] at h1
    refine x_aload_n dW_force_20 rfl ?_
    refine x_getR fl_W_47 rfl dW_force_21 rfl rfl rfl ?_
    refine x_getI fl_W_127 rfl dW_force_24 rfl rfl ?_
    refine x_istoren_2 dW_force_27 rfl rfl ?_
    refine x_aload_n dW_force_28 rfl ?_
    refine x_getR fl_W_47 rfl dW_force_29 rfl rfl rfl ?_
    refine x_iload_n dW_force_32 rfl ?_
    refine x_putI fl_W_127 rfl dW_force_33 (by decide) rfl rfl rfl rfl ?_
    refine x_iload_n dW_force_36 rfl ?_
    -- at 37: .ireturn
    refine x_ireturn dW_force_37 rfl rfl ?_
    exact h1 _ (fun k hk => by rw [up2_n _ _ _ (by omega)]) (cE_s5 _ _)
  · have hu : ¬ inR t 0 (cE I 29 4 - 1) := hu
    refine x_if_ne (tgt := 20) dW_force_14 (by decide) (fun h => absurd (by decide) h) (fun _ => ?_)
    rw [forceS, forceU, if_pos hu, if_pos hu] at h1
    refine x_bipush (v := -2) dW_force_17 rfl ?_
    -- at 19: .ireturn
    refine x_ireturn dW_force_19 rfl rfl ?_
    exact h1 I (fun _ _ => rfl) rfl
