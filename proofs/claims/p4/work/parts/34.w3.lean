/-! the class's calls: what is told of people, promises, sayings -/
def toldS (E : IM) (p w : Int32) : Int32 := if ¬ inR p 0 (E 29 1 - 1) then -5 else if w = 0 then E 2 (cl p) else if w = 1 then E 3 (cl p) else if w = 2 then E 4 (cl p) else if w = 3 then E 5 (cl p) else if w = 4 then E 6 (cl p) else if w = 5 then E 7 (cl p) else if w = 6 then E 8 (cl p) else if inR w 7 12 then whereV E (cl p) (w - 7) else -7
def sp_W_told : SpT := fun as S I L Post => ∃ p w : Int32, cSp [.int p, .int w] (fun E => .int (toldS E p w)) (fun E => E) as S I L Post
set_option maxHeartbeats 4000000 in
set_option maxRecDepth 100000 in
theorem c_W_told : Con mW_told 4 0 0 sp_W_told := by
  refine con_of_X rfl fun G as S I L Post hs => ?_
  obtain ⟨p, w, rfl, rfl, hok, h1⟩ := hs
  dsimp only at h1
  refine ⟨0, Nat.le_of_ble_eq_true rfl, ?_⟩
  show X mW_told G _ S1 I L 0 [.ref 0, .int p, .int w] [] Post
  have hn : I 4 8 = nI (pN (cE I)) := hok.1.1
  have h8 := hok.1.2.1
  have h1 := h1 I (fun _ _ => rfl) rfl
  refine x_aload_n dW_told_0 rfl ?_
  refine x_getR fl_W_19 rfl dW_told_1 rfl rfl rfl ?_
  refine x_iload_n dW_told_4 rfl ?_
  -- at 5: .invokevirtual 143
  refine x_callV_1 c_Folk_has ok_Folk_has ml_W_143 dW_told_5 rfl rfl rfl rfl rfl ?_
  refine ⟨_, rfl, rfl, fun a1 => ?_, fun a1 => ?_⟩
  · have a1 : inR p 0 (cE I 29 1 - 1) := a1
    refine x_if_ne (tgt := 14) dW_told_8 (by decide) (fun _ => ?_) (fun h => absurd h (by decide))
    rw [toldS, if_neg (not_not_intro a1)] at h1
    rw [show cE I 29 1 = nI (pN (cE I)) from hn] at a1
    obtain ⟨k, hk, rfl⟩ := has_nat (by omega) a1
    rw [cl_nI (by omega)] at h1
    refine x_iload_n dW_told_14 rfl ?_
    -- at 15: .tableswitch 111 0 6 #[41, 51, 61, 71, 81, 91, 101]
    by_cases w0 : w = 0
    · subst w0
      refine x_tableIn (tgt := 56) dW_told_15 (by decide) (by decide) rfl (by decide) ?_
      refine x_aload_n dW_told_56 rfl ?_
      refine x_getR fl_W_19 rfl dW_told_57 rfl rfl rfl ?_
      refine x_getR fl_W_149 rfl dW_told_60 rfl rfl rfl ?_
      refine x_iload_n dW_told_63 rfl ?_
      refine x_ialdJ dW_told_64 rfl rfl rfl (by omega) ?_
      -- at 65: .ireturn
      refine x_ireturn dW_told_65 rfl rfl ?_
      exact h1
    by_cases w1 : w = 1
    · subst w1
      refine x_tableIn (tgt := 66) dW_told_15 (by decide) (by decide) rfl (by decide) ?_
      refine x_aload_n dW_told_66 rfl ?_
      refine x_getR fl_W_19 rfl dW_told_67 rfl rfl rfl ?_
      refine x_getR fl_W_152 rfl dW_told_70 rfl rfl rfl ?_
      refine x_iload_n dW_told_73 rfl ?_
      refine x_ialdJ dW_told_74 rfl rfl rfl (by omega) ?_
      -- at 75: .ireturn
      refine x_ireturn dW_told_75 rfl rfl ?_
      exact h1
    by_cases w2 : w = 2
    · subst w2
      refine x_tableIn (tgt := 76) dW_told_15 (by decide) (by decide) rfl (by decide) ?_
      refine x_aload_n dW_told_76 rfl ?_
      refine x_getR fl_W_19 rfl dW_told_77 rfl rfl rfl ?_
      refine x_getR fl_W_155 rfl dW_told_80 rfl rfl rfl ?_
      refine x_iload_n dW_told_83 rfl ?_
      refine x_ialdJ dW_told_84 rfl rfl rfl (by omega) ?_
      -- at 85: .ireturn
      refine x_ireturn dW_told_85 rfl rfl ?_
      exact h1
    by_cases w3 : w = 3
    · subst w3
      refine x_tableIn (tgt := 86) dW_told_15 (by decide) (by decide) rfl (by decide) ?_
      refine x_aload_n dW_told_86 rfl ?_
      refine x_getR fl_W_19 rfl dW_told_87 rfl rfl rfl ?_
      refine x_getR fl_W_158 rfl dW_told_90 rfl rfl rfl ?_
      refine x_iload_n dW_told_93 rfl ?_
      refine x_ialdJ dW_told_94 rfl rfl rfl (by omega) ?_
      -- at 95: .ireturn
      refine x_ireturn dW_told_95 rfl rfl ?_
      exact h1
    by_cases w4 : w = 4
    · subst w4
      refine x_tableIn (tgt := 96) dW_told_15 (by decide) (by decide) rfl (by decide) ?_
      refine x_aload_n dW_told_96 rfl ?_
      refine x_getR fl_W_19 rfl dW_told_97 rfl rfl rfl ?_
      refine x_getR fl_W_161 rfl dW_told_100 rfl rfl rfl ?_
      refine x_iload_n dW_told_103 rfl ?_
      refine x_ialdJ dW_told_104 rfl rfl rfl (by omega) ?_
      -- at 105: .ireturn
      refine x_ireturn dW_told_105 rfl rfl ?_
      exact h1
    by_cases w5 : w = 5
    · subst w5
      refine x_tableIn (tgt := 106) dW_told_15 (by decide) (by decide) rfl (by decide) ?_
      refine x_aload_n dW_told_106 rfl ?_
      refine x_getR fl_W_19 rfl dW_told_107 rfl rfl rfl ?_
      refine x_getR fl_W_164 rfl dW_told_110 rfl rfl rfl ?_
      refine x_iload_n dW_told_113 rfl ?_
      refine x_ialdJ dW_told_114 rfl rfl rfl (by omega) ?_
      -- at 115: .ireturn
      refine x_ireturn dW_told_115 rfl rfl ?_
      exact h1
    by_cases w6 : w = 6
    · subst w6
      refine x_tableIn (tgt := 116) dW_told_15 (by decide) (by decide) rfl (by decide) ?_
      refine x_aload_n dW_told_116 rfl ?_
      refine x_getR fl_W_19 rfl dW_told_117 rfl rfl rfl ?_
      refine x_getR fl_W_167 rfl dW_told_120 rfl rfl rfl ?_
      refine x_iload_n dW_told_123 rfl ?_
      refine x_ialdJ dW_told_124 rfl rfl rfl (by omega) ?_
      -- at 125: .ireturn
      refine x_ireturn dW_told_125 rfl rfl ?_
      exact h1
    have ho := toInt_out (w := w) (n := 6) (by omega) (fun k hk => by
      rcases (show k = 0 ∨ k = 1 ∨ k = 2 ∨ k = 3 ∨ k = 4 ∨ k = 5 ∨ k = 6 by omega) with rfl | rfl | rfl | rfl | rfl | rfl | rfl <;> assumption)
    rw [if_neg w0, if_neg w1, if_neg w2, if_neg w3, if_neg w4, if_neg w5, if_neg w6] at h1
    refine x_tableOut (tgt := 126) dW_told_15 ho (by decide) ?_
    refine x_iload_n dW_told_126 rfl ?_
    refine x_bipush (v := 7) dW_told_127 rfl ?_
    refine x_bipush (v := 12) dW_told_129 rfl ?_
    -- at 131: .invokestatic 101
    refine x_callS_3 c_W_within ok_W_within ml_W_101 dW_told_131 rfl rfl ?_
    refine ⟨_, _, _, rfl, fun a2 => ?_, fun a2 => ?_⟩
    · have a2 : inR w 7 12 := a2
      refine x_if_eq (tgt := 152) dW_told_134 (by decide) (fun h => absurd h (by decide)) (fun _ => ?_)
      rw [if_pos a2] at h1
      refine x_aload_n dW_told_137 rfl ?_
      refine x_getR fl_W_19 rfl dW_told_138 rfl rfl rfl ?_
      refine x_iload_n dW_told_141 rfl ?_
      refine x_iload_n dW_told_142 rfl ?_
      refine x_bipush (v := 7) dW_told_143 rfl ?_
      refine x_isub dW_told_145 ?_
      -- at 146: .invokevirtual 170
      obtain ⟨k2, hk2, ek⟩ := (hok.1.2.2 k hk).1
      have ek : I 5 k = nI k2 := ek
      refine x_callV_2 c_Folk_placeOf ok_Folk_placeOf ml_W_170 dW_told_146 rfl rfl rfl rfl rfl ?_
      refine ⟨k, k2, _, rfl, rfl, by omega, ek, hk2, ?_⟩
      refine x_goto (tgt := 154) dW_told_149 (by decide) ?_
      -- at 154: .ireturn
      refine x_ireturn dW_told_154 rfl rfl ?_
      rw [← where_eq (cVE I) hk] at h1
      unfold whereV at h1
      rw [show cV I 2 k = nI k2 from ek] at h1
      exact h1
    · have a2 : ¬ inR w 7 12 := a2
      refine x_if_eq (tgt := 152) dW_told_134 (by decide) (fun _ => ?_) (fun h => absurd (by decide) h)
      rw [if_neg a2] at h1
      refine x_bipush (v := -7) dW_told_152 rfl ?_
      -- at 154: .ireturn
      refine x_ireturn dW_told_154 rfl rfl ?_
      exact h1
  · have a1 : ¬ inR p 0 (cE I 29 1 - 1) := a1
    refine x_if_ne (tgt := 14) dW_told_8 (by decide) (fun h => absurd (by decide) h) (fun _ => ?_)
    rw [toldS, if_pos a1] at h1
    refine x_bipush (v := -5) dW_told_11 rfl ?_
    -- at 13: .ireturn
    refine x_ireturn dW_told_13 rfl rfl ?_
    exact h1
abbrev proC (E : IM) (w n v g : Int32) : Prop := inR w 0 7 ∧ inR n 1 99 ∧ inR v 0 99 ∧ inR g (-1) (E 29 2 - 1)
def promiseS (E : IM) (w n v g : Int32) : Int32 := if ¬ proC E w n v g then -2 else if ¬ E 29 2 < 8 then -4 else E 29 2
def addQ (E : IM) (q : Nat) (w n v g : Int32) : IM := up2 (up2 (up2 (up2 (up2 E 10 q w) 11 q n) 12 q v) 13 q g) 29 2 (nI q + 1)
def promiseU (E : IM) (w n v g : Int32) : IM := if ¬ proC E w n v g then E else if ¬ E 29 2 < 8 then E else addQ E (qN E) w n v g
def sp_W_promise : SpT := fun as S I L Post => ∃ w n v g : Int32, cSp [.int w, .int n, .int v, .int g] (fun E => .int (promiseS E w n v g)) (fun E => promiseU E w n v g) as S I L Post
set_option maxHeartbeats 4000000 in
set_option maxRecDepth 100000 in
theorem c_W_promise : Con mW_promise 3 0 0 sp_W_promise := by
  refine con_of_X rfl fun G as S I L Post hs => ?_
  obtain ⟨w, n, v, g, rfl, rfl, hok, h1⟩ := hs
  dsimp only at h1
  refine ⟨0, Nat.le_of_ble_eq_true rfl, ?_⟩
  show X mW_promise G _ S1 I L 0 [.ref 0, .int w, .int n, .int v, .int g] [] Post
  have hn : I 13 4 = nI (qN (cE I)) := hok.2.1.1
  have h8 := hok.2.1.2.1
  have bad : ¬ proC (cE I) w n v g → X mW_promise G (3, 0, 0) S1 I L 48 [.ref 0, .int w, .int n, .int v, .int g] [] Post := by
    intro hc
    rw [promiseS, promiseU, if_pos hc, if_pos hc] at h1
    refine x_bipush (v := -2) dW_promise_48 rfl ?_
    -- at 50: .ireturn
    refine x_ireturn dW_promise_50 rfl rfl ?_
    exact h1 I (fun _ _ => rfl) rfl
  refine x_iload_n dW_promise_0 rfl ?_
  refine x_iconst (v := 0) dW_promise_1 rfl ?_
  refine x_bipush (v := 7) dW_promise_2 rfl ?_
  -- at 4: .invokestatic 101
  refine x_callS_3 c_W_within ok_W_within ml_W_101 dW_promise_4 rfl rfl ?_
  refine ⟨_, _, _, rfl, fun a1 => ?_, fun a1 => ?_⟩
  · refine x_if_eq (tgt := 48) dW_promise_7 (by decide) (fun h => absurd h (by decide)) (fun _ => ?_)
    refine x_iload_n dW_promise_10 rfl ?_
    refine x_iconst (v := 1) dW_promise_11 rfl ?_
    refine x_bipush (v := 99) dW_promise_12 rfl ?_
    -- at 14: .invokestatic 101
    refine x_callS_3 c_W_within ok_W_within ml_W_101 dW_promise_14 rfl rfl ?_
    refine ⟨_, _, _, rfl, fun a2 => ?_, fun a2 => ?_⟩
    · refine x_if_eq (tgt := 48) dW_promise_17 (by decide) (fun h => absurd h (by decide)) (fun _ => ?_)
      refine x_iload_n dW_promise_20 rfl ?_
      refine x_iconst (v := 0) dW_promise_21 rfl ?_
      refine x_bipush (v := 99) dW_promise_22 rfl ?_
      -- at 24: .invokestatic 101
      refine x_callS_3 c_W_within ok_W_within ml_W_101 dW_promise_24 rfl rfl ?_
      refine ⟨_, _, _, rfl, fun a3 => ?_, fun a3 => ?_⟩
      · refine x_if_eq (tgt := 48) dW_promise_27 (by decide) (fun h => absurd h (by decide)) (fun _ => ?_)
        refine x_iload dW_promise_30 rfl ?_
        refine x_iconst (v := -1) dW_promise_32 rfl ?_
        refine x_aload_n dW_promise_33 rfl ?_
        refine x_getR fl_W_26 rfl dW_promise_34 rfl rfl rfl ?_
        refine x_getI fl_W_124 rfl dW_promise_37 rfl rfl ?_
        refine x_iconst (v := 1) dW_promise_40 rfl ?_
        refine x_isub dW_promise_41 ?_
        -- at 42: .invokestatic 101
        refine x_callS_3 c_W_within ok_W_within ml_W_101 dW_promise_42 rfl rfl ?_
        refine ⟨_, _, _, rfl, fun a4 => ?_, fun a4 => ?_⟩
        · refine x_if_ne (tgt := 51) dW_promise_45 (by decide) (fun _ => ?_) (fun h => absurd h (by decide))
          have hc : proC (cE I) w n v g := ⟨a1, a2, a3, a4⟩
          rw [promiseS, promiseU, if_neg (not_not_intro hc), if_neg (not_not_intro hc)] at h1
          refine x_aload_n dW_promise_51 rfl ?_
          refine x_getR fl_W_26 rfl dW_promise_52 rfl rfl rfl ?_
          refine x_getI fl_W_124 rfl dW_promise_55 rfl rfl ?_
          refine x_bipush (v := 8) dW_promise_58 rfl ?_
          -- at 60: .if_icmp .lt 6
          refine x_icmp_lt (tgt := 66) dW_promise_60 (by decide) (fun c1 => ?_) (fun c1 => ?_)
          · rw [if_neg (not_not_intro (show cE I 29 2 < 8 from c1)), if_neg (not_not_intro (show cE I 29 2 < 8 from c1))] at h1
            refine x_aload_n dW_promise_66 rfl ?_
            refine x_getR fl_W_26 rfl dW_promise_67 rfl rfl rfl ?_
            refine x_iload_n dW_promise_70 rfl ?_
            refine x_iload_n dW_promise_71 rfl ?_
            refine x_iload_n dW_promise_72 rfl ?_
            refine x_iload dW_promise_73 rfl ?_
            -- at 75: .invokevirtual 173
            have hlt : qN (cE I) < 8 := by
              rw [hn] at c1
              exact (nI_ltI (b := 8) (by omega) (by omega)).mp c1
            refine x_callV_4 c_Vows_add ok_Vows_add ml_W_173 dW_promise_75 rfl rfl rfl rfl rfl ?_
            refine ⟨qN (cE I), w, n, v, g, rfl, rfl, hlt, hn, ?_⟩
            refine x_ireturn dW_promise_78 rfl rfl ?_
            have := h1 (cVadd I (qN (cE I)) w n v g) (fun j hj => by unfold cVadd; rw [up2_n _ _ _ (by omega), up2_n _ _ _ (by omega), up2_n _ _ _ (by omega), up2_n _ _ _ (by omega), up2_n _ _ _ (by omega)]) (by unfold cVadd addQ; rw [cE_s2, cE_u13, cE_u12, cE_u11, cE_u10])
            rw [show cE I 29 2 = nI (qN (cE I)) from hn] at this
            exact this
          · rw [if_pos (show ¬ cE I 29 2 < 8 from c1), if_pos (show ¬ cE I 29 2 < 8 from c1)] at h1
            refine x_bipush (v := -4) dW_promise_63 rfl ?_
            -- at 65: .ireturn
            refine x_ireturn dW_promise_65 rfl rfl ?_
            exact h1 I (fun _ _ => rfl) rfl
        · refine x_if_ne (tgt := 51) dW_promise_45 (by decide) (fun h => absurd (by decide) h) (fun _ => ?_)
          exact bad (fun z => a4 z.2.2.2)
      · refine x_if_eq (tgt := 48) dW_promise_27 (by decide) (fun _ => ?_) (fun h => absurd (by decide) h)
        exact bad (fun z => a3 z.2.2.1)
    · refine x_if_eq (tgt := 48) dW_promise_17 (by decide) (fun _ => ?_) (fun h => absurd (by decide) h)
      exact bad (fun z => a2 z.2.1)
  · refine x_if_eq (tgt := 48) dW_promise_7 (by decide) (fun _ => ?_) (fun h => absurd (by decide) h)
    exact bad (fun z => a1 z.1)
def promisedS (E : IM) (q w : Int32) : Int32 := if ¬ inR q 0 (E 29 2 - 1) then -5 else if w = 0 then E 10 (cl q) else if w = 1 then E 11 (cl q) else if w = 2 then E 12 (cl q) else if w = 3 then E 13 (cl q) else -7
def sp_W_promised : SpT := fun as S I L Post => ∃ q w : Int32, cSp [.int q, .int w] (fun E => .int (promisedS E q w)) (fun E => E) as S I L Post
set_option maxHeartbeats 4000000 in
set_option maxRecDepth 100000 in
theorem c_W_promised : Con mW_promised 4 0 0 sp_W_promised := by
  refine con_of_X rfl fun G as S I L Post hs => ?_
  obtain ⟨p, w, rfl, rfl, hok, h1⟩ := hs
  dsimp only at h1
  refine ⟨0, Nat.le_of_ble_eq_true rfl, ?_⟩
  show X mW_promised G _ S1 I L 0 [.ref 0, .int p, .int w] [] Post
  have hn : I 13 4 = nI (qN (cE I)) := hok.2.1.1
  have h8 := hok.2.1.2.1
  have h1 := h1 I (fun _ _ => rfl) rfl
  refine x_aload_n dW_promised_0 rfl ?_
  refine x_getR fl_W_26 rfl dW_promised_1 rfl rfl rfl ?_
  refine x_iload_n dW_promised_4 rfl ?_
  -- at 5: .invokevirtual 174
  refine x_callV_1 c_Vows_has ok_Vows_has ml_W_174 dW_promised_5 rfl rfl rfl rfl rfl ?_
  refine ⟨_, rfl, rfl, fun a1 => ?_, fun a1 => ?_⟩
  · have a1 : inR p 0 (cE I 29 2 - 1) := a1
    refine x_if_ne (tgt := 14) dW_promised_8 (by decide) (fun _ => ?_) (fun h => absurd h (by decide))
    rw [promisedS, if_neg (not_not_intro a1)] at h1
    rw [show cE I 29 2 = nI (qN (cE I)) from hn] at a1
    obtain ⟨k, hk, rfl⟩ := has_nat (by omega) a1
    rw [cl_nI (by omega)] at h1
    refine x_iload_n dW_promised_14 rfl ?_
    -- at 15: .tableswitch 69 0 3 #[29, 39, 49, 59]
    by_cases w0 : w = 0
    · subst w0
      refine x_tableIn (tgt := 44) dW_promised_15 (by decide) (by decide) rfl (by decide) ?_
      refine x_aload_n dW_promised_44 rfl ?_
      refine x_getR fl_W_26 rfl dW_promised_45 rfl rfl rfl ?_
      refine x_getR fl_W_175 rfl dW_promised_48 rfl rfl rfl ?_
      refine x_iload_n dW_promised_51 rfl ?_
      refine x_ialdJ dW_promised_52 rfl rfl rfl (by omega) ?_
      -- at 53: .ireturn
      refine x_ireturn dW_promised_53 rfl rfl ?_
      exact h1
    by_cases w1 : w = 1
    · subst w1
      refine x_tableIn (tgt := 54) dW_promised_15 (by decide) (by decide) rfl (by decide) ?_
      refine x_aload_n dW_promised_54 rfl ?_
      refine x_getR fl_W_26 rfl dW_promised_55 rfl rfl rfl ?_
      refine x_getR fl_W_178 rfl dW_promised_58 rfl rfl rfl ?_
      refine x_iload_n dW_promised_61 rfl ?_
      refine x_ialdJ dW_promised_62 rfl rfl rfl (by omega) ?_
      -- at 63: .ireturn
      refine x_ireturn dW_promised_63 rfl rfl ?_
      exact h1
    by_cases w2 : w = 2
    · subst w2
      refine x_tableIn (tgt := 64) dW_promised_15 (by decide) (by decide) rfl (by decide) ?_
      refine x_aload_n dW_promised_64 rfl ?_
      refine x_getR fl_W_26 rfl dW_promised_65 rfl rfl rfl ?_
      refine x_getR fl_W_181 rfl dW_promised_68 rfl rfl rfl ?_
      refine x_iload_n dW_promised_71 rfl ?_
      refine x_ialdJ dW_promised_72 rfl rfl rfl (by omega) ?_
      -- at 73: .ireturn
      refine x_ireturn dW_promised_73 rfl rfl ?_
      exact h1
    by_cases w3 : w = 3
    · subst w3
      refine x_tableIn (tgt := 74) dW_promised_15 (by decide) (by decide) rfl (by decide) ?_
      refine x_aload_n dW_promised_74 rfl ?_
      refine x_getR fl_W_26 rfl dW_promised_75 rfl rfl rfl ?_
      refine x_getR fl_W_184 rfl dW_promised_78 rfl rfl rfl ?_
      refine x_iload_n dW_promised_81 rfl ?_
      refine x_ialdJ dW_promised_82 rfl rfl rfl (by omega) ?_
      -- at 83: .ireturn
      refine x_ireturn dW_promised_83 rfl rfl ?_
      exact h1
    have ho := toInt_out (w := w) (n := 3) (by omega) (fun k hk => by
      rcases (show k = 0 ∨ k = 1 ∨ k = 2 ∨ k = 3 by omega) with rfl | rfl | rfl | rfl <;> assumption)
    rw [if_neg w0, if_neg w1, if_neg w2, if_neg w3] at h1
    refine x_tableOut (tgt := 84) dW_promised_15 ho (by decide) ?_
    refine x_bipush (v := -7) dW_promised_84 rfl ?_
    -- at 86: .ireturn
    refine x_ireturn dW_promised_86 rfl rfl ?_
    exact h1
  · have a1 : ¬ inR p 0 (cE I 29 2 - 1) := a1
    refine x_if_ne (tgt := 14) dW_promised_8 (by decide) (fun h => absurd (by decide) h) (fun _ => ?_)
    rw [promisedS, if_pos a1] at h1
    refine x_bipush (v := -5) dW_promised_11 rfl ?_
    -- at 13: .ireturn
    refine x_ireturn dW_promised_13 rfl rfl ?_
    exact h1
def saidS (E : IM) (s w : Int32) : Int32 := if ¬ inR s 0 (E 29 3 - 1) then -5 else if w = 0 then E 14 (cl s) else if w = 1 then E 15 (cl s) else if w = 2 then E 16 (cl s) else if w = 3 then E 17 (cl s) else -7
def sp_W_said : SpT := fun as S I L Post => ∃ s w : Int32, cSp [.int s, .int w] (fun E => .int (saidS E s w)) (fun E => E) as S I L Post
set_option maxHeartbeats 4000000 in
set_option maxRecDepth 100000 in
theorem c_W_said : Con mW_said 4 0 0 sp_W_said := by
  refine con_of_X rfl fun G as S I L Post hs => ?_
  obtain ⟨p, w, rfl, rfl, hok, h1⟩ := hs
  dsimp only at h1
  refine ⟨0, Nat.le_of_ble_eq_true rfl, ?_⟩
  show X mW_said G _ S1 I L 0 [.ref 0, .int p, .int w] [] Post
  have hn : I 18 4 = nI (sN (cE I)) := hok.2.2.1.1
  have h8 := hok.2.2.1.2.1
  have h1 := h1 I (fun _ _ => rfl) rfl
  refine x_aload_n dW_said_0 rfl ?_
  refine x_getR fl_W_33 rfl dW_said_1 rfl rfl rfl ?_
  refine x_iload_n dW_said_4 rfl ?_
  -- at 5: .invokevirtual 192
  refine x_callV_1 c_Sayings_has ok_Sayings_has ml_W_192 dW_said_5 rfl rfl rfl rfl rfl ?_
  refine ⟨_, rfl, rfl, fun a1 => ?_, fun a1 => ?_⟩
  · have a1 : inR p 0 (cE I 29 3 - 1) := a1
    refine x_if_ne (tgt := 14) dW_said_8 (by decide) (fun _ => ?_) (fun h => absurd h (by decide))
    rw [saidS, if_neg (not_not_intro a1)] at h1
    rw [show cE I 29 3 = nI (sN (cE I)) from hn] at a1
    obtain ⟨k, hk, rfl⟩ := has_nat (by omega) a1
    rw [cl_nI (by omega)] at h1
    have e14 : cE I 14 k = I 19 k := mk_lt hk
    have e15 : cE I 15 k = I 20 k := mk_lt hk
    have e16 : cE I 16 k = I 21 k := mk_lt hk
    have e17 : cE I 17 k = I 22 k := mk_lt hk
    rw [e14, e15, e16, e17] at h1
    refine x_iload_n dW_said_14 rfl ?_
    -- at 15: .tableswitch 69 0 3 #[29, 39, 49, 59]
    by_cases w0 : w = 0
    · subst w0
      refine x_tableIn (tgt := 44) dW_said_15 (by decide) (by decide) rfl (by decide) ?_
      refine x_aload_n dW_said_44 rfl ?_
      refine x_getR fl_W_33 rfl dW_said_45 rfl rfl rfl ?_
      refine x_getR fl_W_193 rfl dW_said_48 rfl rfl rfl ?_
      refine x_iload_n dW_said_51 rfl ?_
      refine x_ialdJ dW_said_52 rfl rfl rfl (by omega) ?_
      -- at 53: .ireturn
      refine x_ireturn dW_said_53 rfl rfl ?_
      exact h1
    by_cases w1 : w = 1
    · subst w1
      refine x_tableIn (tgt := 54) dW_said_15 (by decide) (by decide) rfl (by decide) ?_
      refine x_aload_n dW_said_54 rfl ?_
      refine x_getR fl_W_33 rfl dW_said_55 rfl rfl rfl ?_
      refine x_getR fl_W_196 rfl dW_said_58 rfl rfl rfl ?_
      refine x_iload_n dW_said_61 rfl ?_
      refine x_ialdJ dW_said_62 rfl rfl rfl (by omega) ?_
      -- at 63: .ireturn
      refine x_ireturn dW_said_63 rfl rfl ?_
      exact h1
    by_cases w2 : w = 2
    · subst w2
      refine x_tableIn (tgt := 64) dW_said_15 (by decide) (by decide) rfl (by decide) ?_
      refine x_aload_n dW_said_64 rfl ?_
      refine x_getR fl_W_33 rfl dW_said_65 rfl rfl rfl ?_
      refine x_getR fl_W_199 rfl dW_said_68 rfl rfl rfl ?_
      refine x_iload_n dW_said_71 rfl ?_
      refine x_ialdJ dW_said_72 rfl rfl rfl (by omega) ?_
      -- at 73: .ireturn
      refine x_ireturn dW_said_73 rfl rfl ?_
      exact h1
    by_cases w3 : w = 3
    · subst w3
      refine x_tableIn (tgt := 74) dW_said_15 (by decide) (by decide) rfl (by decide) ?_
      refine x_aload_n dW_said_74 rfl ?_
      refine x_getR fl_W_33 rfl dW_said_75 rfl rfl rfl ?_
      refine x_getR fl_W_202 rfl dW_said_78 rfl rfl rfl ?_
      refine x_iload_n dW_said_81 rfl ?_
      refine x_ialdJ dW_said_82 rfl rfl rfl (by omega) ?_
      -- at 83: .ireturn
      refine x_ireturn dW_said_83 rfl rfl ?_
      exact h1
    have ho := toInt_out (w := w) (n := 3) (by omega) (fun k hk => by
      rcases (show k = 0 ∨ k = 1 ∨ k = 2 ∨ k = 3 by omega) with rfl | rfl | rfl | rfl <;> assumption)
    rw [if_neg w0, if_neg w1, if_neg w2, if_neg w3] at h1
    refine x_tableOut (tgt := 84) dW_said_15 ho (by decide) ?_
    refine x_bipush (v := -7) dW_said_84 rfl ?_
    -- at 86: .ireturn
    refine x_ireturn dW_said_86 rfl rfl ?_
    exact h1
  · have a1 : ¬ inR p 0 (cE I 29 3 - 1) := a1
    refine x_if_ne (tgt := 14) dW_said_8 (by decide) (fun h => absurd (by decide) h) (fun _ => ?_)
    rw [saidS, if_pos a1] at h1
    refine x_bipush (v := -5) dW_said_11 rfl ?_
    -- at 13: .ireturn
    refine x_ireturn dW_said_13 rfl rfl ?_
    exact h1
abbrev sayC (E : IM) (q h : Int32) : Prop := inR q 0 (E 29 2 - 1) ∧ isHowP h
def sayS (E : IM) (q h : Int32) : Int32 := if ¬ sayC E q h then -2 else if ¬ E 29 3 < 10 then -4 else E 29 3
def addS (E : IM) (s : Nat) (q h : Int32) : IM := up2 (sputV E s q h) 29 3 (nI s + 1)
def sayU (E : IM) (q h : Int32) : IM := if ¬ sayC E q h then E else if ¬ E 29 3 < 10 then E else addS E (sN E) q h
theorem cE_addS (I : IM) (q h : Int32) (hn : I 18 4 = nI (sN (cE I))) (h8 : sN (cE I) ≤ 10) : cE (up2 (cSput I (sN (cE I)) q h) 18 4 (nI (sN (cE I)) + 1)) = addS (cE I) (sN (cE I)) q h := by
  have e0 : cl (I 18 4) = sN (cE I) := rfl
  generalize sN (cE I) = n at hn h8 e0 ⊢
  unfold cSput addS sputV
  rw [cE_n3, show nI n + 1 = nI (n + 1) from nI_1 n, cl_nI (by omega)]
  rw [show up2 (up2 (up2 (up2 I 19 n q) 20 n (h / 100)) 21 n (rem (h / 10) 10)) 22 n (rem h 10) 19 = up1 (I 19) n q by simp only [up2_n, up2_s, ne_eq, Nat.reduceEqDiff, not_false_eq_true], show up2 (up2 (up2 (up2 I 19 n q) 20 n (h / 100)) 21 n (rem (h / 10) 10)) 22 n (rem h 10) 20 = up1 (I 20) n (h / 100) by simp only [up2_n, up2_s, ne_eq, Nat.reduceEqDiff, not_false_eq_true], show up2 (up2 (up2 (up2 I 19 n q) 20 n (h / 100)) 21 n (rem (h / 10) 10)) 22 n (rem h 10) 21 = up1 (I 21) n (rem (h / 10) 10) by simp only [up2_n, up2_s, ne_eq, Nat.reduceEqDiff, not_false_eq_true], show up2 (up2 (up2 (up2 I 19 n q) 20 n (h / 100)) 21 n (rem (h / 10) 10)) 22 n (rem h 10) 22 = up1 (I 22) n (rem h 10) by simp only [up2_n, up2_s, ne_eq, Nat.reduceEqDiff, not_false_eq_true], mk_up, mk_up, mk_up, mk_up]
  have z : ∀ (J : IM) (f : Nat → Int32) (a : Nat), a ≠ 14 → a ≠ 15 → a ≠ 16 → a ≠ 17 → cE (upr J 22 f) a = cE J a := fun J f a _ _ _ h17 => by rw [cE_17, upr_n _ _ h17]
  funext a
  by_cases h14 : a = 14
  · subst h14
    simp only [up2_n, up2_s, ne_eq, Nat.reduceEqDiff, not_false_eq_true, upr_s, upr_n]
    rw [show cE I 14 = mk (cl (I 18 4)) (I 19) from rfl, e0]
  by_cases h15 : a = 15
  · subst h15
    simp only [up2_n, up2_s, ne_eq, Nat.reduceEqDiff, not_false_eq_true, upr_s, upr_n]
    rw [show cE I 15 = mk (cl (I 18 4)) (I 20) from rfl, e0]
  by_cases h16 : a = 16
  · subst h16
    simp only [up2_n, up2_s, ne_eq, Nat.reduceEqDiff, not_false_eq_true, upr_s, upr_n]
    rw [show cE I 16 = mk (cl (I 18 4)) (I 21) from rfl, e0]
  by_cases h17 : a = 17
  · subst h17
    simp only [up2_n, up2_s, ne_eq, Nat.reduceEqDiff, not_false_eq_true, upr_s, upr_n]
    rw [show cE I 17 = mk (cl (I 18 4)) (I 22) from rfl, e0]
  have e : ∀ b, b ≠ 14 → b ≠ 15 → b ≠ 16 → b ≠ 17 → cE (up2 (up2 (up2 (up2 I 19 n q) 20 n (h / 100)) 21 n (rem (h / 10) 10)) 22 n (rem h 10)) b = cE I b := by
    intro b b14 b15 b16 b17
    rw [show ∀ J : IM, cE (up2 J 22 n (rem h 10)) = upr (cE J) 17 _ from fun J => cE_17 J _, upr_n _ _ b17]
    rw [show ∀ J : IM, cE (up2 J 21 n (rem (h / 10) 10)) = upr (cE J) 16 _ from fun J => cE_16 J _, upr_n _ _ b16]
    rw [show ∀ J : IM, cE (up2 J 20 n (h / 100)) = upr (cE J) 15 _ from fun J => cE_15 J _, upr_n _ _ b15]
    rw [show ∀ J : IM, cE (up2 J 19 n q) = upr (cE J) 14 _ from fun J => cE_14 J _, upr_n _ _ b14]
  rw [upr_n _ _ h17, upr_n _ _ h16, upr_n _ _ h15, upr_n _ _ h14]
  by_cases h29 : a = 29
  · subst h29
    rw [up2_s, up2_s, e 29 (by omega) (by omega) (by omega) (by omega)]
    simp only [up2_n, up2_s, ne_eq, Nat.reduceEqDiff, not_false_eq_true]
  · rw [up2_n _ _ _ h29, up2_n _ _ _ h29, e a h14 h15 h16 h17, up2_n _ _ _ h17, up2_n _ _ _ h16, up2_n _ _ _ h15, up2_n _ _ _ h14]
def sp_W_say : SpT := fun as S I L Post => ∃ q h : Int32, cSp [.int q, .int h] (fun E => .int (sayS E q h)) (fun E => sayU E q h) as S I L Post
set_option maxHeartbeats 4000000 in
set_option maxRecDepth 100000 in
theorem c_W_say : Con mW_say 4 0 0 sp_W_say := by
  refine con_of_X rfl fun G as S I L Post hs => ?_
  obtain ⟨q, h, rfl, rfl, hok, h1⟩ := hs
  dsimp only at h1
  refine ⟨1, Nat.le_of_ble_eq_true rfl, ?_⟩
  show X mW_say G _ S1 I L 0 [.ref 0, .int q, .int h, .null] [] Post
  have hn : I 18 4 = nI (sN (cE I)) := hok.2.2.1.1
  have h8 := hok.2.2.1.2.1
  have bad : ¬ sayC (cE I) q h → X mW_say G (4, 0, 0) S1 I L 18 [.ref 0, .int q, .int h, .null] [] Post := by
    intro hc
    rw [sayS, sayU, if_pos hc, if_pos hc] at h1
    refine x_bipush (v := -2) dW_say_18 rfl ?_
    -- at 20: .ireturn
    refine x_ireturn dW_say_20 rfl rfl ?_
    exact h1 I (fun _ _ => rfl) rfl
  refine x_aload_n dW_say_0 rfl ?_
  refine x_getR fl_W_26 rfl dW_say_1 rfl rfl rfl ?_
  refine x_iload_n dW_say_4 rfl ?_
  -- at 5: .invokevirtual 174
  refine x_callV_1 c_Vows_has ok_Vows_has ml_W_174 dW_say_5 rfl rfl rfl rfl rfl ?_
  refine ⟨_, rfl, rfl, fun a1 => ?_, fun a1 => ?_⟩
  · refine x_if_eq (tgt := 18) dW_say_8 (by decide) (fun h => absurd h (by decide)) (fun _ => ?_)
    refine x_iload_n dW_say_11 rfl ?_
    -- at 12: .invokestatic 187
    refine x_callS_1 c_W_isHow ok_W_isHow ml_W_187 dW_say_12 rfl rfl ?_
    refine ⟨_, rfl, fun a2 => ?_, fun a2 => ?_⟩
    · refine x_if_ne (tgt := 21) dW_say_15 (by decide) (fun _ => ?_) (fun h => absurd h (by decide))
      have hc : sayC (cE I) q h := ⟨a1, a2⟩
      rw [sayS, sayU, if_neg (not_not_intro hc), if_neg (not_not_intro hc)] at h1
      refine x_aload_n dW_say_21 rfl ?_
      refine x_getR fl_W_33 rfl dW_say_22 rfl rfl rfl ?_
      refine x_getI fl_W_125 rfl dW_say_25 rfl rfl ?_
      refine x_bipush (v := 10) dW_say_28 rfl ?_
      -- at 30: .if_icmp .lt 6
      refine x_icmp_lt (tgt := 36) dW_say_30 (by decide) (fun c1 => ?_) (fun c1 => ?_)
      · rw [if_neg (not_not_intro (show cE I 29 3 < 10 from c1)), if_neg (not_not_intro (show cE I 29 3 < 10 from c1))] at h1
        have hlt : sN (cE I) < 10 := by
          rw [hn] at c1
          exact (nI_ltI (b := 10) (by omega) (by omega)).mp c1
        refine x_aload_n dW_say_36 rfl ?_
        refine x_getR fl_W_33 rfl dW_say_37 rfl rfl rfl ?_
        refine x_getI fl_W_125 rfl dW_say_40 rfl rfl ?_
        -- at 43: .istore_n 3
        rw [hn]
        refine x_istoren_3 dW_say_43 rfl rfl ?_
        refine x_aload_n dW_say_44 rfl ?_
        refine x_getR fl_W_33 rfl dW_say_45 rfl rfl rfl ?_
        refine x_iload_n dW_say_48 rfl ?_
        refine x_iload_n dW_say_49 rfl ?_
        refine x_iload_n dW_say_50 rfl ?_
        -- at 51: .invokevirtual 190
        refine x_callV_3 c_Sayings_put ok_Sayings_put ml_W_190 dW_say_51 rfl rfl rfl rfl rfl ?_
        refine ⟨sN (cE I), q, h, rfl, rfl, by omega, ?_⟩
        refine x_aload_n dW_say_54 rfl ?_
        refine x_getR fl_W_33 rfl dW_say_55 rfl rfl rfl ?_
        refine x_iload_n dW_say_58 rfl ?_
        refine x_iconst (v := 1) dW_say_59 rfl ?_
        refine x_iadd dW_say_60 ?_
        refine x_putI fl_W_125 rfl dW_say_61 (by decide) rfl rfl rfl rfl ?_
        refine x_iload_n dW_say_64 rfl ?_
        -- at 65: .ireturn
        refine x_ireturn dW_say_65 rfl rfl ?_
        have := h1 _ (fun j hj => by unfold cSput; rw [up2_n _ _ _ (by omega), up2_n _ _ _ (by omega), up2_n _ _ _ (by omega), up2_n _ _ _ (by omega), up2_n _ _ _ (by omega)]) (cE_addS I q h hn h8)
        rw [show cE I 29 3 = nI (sN (cE I)) from hn] at this
        exact this
      · rw [if_pos (show ¬ cE I 29 3 < 10 from c1), if_pos (show ¬ cE I 29 3 < 10 from c1)] at h1
        refine x_bipush (v := -4) dW_say_33 rfl ?_
        -- at 35: .ireturn
        refine x_ireturn dW_say_35 rfl rfl ?_
        exact h1 I (fun _ _ => rfl) rfl
    · refine x_if_ne (tgt := 21) dW_say_15 (by decide) (fun h => absurd (by decide) h) (fun _ => ?_)
      exact bad (fun z => a2 z.2)
  · refine x_if_eq (tgt := 18) dW_say_8 (by decide) (fun _ => ?_) (fun h => absurd (by decide) h)
    exact bad (fun z => a1 z.1)
def unsayS (E : IM) : Int32 := if E 29 3 ≤ 0 then -3 else E 29 3 - 1
def cutS4 (E : IM) (n : Nat) : IM := upr (upr (upr (upr (up2 E 29 3 (nI n)) 14 (mk n (E 14))) 15 (mk n (E 15))) 16 (mk n (E 16))) 17 (mk n (E 17))
def unsayU (E : IM) : IM := if E 29 3 ≤ 0 then E else cutS4 E (sN E - 1)
def sp_W_unsay : SpT := cSp [] (fun E => .int (unsayS E)) unsayU
set_option maxHeartbeats 4000000 in
set_option maxRecDepth 100000 in
theorem c_W_unsay : Con mW_unsay 2 0 0 sp_W_unsay := by
  refine con_of_X rfl fun G as S I L Post hs => ?_
  obtain ⟨rfl, rfl, hok, h1⟩ := hs
  dsimp only at h1
  refine ⟨0, Nat.le_of_ble_eq_true rfl, ?_⟩
  show X mW_unsay G _ S1 I L 0 [.ref 0] [] Post
  have hn : I 18 4 = nI (sN (cE I)) := hok.2.2.1.1
  have h8 := hok.2.2.1.2.1
  refine x_aload_n dW_unsay_0 rfl ?_
  refine x_getR fl_W_33 rfl dW_unsay_1 rfl rfl rfl ?_
  refine x_getI fl_W_125 rfl dW_unsay_4 rfl rfl ?_
  -- at 7: .ifCond .gt 6
  refine x_if_gt (tgt := 13) dW_unsay_7 (by decide) (fun c1 => ?_) (fun c1 => ?_)
  · rw [unsayS, unsayU, if_neg (show ¬ cE I 29 3 ≤ 0 from Int32.not_le.mpr c1), if_neg (show ¬ cE I 29 3 ≤ 0 from Int32.not_le.mpr c1)] at h1
    rw [hn] at c1
    have hpos : 0 < sN (cE I) := (nI_ltI (a := 0) (by omega) (by omega)).mp c1
    refine x_aload_n dW_unsay_13 rfl ?_
    refine x_getR fl_W_33 rfl dW_unsay_14 rfl rfl rfl ?_
    refine x_dup dW_unsay_17 rfl ?_
    refine x_getI fl_W_125 rfl dW_unsay_18 rfl rfl ?_
    -- at 21: .iconst 1
    rw [hn]
    refine x_iconst (v := 1) dW_unsay_21 rfl ?_
    refine x_isub dW_unsay_22 ?_
    -- at 23: .putfield 125
    refine x_eqi (y := nI (sN (cE I) - 1)) (pk_sub (b := 1) (by omega)) ?_
    refine x_putI fl_W_125 rfl dW_unsay_23 (by decide) rfl rfl rfl rfl ?_
    refine x_aload_n dW_unsay_26 rfl ?_
    refine x_getR fl_W_33 rfl dW_unsay_27 rfl rfl rfl ?_
    refine x_getI fl_W_125 rfl dW_unsay_30 rfl rfl ?_
    -- at 33: .ireturn
    refine x_ireturn dW_unsay_33 rfl rfl ?_
    have := h1 (up2 I 18 4 (nI (sN (cE I) - 1))) (fun j hj => by rw [up2_n _ _ _ (by omega)]) ?_
    · rw [show cE I 29 3 = nI (sN (cE I)) from hn, show nI (sN (cE I)) - 1 = nI (sN (cE I) - 1) from pk_sub (b := 1) (by omega)] at this
      simp only [up2_n, up2_s, ne_eq, Nat.reduceEqDiff, not_false_eq_true, up1, if_true]
      exact this
    · have e0 : cl (I 18 4) = sN (cE I) := rfl
      rw [cE_n3, cl_nI (by omega)]
      unfold cutS4
      rw [show cE I 14 = mk (sN (cE I)) (I 19) from rfl, show cE I 15 = mk (sN (cE I)) (I 20) from rfl, show cE I 16 = mk (sN (cE I)) (I 21) from rfl, show cE I 17 = mk (sN (cE I)) (I 22) from rfl, mk_mk (by omega), mk_mk (by omega), mk_mk (by omega), mk_mk (by omega)]
  · rw [unsayS, unsayU, if_pos (show cE I 29 3 ≤ 0 from Int32.not_lt.mp c1), if_pos (show cE I 29 3 ≤ 0 from Int32.not_lt.mp c1)] at h1
    refine x_bipush (v := -3) dW_unsay_10 rfl ?_
    -- at 12: .ireturn
    refine x_ireturn dW_unsay_12 rfl rfl ?_
    exact h1 I (fun _ _ => rfl) rfl
