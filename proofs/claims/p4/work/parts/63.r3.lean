/-! the reference: promises, sayings, the sayer, what is taken -/
def rVadd (I : IM) (n : Nat) (a b c d : Int32) : IM := up2 (up2 (up2 (up2 (up2 I 70 n a) 71 n b) 72 n c) 73 n d) 59 12 (nI n + 1)
def sp_R_promise : SpT := fun as S I L Post => ∃ w n v g : Int32, rSp [.int w, .int n, .int v, .int g] (fun E => .int (promiseS E w n v g)) (fun E => promiseU E w n v g) as S I L Post
set_option maxHeartbeats 4000000 in
set_option maxRecDepth 100000 in
theorem c_R_promise : Con mR_promise 3 0 0 sp_R_promise := by
  refine con_of_X rfl fun G as S I L Post hs => ?_
  obtain ⟨w, n, v, g, rfl, rfl, ⟨hok, own⟩, h1⟩ := hs
  dsimp only at h1
  refine ⟨0, Nat.le_of_ble_eq_true rfl, ?_⟩
  show X mR_promise G _ S1 I L 0 [.ref 59, .int w, .int n, .int v, .int g] [] Post
  have hn : I 59 12 = nI (qN (rE I)) := hok.2.1.1
  have h8 := hok.2.1.2.1
  have bad : ¬ proC (rE I) w n v g → X mR_promise G (3, 0, 0) S1 I L 45 [.ref 59, .int w, .int n, .int v, .int g] [] Post := by
    intro hc
    rw [promiseS, promiseU, if_pos hc, if_pos hc] at h1
    refine x_bipush (v := -2) dR_promise_45 rfl ?_
    -- at 47: .ireturn
    refine x_ireturn dR_promise_47 rfl rfl ?_
    exact h1 I L (fun _ _ => rfl) own rfl
  refine x_iload_n dR_promise_0 rfl ?_
  refine x_iconst (v := 0) dR_promise_1 rfl ?_
  refine x_bipush (v := 7) dR_promise_2 rfl ?_
  -- at 4: .invokestatic 151
  refine x_callS_3 c_R_in ok_R_in ml_R_151 dR_promise_4 rfl rfl ?_
  refine ⟨_, _, _, rfl, fun a1 => ?_, fun a1 => ?_⟩
  · refine x_if_eq (tgt := 45) dR_promise_7 (by decide) (fun h => absurd h (by decide)) (fun _ => ?_)
    refine x_iload_n dR_promise_10 rfl ?_
    refine x_iconst (v := 1) dR_promise_11 rfl ?_
    refine x_bipush (v := 99) dR_promise_12 rfl ?_
    -- at 14: .invokestatic 151
    refine x_callS_3 c_R_in ok_R_in ml_R_151 dR_promise_14 rfl rfl ?_
    refine ⟨_, _, _, rfl, fun a2 => ?_, fun a2 => ?_⟩
    · refine x_if_eq (tgt := 45) dR_promise_17 (by decide) (fun h => absurd h (by decide)) (fun _ => ?_)
      refine x_iload_n dR_promise_20 rfl ?_
      refine x_iconst (v := 0) dR_promise_21 rfl ?_
      refine x_bipush (v := 99) dR_promise_22 rfl ?_
      -- at 24: .invokestatic 151
      refine x_callS_3 c_R_in ok_R_in ml_R_151 dR_promise_24 rfl rfl ?_
      refine ⟨_, _, _, rfl, fun a3 => ?_, fun a3 => ?_⟩
      · refine x_if_eq (tgt := 45) dR_promise_27 (by decide) (fun h => absurd h (by decide)) (fun _ => ?_)
        refine x_iload dR_promise_30 rfl ?_
        refine x_iconst (v := -1) dR_promise_32 rfl ?_
        refine x_aload_n dR_promise_33 rfl ?_
        refine x_getI fl_R_155 rfl dR_promise_34 rfl rfl ?_
        refine x_iconst (v := 1) dR_promise_37 rfl ?_
        refine x_isub dR_promise_38 ?_
        -- at 39: .invokestatic 151
        refine x_callS_3 c_R_in ok_R_in ml_R_151 dR_promise_39 rfl rfl ?_
        refine ⟨_, _, _, rfl, fun a4 => ?_, fun a4 => ?_⟩
        · refine x_if_ne (tgt := 48) dR_promise_42 (by decide) (fun _ => ?_) (fun h => absurd h (by decide))
          have hc : proC (rE I) w n v g := ⟨a1, a2, a3, a4⟩
          rw [promiseS, promiseU, if_neg (not_not_intro hc), if_neg (not_not_intro hc)] at h1
          refine x_aload_n dR_promise_48 rfl ?_
          refine x_getI fl_R_155 rfl dR_promise_49 rfl rfl ?_
          refine x_bipush (v := 8) dR_promise_52 rfl ?_
          -- at 54: .if_icmp .ne 6
          rw [hn]
          refine x_icmp_ne (tgt := 60) dR_promise_54 (by decide) (fun c1 => ?_) (fun c1 => ?_)
          · have hlt : qN (rE I) < 8 := by
              by_cases z : qN (rE I) = 8
              · rw [z] at c1
                exact absurd rfl c1
              · omega
            have hl : rE I 29 2 < 8 := by
              rw [show rE I 29 2 = nI (qN (rE I)) from hn]
              exact (nI_ltI (b := 8) (by omega) (by omega)).mpr hlt
            rw [if_neg (not_not_intro hl), if_neg (not_not_intro hl)] at h1
            refine x_aload_n dR_promise_60 rfl ?_
            refine x_getR fl_R_44 rfl dR_promise_61 rfl rfl rfl ?_
            refine x_aload_n dR_promise_64 rfl ?_
            refine x_getI fl_R_155 rfl dR_promise_65 rfl rfl ?_
            -- at 68: .iload_n 1
            rw [hn]
            refine x_iload_n dR_promise_68 rfl ?_
            refine x_iastJ (j := qN (rE I)) dR_promise_69 rfl rfl (by first | rfl | (simp only [← nI_add, ← pk_mul]; rfl)) (by omega) ?_
            refine x_aload_n dR_promise_70 rfl ?_
            refine x_getR fl_R_47 rfl dR_promise_71 rfl rfl rfl ?_
            refine x_aload_n dR_promise_74 rfl ?_
            refine x_getI fl_R_155 rfl dR_promise_75 rfl rfl ?_
            -- at 78: .iload_n 2
            simp only [up2_n, up2_s, ne_eq, Nat.reduceEqDiff, not_false_eq_true, hn]
            refine x_iload_n dR_promise_78 rfl ?_
            refine x_iastJ (j := qN (rE I)) dR_promise_79 rfl rfl (by first | rfl | (simp only [← nI_add, ← pk_mul]; rfl)) (by omega) ?_
            refine x_aload_n dR_promise_80 rfl ?_
            refine x_getR fl_R_50 rfl dR_promise_81 rfl rfl rfl ?_
            refine x_aload_n dR_promise_84 rfl ?_
            refine x_getI fl_R_155 rfl dR_promise_85 rfl rfl ?_
            -- at 88: .iload_n 3
            simp only [up2_n, up2_s, ne_eq, Nat.reduceEqDiff, not_false_eq_true, hn]
            refine x_iload_n dR_promise_88 rfl ?_
            refine x_iastJ (j := qN (rE I)) dR_promise_89 rfl rfl (by first | rfl | (simp only [← nI_add, ← pk_mul]; rfl)) (by omega) ?_
            refine x_aload_n dR_promise_90 rfl ?_
            refine x_getR fl_R_53 rfl dR_promise_91 rfl rfl rfl ?_
            refine x_aload_n dR_promise_94 rfl ?_
            refine x_getI fl_R_155 rfl dR_promise_95 rfl rfl ?_
            -- at 98: .iload 4
            simp only [up2_n, up2_s, ne_eq, Nat.reduceEqDiff, not_false_eq_true, hn]
            refine x_iload dR_promise_98 rfl ?_
            refine x_iastJ (j := qN (rE I)) dR_promise_100 rfl rfl (by first | rfl | (simp only [← nI_add, ← pk_mul]; rfl)) (by omega) ?_
            refine x_aload_n dR_promise_101 rfl ?_
            refine x_dup dR_promise_102 rfl ?_
            refine x_getI fl_R_155 rfl dR_promise_103 rfl rfl ?_
            -- at 106: .iconst 1
            simp only [up2_n, up2_s, ne_eq, Nat.reduceEqDiff, not_false_eq_true, hn]
            refine x_iconst (v := 1) dR_promise_106 rfl ?_
            refine x_iadd dR_promise_107 ?_
            refine x_putI fl_R_155 rfl dR_promise_108 (by decide) rfl rfl rfl rfl ?_
            refine x_aload_n dR_promise_111 rfl ?_
            refine x_getI fl_R_155 rfl dR_promise_112 rfl rfl ?_
            -- at 115: .iconst 1
            simp only [up2_n, up2_s, ne_eq, Nat.reduceEqDiff, not_false_eq_true, up1, if_true]
            refine x_iconst (v := 1) dR_promise_115 rfl ?_
            refine x_isub dR_promise_116 ?_
            -- at 117: .ireturn
            refine x_eqi (y := nI (qN (rE I))) ?_ ?_
            · rw [nI_1]
              exact pk_sub (b := 1) (by omega)
            refine x_ireturn dR_promise_117 rfl rfl ?_
            have := h1 (rVadd I (qN (rE I)) w n v g) L (fun j hj => by unfold rVadd; rw [up2_n _ _ _ (by omega), up2_n _ _ _ (by omega), up2_n _ _ _ (by omega), up2_n _ _ _ (by omega), up2_n _ _ _ (by omega)])
              (((((own.up (by decide) (Or.inl (by decide))).up (by decide) (Or.inl (by decide))).up (by decide) (Or.inl (by decide))).up (by decide) (Or.inl (by decide))).up (by decide) (Or.inr (by decide))) (by unfold rVadd addQ; rw [rE_s2, rE_u13, rE_u12, rE_u11, rE_u10])
            rw [show rE I 29 2 = nI (qN (rE I)) from hn] at this
            exact this
          · have hl : ¬ rE I 29 2 < 8 := by
              rw [show rE I 29 2 = nI (qN (rE I)) from hn, c1]
              decide
            rw [if_pos hl, if_pos hl] at h1
            refine x_bipush (v := -4) dR_promise_57 rfl ?_
            -- at 59: .ireturn
            refine x_ireturn dR_promise_59 rfl rfl ?_
            exact h1 I L (fun _ _ => rfl) own rfl
        · refine x_if_ne (tgt := 48) dR_promise_42 (by decide) (fun h => absurd (by decide) h) (fun _ => ?_)
          exact bad (fun z => a4 z.2.2.2)
      · refine x_if_eq (tgt := 45) dR_promise_27 (by decide) (fun _ => ?_) (fun h => absurd (by decide) h)
        exact bad (fun z => a3 z.2.2.1)
    · refine x_if_eq (tgt := 45) dR_promise_17 (by decide) (fun _ => ?_) (fun h => absurd (by decide) h)
      exact bad (fun z => a2 z.2.1)
  · refine x_if_eq (tgt := 45) dR_promise_7 (by decide) (fun _ => ?_) (fun h => absurd (by decide) h)
    exact bad (fun z => a1 z.1)
def sp_R_promised : SpT := fun as S I L Post => ∃ q w : Int32, rSp [.int q, .int w] (fun E => .int (promisedS E q w)) (fun E => E) as S I L Post
set_option maxHeartbeats 4000000 in
set_option maxRecDepth 100000 in
theorem c_R_promised : Con mR_promised 4 0 0 sp_R_promised := by
  refine con_of_X rfl fun G as S I L Post hs => ?_
  obtain ⟨p, w, rfl, rfl, ⟨hok, own⟩, h1⟩ := hs
  dsimp only at h1
  refine ⟨0, Nat.le_of_ble_eq_true rfl, ?_⟩
  show X mR_promised G _ S1 I L 0 [.ref 59, .int p, .int w] [] Post
  have hn : I 59 12 = nI (qN (rE I)) := hok.2.1.1
  have h8 := hok.2.1.2.1
  have h1 := h1 I L (fun _ _ => rfl) own rfl
  refine x_aload_n dR_promised_0 rfl ?_
  refine x_iload_n dR_promised_1 rfl ?_
  -- at 2: .invokevirtual 236
  refine x_callV_1 c_R_isPromise ok_R_isPromise ml_R_236 dR_promised_2 rfl rfl rfl rfl rfl ?_
  refine ⟨_, rfl, rfl, fun a1 => ?_, fun a1 => ?_⟩
  · have a1 : inR p 0 (rE I 29 2 - 1) := a1
    refine x_if_ne (tgt := 11) dR_promised_5 (by decide) (fun _ => ?_) (fun h => absurd h (by decide))
    rw [promisedS, if_neg (not_not_intro a1)] at h1
    rw [show rE I 29 2 = nI (qN (rE I)) from hn] at a1
    obtain ⟨k, hk, rfl⟩ := has_nat (by omega) a1
    rw [cl_nI (by omega)] at h1
    refine x_iload_n dR_promised_11 rfl ?_
    -- at 12: .ifCond .ne 12
    refine x_if_ne (tgt := 24) dR_promised_12 (by decide) (fun w0 => ?_) (fun w0 => ?_)
    · rw [if_neg w0] at h1
      refine x_iload_n dR_promised_24 rfl ?_
      refine x_iconst (v := 1) dR_promised_25 rfl ?_
      -- at 26: .if_icmp .ne 12
      refine x_icmp_ne (tgt := 38) dR_promised_26 (by decide) (fun w1 => ?_) (fun w1 => ?_)
      · rw [if_neg w1] at h1
        refine x_iload_n dR_promised_38 rfl ?_
        refine x_iconst (v := 2) dR_promised_39 rfl ?_
        -- at 40: .if_icmp .ne 12
        refine x_icmp_ne (tgt := 52) dR_promised_40 (by decide) (fun w2 => ?_) (fun w2 => ?_)
        · rw [if_neg w2] at h1
          refine x_iload_n dR_promised_52 rfl ?_
          refine x_iconst (v := 3) dR_promised_53 rfl ?_
          -- at 54: .if_icmp .ne 12
          refine x_icmp_ne (tgt := 66) dR_promised_54 (by decide) (fun w3 => ?_) (fun w3 => ?_)
          · rw [if_neg w3] at h1
            refine x_bipush (v := -7) dR_promised_66 rfl ?_
            -- at 68: .ireturn
            refine x_ireturn dR_promised_68 rfl rfl ?_
            exact h1
          · rw [if_pos w3] at h1
            refine x_aload_n dR_promised_57 rfl ?_
            refine x_getR fl_R_53 rfl dR_promised_58 rfl rfl rfl ?_
            refine x_iload_n dR_promised_61 rfl ?_
            refine x_ialdJ (j := k) dR_promised_62 rfl rfl (by first | rfl | (simp only [← nI_add, ← pk_mul]; rfl)) (by omega) ?_
            refine x_goto (tgt := 68) dR_promised_63 (by decide) ?_
            -- at 68: .ireturn
            refine x_ireturn dR_promised_68 rfl rfl ?_
            exact h1
        · rw [if_pos w2] at h1
          refine x_aload_n dR_promised_43 rfl ?_
          refine x_getR fl_R_50 rfl dR_promised_44 rfl rfl rfl ?_
          refine x_iload_n dR_promised_47 rfl ?_
          refine x_ialdJ (j := k) dR_promised_48 rfl rfl (by first | rfl | (simp only [← nI_add, ← pk_mul]; rfl)) (by omega) ?_
          refine x_goto (tgt := 68) dR_promised_49 (by decide) ?_
          -- at 68: .ireturn
          refine x_ireturn dR_promised_68 rfl rfl ?_
          exact h1
      · rw [if_pos w1] at h1
        refine x_aload_n dR_promised_29 rfl ?_
        refine x_getR fl_R_47 rfl dR_promised_30 rfl rfl rfl ?_
        refine x_iload_n dR_promised_33 rfl ?_
        refine x_ialdJ (j := k) dR_promised_34 rfl rfl (by first | rfl | (simp only [← nI_add, ← pk_mul]; rfl)) (by omega) ?_
        refine x_goto (tgt := 68) dR_promised_35 (by decide) ?_
        -- at 68: .ireturn
        refine x_ireturn dR_promised_68 rfl rfl ?_
        exact h1
    · rw [if_pos w0] at h1
      refine x_aload_n dR_promised_15 rfl ?_
      refine x_getR fl_R_44 rfl dR_promised_16 rfl rfl rfl ?_
      refine x_iload_n dR_promised_19 rfl ?_
      refine x_ialdJ (j := k) dR_promised_20 rfl rfl (by first | rfl | (simp only [← nI_add, ← pk_mul]; rfl)) (by omega) ?_
      refine x_goto (tgt := 68) dR_promised_21 (by decide) ?_
      -- at 68: .ireturn
      refine x_ireturn dR_promised_68 rfl rfl ?_
      exact h1
  · have a1 : ¬ inR p 0 (rE I 29 2 - 1) := a1
    refine x_if_ne (tgt := 11) dR_promised_5 (by decide) (fun h => absurd (by decide) h) (fun _ => ?_)
    rw [promisedS, if_pos a1] at h1
    refine x_bipush (v := -5) dR_promised_8 rfl ?_
    -- at 10: .ireturn
    refine x_ireturn dR_promised_10 rfl rfl ?_
    exact h1
def sp_R_said : SpT := fun as S I L Post => ∃ s w : Int32, rSp [.int s, .int w] (fun E => .int (saidS E s w)) (fun E => E) as S I L Post
set_option maxHeartbeats 4000000 in
set_option maxRecDepth 100000 in
theorem c_R_said : Con mR_said 4 0 0 sp_R_said := by
  refine con_of_X rfl fun G as S I L Post hs => ?_
  obtain ⟨p, w, rfl, rfl, ⟨hok, own⟩, h1⟩ := hs
  dsimp only at h1
  refine ⟨0, Nat.le_of_ble_eq_true rfl, ?_⟩
  show X mR_said G _ S1 I L 0 [.ref 59, .int p, .int w] [] Post
  have hn : I 59 17 = nI (sN (rE I)) := hok.2.2.1.1
  have h8 := hok.2.2.1.2.1
  have h1 := h1 I L (fun _ _ => rfl) own rfl
  refine x_aload_n dR_said_0 rfl ?_
  refine x_iload_n dR_said_1 rfl ?_
  -- at 2: .invokevirtual 243
  refine x_callV_1 c_R_isSaying ok_R_isSaying ml_R_243 dR_said_2 rfl rfl rfl rfl rfl ?_
  refine ⟨_, rfl, rfl, fun a1 => ?_, fun a1 => ?_⟩
  · have a1 : inR p 0 (rE I 29 3 - 1) := a1
    refine x_if_ne (tgt := 11) dR_said_5 (by decide) (fun _ => ?_) (fun h => absurd h (by decide))
    rw [saidS, if_neg (not_not_intro a1)] at h1
    rw [show rE I 29 3 = nI (sN (rE I)) from hn] at a1
    obtain ⟨k, hk, rfl⟩ := has_nat (by omega) a1
    rw [cl_nI (by omega)] at h1
    have e14 : rE I 14 k = I 74 k := mk_lt hk
    have e15 : rE I 15 k = I 75 k := mk_lt hk
    have e16 : rE I 16 k = I 76 k := mk_lt hk
    have e17 : rE I 17 k = I 77 k := mk_lt hk
    rw [e14, e15, e16, e17] at h1
    refine x_iload_n dR_said_11 rfl ?_
    -- at 12: .ifCond .ne 12
    refine x_if_ne (tgt := 24) dR_said_12 (by decide) (fun w0 => ?_) (fun w0 => ?_)
    · rw [if_neg w0] at h1
      refine x_iload_n dR_said_24 rfl ?_
      refine x_iconst (v := 1) dR_said_25 rfl ?_
      -- at 26: .if_icmp .ne 12
      refine x_icmp_ne (tgt := 38) dR_said_26 (by decide) (fun w1 => ?_) (fun w1 => ?_)
      · rw [if_neg w1] at h1
        refine x_iload_n dR_said_38 rfl ?_
        refine x_iconst (v := 2) dR_said_39 rfl ?_
        -- at 40: .if_icmp .ne 12
        refine x_icmp_ne (tgt := 52) dR_said_40 (by decide) (fun w2 => ?_) (fun w2 => ?_)
        · rw [if_neg w2] at h1
          refine x_iload_n dR_said_52 rfl ?_
          refine x_iconst (v := 3) dR_said_53 rfl ?_
          -- at 54: .if_icmp .ne 12
          refine x_icmp_ne (tgt := 66) dR_said_54 (by decide) (fun w3 => ?_) (fun w3 => ?_)
          · rw [if_neg w3] at h1
            refine x_bipush (v := -7) dR_said_66 rfl ?_
            -- at 68: .ireturn
            refine x_ireturn dR_said_68 rfl rfl ?_
            exact h1
          · rw [if_pos w3] at h1
            refine x_aload_n dR_said_57 rfl ?_
            refine x_getR fl_R_65 rfl dR_said_58 rfl rfl rfl ?_
            refine x_iload_n dR_said_61 rfl ?_
            refine x_ialdJ (j := k) dR_said_62 rfl rfl (by first | rfl | (simp only [← nI_add, ← pk_mul]; rfl)) (by omega) ?_
            refine x_goto (tgt := 68) dR_said_63 (by decide) ?_
            -- at 68: .ireturn
            refine x_ireturn dR_said_68 rfl rfl ?_
            exact h1
        · rw [if_pos w2] at h1
          refine x_aload_n dR_said_43 rfl ?_
          refine x_getR fl_R_62 rfl dR_said_44 rfl rfl rfl ?_
          refine x_iload_n dR_said_47 rfl ?_
          refine x_ialdJ (j := k) dR_said_48 rfl rfl (by first | rfl | (simp only [← nI_add, ← pk_mul]; rfl)) (by omega) ?_
          refine x_goto (tgt := 68) dR_said_49 (by decide) ?_
          -- at 68: .ireturn
          refine x_ireturn dR_said_68 rfl rfl ?_
          exact h1
      · rw [if_pos w1] at h1
        refine x_aload_n dR_said_29 rfl ?_
        refine x_getR fl_R_59 rfl dR_said_30 rfl rfl rfl ?_
        refine x_iload_n dR_said_33 rfl ?_
        refine x_ialdJ (j := k) dR_said_34 rfl rfl (by first | rfl | (simp only [← nI_add, ← pk_mul]; rfl)) (by omega) ?_
        refine x_goto (tgt := 68) dR_said_35 (by decide) ?_
        -- at 68: .ireturn
        refine x_ireturn dR_said_68 rfl rfl ?_
        exact h1
    · rw [if_pos w0] at h1
      refine x_aload_n dR_said_15 rfl ?_
      refine x_getR fl_R_56 rfl dR_said_16 rfl rfl rfl ?_
      refine x_iload_n dR_said_19 rfl ?_
      refine x_ialdJ (j := k) dR_said_20 rfl rfl (by first | rfl | (simp only [← nI_add, ← pk_mul]; rfl)) (by omega) ?_
      refine x_goto (tgt := 68) dR_said_21 (by decide) ?_
      -- at 68: .ireturn
      refine x_ireturn dR_said_68 rfl rfl ?_
      exact h1
  · have a1 : ¬ inR p 0 (rE I 29 3 - 1) := a1
    refine x_if_ne (tgt := 11) dR_said_5 (by decide) (fun h => absurd (by decide) h) (fun _ => ?_)
    rw [saidS, if_pos a1] at h1
    refine x_bipush (v := -5) dR_said_8 rfl ?_
    -- at 10: .ireturn
    refine x_ireturn dR_said_10 rfl rfl ?_
    exact h1
def rSput (I : IM) (s : Nat) (q h : Int32) : IM := up2 (up2 (up2 (up2 I 74 s q) 75 s (h / 100)) 76 s (rem (h / 10) 10)) 77 s (rem h 10)
def sp_R_says : SpT := fun as S I L Post => ∃ (s : Nat) (q h : Int32), as = [.ref 59, .int (nI s), .int q, .int h] ∧ S = S1 ∧ s < 11 ∧ Post none S1 (rSput I s q h) L
set_option maxHeartbeats 4000000 in
set_option maxRecDepth 100000 in
theorem c_R_says : Con mR_says 2 0 0 sp_R_says := by
  refine con_of_X rfl fun G as S I L Post hs => ?_
  obtain ⟨s, q, h, rfl, rfl, hs, h1⟩ := hs
  refine ⟨0, Nat.le_of_ble_eq_true rfl, ?_⟩
  show X mR_says G _ S1 I L 0 [.ref 59, .int (nI s), .int q, .int h] [] Post
  refine x_aload_n dR_says_0 rfl ?_
  refine x_getR fl_R_56 rfl dR_says_1 rfl rfl rfl ?_
  refine x_iload_n dR_says_4 rfl ?_
  refine x_iload_n dR_says_5 rfl ?_
  refine x_iastJ (j := s) dR_says_6 rfl rfl (by first | rfl | (simp only [← nI_add, ← pk_mul]; rfl)) (by omega) ?_
  refine x_aload_n dR_says_7 rfl ?_
  refine x_getR fl_R_59 rfl dR_says_8 rfl rfl rfl ?_
  refine x_iload_n dR_says_11 rfl ?_
  refine x_iload_n dR_says_12 rfl ?_
  refine x_bipush (v := 100) dR_says_13 rfl ?_
  refine x_idiv dR_says_15 (by decide) ?_
  refine x_iastJ (j := s) dR_says_16 rfl rfl (by first | rfl | (simp only [← nI_add, ← pk_mul]; rfl)) (by omega) ?_
  refine x_aload_n dR_says_17 rfl ?_
  refine x_getR fl_R_62 rfl dR_says_18 rfl rfl rfl ?_
  refine x_iload_n dR_says_21 rfl ?_
  refine x_iload_n dR_says_22 rfl ?_
  refine x_bipush (v := 10) dR_says_23 rfl ?_
  refine x_idiv dR_says_25 (by decide) ?_
  refine x_bipush (v := 10) dR_says_26 rfl ?_
  refine x_irem dR_says_28 (by decide) ?_
  refine x_iastJ (j := s) dR_says_29 rfl rfl (by first | rfl | (simp only [← nI_add, ← pk_mul]; rfl)) (by omega) ?_
  refine x_aload_n dR_says_30 rfl ?_
  refine x_getR fl_R_65 rfl dR_says_31 rfl rfl rfl ?_
  refine x_iload_n dR_says_34 rfl ?_
  refine x_iload_n dR_says_35 rfl ?_
  refine x_bipush (v := 10) dR_says_36 rfl ?_
  refine x_irem dR_says_38 (by decide) ?_
  refine x_iastJ (j := s) dR_says_39 rfl rfl (by first | rfl | (simp only [← nI_add, ← pk_mul]; rfl)) (by omega) ?_
  -- at 40: .return_
  refine x_return dR_says_40 rfl ?_
  exact h1
theorem rE_addS (I : IM) (q h : Int32) (hn : I 59 17 = nI (sN (rE I))) (h8 : sN (rE I) ≤ 10) : rE (up2 (rSput I (sN (rE I)) q h) 59 17 (nI (sN (rE I)) + 1)) = addS (rE I) (sN (rE I)) q h := by
  have e0 : cl (I 59 17) = sN (rE I) := rfl
  generalize sN (rE I) = n at hn h8 e0 ⊢
  unfold rSput addS sputV
  rw [rE_n3, show nI n + 1 = nI (n + 1) from nI_1 n, cl_nI (by omega)]
  rw [show up2 (up2 (up2 (up2 I 74 n q) 75 n (h / 100)) 76 n (rem (h / 10) 10)) 77 n (rem h 10) 74 = up1 (I 74) n q by simp only [up2_n, up2_s, ne_eq, Nat.reduceEqDiff, not_false_eq_true], show up2 (up2 (up2 (up2 I 74 n q) 75 n (h / 100)) 76 n (rem (h / 10) 10)) 77 n (rem h 10) 75 = up1 (I 75) n (h / 100) by simp only [up2_n, up2_s, ne_eq, Nat.reduceEqDiff, not_false_eq_true], show up2 (up2 (up2 (up2 I 74 n q) 75 n (h / 100)) 76 n (rem (h / 10) 10)) 77 n (rem h 10) 76 = up1 (I 76) n (rem (h / 10) 10) by simp only [up2_n, up2_s, ne_eq, Nat.reduceEqDiff, not_false_eq_true], show up2 (up2 (up2 (up2 I 74 n q) 75 n (h / 100)) 76 n (rem (h / 10) 10)) 77 n (rem h 10) 77 = up1 (I 77) n (rem h 10) by simp only [up2_n, up2_s, ne_eq, Nat.reduceEqDiff, not_false_eq_true], mk_up, mk_up, mk_up, mk_up]
  funext a
  by_cases h14 : a = 14
  · subst h14
    simp only [up2_n, up2_s, ne_eq, Nat.reduceEqDiff, not_false_eq_true, upr_s, upr_n]
    rw [show rE I 14 = mk (cl (I 59 17)) (I 74) from rfl, e0]
  by_cases h15 : a = 15
  · subst h15
    simp only [up2_n, up2_s, ne_eq, Nat.reduceEqDiff, not_false_eq_true, upr_s, upr_n]
    rw [show rE I 15 = mk (cl (I 59 17)) (I 75) from rfl, e0]
  by_cases h16 : a = 16
  · subst h16
    simp only [up2_n, up2_s, ne_eq, Nat.reduceEqDiff, not_false_eq_true, upr_s, upr_n]
    rw [show rE I 16 = mk (cl (I 59 17)) (I 76) from rfl, e0]
  by_cases h17 : a = 17
  · subst h17
    simp only [up2_n, up2_s, ne_eq, Nat.reduceEqDiff, not_false_eq_true, upr_s, upr_n]
    rw [show rE I 17 = mk (cl (I 59 17)) (I 77) from rfl, e0]
  have e : ∀ b, b ≠ 14 → b ≠ 15 → b ≠ 16 → b ≠ 17 → rE (up2 (up2 (up2 (up2 I 74 n q) 75 n (h / 100)) 76 n (rem (h / 10) 10)) 77 n (rem h 10)) b = rE I b := by
    intro b b14 b15 b16 b17
    rw [show ∀ J : IM, rE (up2 J 77 n (rem h 10)) = upr (rE J) 17 _ from fun J => rE_17 J _, upr_n _ _ b17]
    rw [show ∀ J : IM, rE (up2 J 76 n (rem (h / 10) 10)) = upr (rE J) 16 _ from fun J => rE_16 J _, upr_n _ _ b16]
    rw [show ∀ J : IM, rE (up2 J 75 n (h / 100)) = upr (rE J) 15 _ from fun J => rE_15 J _, upr_n _ _ b15]
    rw [show ∀ J : IM, rE (up2 J 74 n q) = upr (rE J) 14 _ from fun J => rE_14 J _, upr_n _ _ b14]
  rw [upr_n _ _ h17, upr_n _ _ h16, upr_n _ _ h15, upr_n _ _ h14]
  by_cases h29 : a = 29
  · subst h29
    rw [up2_s, up2_s, e 29 (by omega) (by omega) (by omega) (by omega)]
    simp only [up2_n, up2_s, ne_eq, Nat.reduceEqDiff, not_false_eq_true]
  · rw [up2_n _ _ _ h29, up2_n _ _ _ h29, e a h14 h15 h16 h17, up2_n _ _ _ h17, up2_n _ _ _ h16, up2_n _ _ _ h15, up2_n _ _ _ h14]
theorem how_100 {h : Int32} (h0 : 0 ≤ h) : h / 100 ≤ 5 ↔ h ≤ 599 := perC_w h0
theorem how_10 {h : Int32} (h0 : 0 ≤ h) : rem (h / 10) 10 ≤ 5 ↔ rem (h / 10) 10 < 6 := by
  obtain ⟨k, hk, rfl⟩ := nat_any h0
  have e : rem (nI k / 10) 10 = nI (k / 10 % 10) := by
    rw [show nI k / 10 = nI (k / 10) from pk_div (d := 10) hk (by omega) (by omega)]
    exact pk_rem (d := 10) (by omega) (by omega) (by omega)
  rw [e]
  have hb : k / 10 % 10 < 10 := Nat.mod_lt _ (by omega)
  generalize k / 10 % 10 = m at hb
  exact (show ∀ m, m < 10 → (nI m ≤ 5 ↔ nI m < 6) by decide) m hb
def sp_R_say : SpT := fun as S I L Post => ∃ q h : Int32, rSp [.int q, .int h] (fun E => .int (sayS E q h)) (fun E => sayU E q h) as S I L Post
set_option maxHeartbeats 4000000 in
set_option maxRecDepth 100000 in
theorem c_R_say : Con mR_say 4 0 0 sp_R_say := by
  refine con_of_X rfl fun G as S I L Post hs => ?_
  obtain ⟨q, h, rfl, rfl, ⟨hok, own⟩, h1⟩ := hs
  dsimp only at h1
  refine ⟨1, Nat.le_of_ble_eq_true rfl, ?_⟩
  show X mR_say G _ S1 I L 0 [.ref 59, .int q, .int h, .null] [] Post
  have hn : I 59 17 = nI (sN (rE I)) := hok.2.2.1.1
  have h8 := hok.2.2.1.2.1
  have bad : ¬ sayC (rE I) q h → X mR_say G (4, 0, 0) S1 I L 42 [.ref 59, .int q, .int h, .null] [] Post := by
    intro hc
    rw [sayS, sayU, if_pos hc, if_pos hc] at h1
    refine x_iconst (v := 0) dR_say_42 rfl ?_
    refine x_istoren_3 dR_say_43 rfl rfl ?_
    refine x_iload_n dR_say_44 rfl ?_
    -- at 45: .ifCond .ne 6
    refine x_if_ne (tgt := 51) dR_say_45 (by decide) (fun h => absurd rfl h) (fun _ => ?_)
    refine x_bipush (v := -2) dR_say_48 rfl ?_
    -- at 50: .ireturn
    refine x_ireturn dR_say_50 rfl rfl ?_
    exact h1 I L (fun _ _ => rfl) own rfl
  refine x_aload_n dR_say_0 rfl ?_
  refine x_iload_n dR_say_1 rfl ?_
  -- at 2: .invokevirtual 236
  refine x_callV_1 c_R_isPromise ok_R_isPromise ml_R_236 dR_say_2 rfl rfl rfl rfl rfl ?_
  refine ⟨_, rfl, rfl, fun a1 => ?_, fun a1 => ?_⟩
  · have a1 : inR q 0 (rE I 29 2 - 1) := a1
    refine x_if_eq (tgt := 42) dR_say_5 (by decide) (fun h => absurd h (by decide)) (fun _ => ?_)
    refine x_iload_n dR_say_8 rfl ?_
    -- at 9: .ifCond .lt 33
    refine x_if_lt (tgt := 42) dR_say_9 (by decide) (fun c1 => ?_) (fun c1 => ?_)
    · exact bad (fun z => absurd z.2.1.1 (Int32.not_le.mpr c1))
    · have c1 : 0 ≤ h := Int32.not_lt.mp c1
      refine x_iload_n dR_say_12 rfl ?_
      refine x_bipush (v := 100) dR_say_13 rfl ?_
      refine x_idiv dR_say_15 (by decide) ?_
      refine x_iconst (v := 5) dR_say_16 rfl ?_
      -- at 17: .if_icmp .gt 25
      refine x_icmp_gt (tgt := 42) dR_say_17 (by decide) (fun c2 => ?_) (fun c2 => ?_)
      · exact bad (fun z => absurd ((how_100 c1).mpr z.2.1.2) (Int32.not_le.mpr c2))
      · refine x_iload_n dR_say_20 rfl ?_
        refine x_bipush (v := 10) dR_say_21 rfl ?_
        refine x_idiv dR_say_23 (by decide) ?_
        refine x_bipush (v := 10) dR_say_24 rfl ?_
        refine x_irem dR_say_26 (by decide) ?_
        refine x_iconst (v := 5) dR_say_27 rfl ?_
        -- at 28: .if_icmp .gt 14
        refine x_icmp_gt (tgt := 42) dR_say_28 (by decide) (fun c3 => ?_) (fun c3 => ?_)
        · exact bad (fun z => absurd ((how_10 c1).mpr z.2.2.1) (Int32.not_le.mpr c3))
        · refine x_iload_n dR_say_31 rfl ?_
          refine x_bipush (v := 10) dR_say_32 rfl ?_
          refine x_irem dR_say_34 (by decide) ?_
          -- at 35: .ifCond .le 7
          refine x_if_le (tgt := 42) dR_say_35 (by decide) (fun c4 => ?_) (fun c4 => ?_)
          · exact bad (fun z => absurd z.2.2.2 (Int32.not_lt.mpr c4))
          · have hc : sayC (rE I) q h := ⟨a1, ⟨c1, (how_100 c1).mp (Int32.not_lt.mp c2)⟩, (how_10 c1).mp (Int32.not_lt.mp c3), Int32.not_le.mp c4⟩
            rw [sayS, sayU, if_neg (not_not_intro hc), if_neg (not_not_intro hc)] at h1
            refine x_iconst (v := 1) dR_say_38 rfl ?_
            refine x_goto (tgt := 43) dR_say_39 (by decide) ?_
            refine x_istoren_3 dR_say_43 rfl rfl ?_
            refine x_iload_n dR_say_44 rfl ?_
            -- at 45: .ifCond .ne 6
            refine x_if_ne (tgt := 51) dR_say_45 (by decide) (fun _ => ?_) (fun h => absurd h (by decide))
            refine x_aload_n dR_say_51 rfl ?_
            refine x_getI fl_R_158 rfl dR_say_52 rfl rfl ?_
            refine x_bipush (v := 10) dR_say_55 rfl ?_
            -- at 57: .if_icmp .ne 6
            rw [hn]
            refine x_icmp_ne (tgt := 63) dR_say_57 (by decide) (fun c5 => ?_) (fun c5 => ?_)
            · have hlt : sN (rE I) < 10 := by
                by_cases z : sN (rE I) = 10
                · rw [z] at c5
                  exact absurd rfl c5
                · omega
              have hl : rE I 29 3 < 10 := by
                rw [show rE I 29 3 = nI (sN (rE I)) from hn]
                exact (nI_ltI (b := 10) (by omega) (by omega)).mpr hlt
              rw [if_neg (not_not_intro hl), if_neg (not_not_intro hl)] at h1
              refine x_aload_n dR_say_63 rfl ?_
              refine x_aload_n dR_say_64 rfl ?_
              refine x_getI fl_R_158 rfl dR_say_65 rfl rfl ?_
              -- at 68: .iload_n 1
              rw [hn]
              refine x_iload_n dR_say_68 rfl ?_
              refine x_iload_n dR_say_69 rfl ?_
              -- at 70: .invokevirtual 239
              refine x_callV_3 c_R_says ok_R_says ml_R_239 dR_say_70 rfl rfl rfl rfl rfl ?_
              refine ⟨sN (rE I), q, h, rfl, rfl, by omega, ?_⟩
              have e59 : rSput I (sN (rE I)) q h 59 = I 59 := by
                unfold rSput
                simp only [up2_n, up2_s, ne_eq, Nat.reduceEqDiff, not_false_eq_true]
              refine x_aload_n dR_say_73 rfl ?_
              refine x_dup dR_say_74 rfl ?_
              refine x_getI fl_R_158 rfl dR_say_75 rfl rfl ?_
              -- at 78: .iconst 1
              rw [e59, hn]
              refine x_iconst (v := 1) dR_say_78 rfl ?_
              refine x_iadd dR_say_79 ?_
              refine x_putI fl_R_158 rfl dR_say_80 (by decide) rfl rfl rfl rfl ?_
              refine x_aload_n dR_say_83 rfl ?_
              refine x_getI fl_R_158 rfl dR_say_84 rfl rfl ?_
              -- at 87: .iconst 1
              simp only [up2_n, up2_s, ne_eq, Nat.reduceEqDiff, not_false_eq_true, up1, if_true]
              refine x_iconst (v := 1) dR_say_87 rfl ?_
              refine x_isub dR_say_88 ?_
              -- at 89: .ireturn
              refine x_eqi (y := nI (sN (rE I))) ?_ ?_
              · rw [nI_1]
                exact pk_sub (b := 1) (by omega)
              refine x_ireturn dR_say_89 rfl rfl ?_
              have := h1 (up2 (rSput I (sN (rE I)) q h) 59 17 (nI (sN (rE I)) + 1)) L (fun j hj => by unfold rSput; rw [up2_n _ _ _ (by omega), up2_n _ _ _ (by omega), up2_n _ _ _ (by omega), up2_n _ _ _ (by omega), up2_n _ _ _ (by omega)])
                (((((own.up (by decide) (Or.inl (by decide))).up (by decide) (Or.inl (by decide))).up (by decide) (Or.inl (by decide))).up (by decide) (Or.inl (by decide))).up (by decide) (Or.inr (by decide))) (rE_addS I q h hn h8)
              rw [show rE I 29 3 = nI (sN (rE I)) from hn] at this
              exact this
            · have hl : ¬ rE I 29 3 < 10 := by
                rw [show rE I 29 3 = nI (sN (rE I)) from hn, c5]
                decide
              rw [if_pos hl, if_pos hl] at h1
              refine x_bipush (v := -4) dR_say_60 rfl ?_
              -- at 62: .ireturn
              refine x_ireturn dR_say_62 rfl rfl ?_
              exact h1 I L (fun _ _ => rfl) own rfl
  · have a1 : ¬ inR q 0 (rE I 29 2 - 1) := a1
    refine x_if_eq (tgt := 42) dR_say_5 (by decide) (fun _ => ?_) (fun h => absurd (by decide) h)
    exact bad (fun z => a1 z.1)
def sp_R_unsay : SpT := rSp [] (fun E => .int (unsayS E)) unsayU
set_option maxHeartbeats 4000000 in
set_option maxRecDepth 100000 in
theorem c_R_unsay : Con mR_unsay 2 0 0 sp_R_unsay := by
  refine con_of_X rfl fun G as S I L Post hs => ?_
  obtain ⟨rfl, rfl, ⟨hok, own⟩, h1⟩ := hs
  dsimp only at h1
  refine ⟨0, Nat.le_of_ble_eq_true rfl, ?_⟩
  show X mR_unsay G _ S1 I L 0 [.ref 59] [] Post
  have hn : I 59 17 = nI (sN (rE I)) := hok.2.2.1.1
  have h8 := hok.2.2.1.2.1
  refine x_aload_n dR_unsay_0 rfl ?_
  refine x_getI fl_R_158 rfl dR_unsay_1 rfl rfl ?_
  -- at 4: .ifCond .ne 6
  rw [hn]
  by_cases h0 : sN (rE I) = 0
  · have hz : rE I 29 3 ≤ 0 := by
      rw [show rE I 29 3 = nI (sN (rE I)) from hn, h0]
      decide
    rw [unsayS, unsayU, if_pos hz, if_pos hz] at h1
    refine x_if_ne (tgt := 10) dR_unsay_4 (by decide) (fun h => absurd (congrArg nI h0) h) (fun _ => ?_)
    refine x_bipush (v := -3) dR_unsay_7 rfl ?_
    -- at 9: .ireturn
    refine x_ireturn dR_unsay_9 rfl rfl ?_
    exact h1 I L (fun _ _ => rfl) own rfl
  · have hz : ¬ rE I 29 3 ≤ 0 := by
      rw [show rE I 29 3 = nI (sN (rE I)) from hn]
      exact nI_ge (a := 0) (by omega) (by omega)
    rw [unsayS, unsayU, if_neg hz, if_neg hz] at h1
    refine x_if_ne (tgt := 10) dR_unsay_4 (by decide) (fun _ => ?_) (fun h => absurd h (fun z => h0 ((nI_eq (b := 0) (by omega) (by omega)).mp z)))
    refine x_aload_n dR_unsay_10 rfl ?_
    refine x_dup dR_unsay_11 rfl ?_
    refine x_getI fl_R_158 rfl dR_unsay_12 rfl rfl ?_
    -- at 15: .iconst 1
    rw [hn]
    refine x_iconst (v := 1) dR_unsay_15 rfl ?_
    refine x_isub dR_unsay_16 ?_
    -- at 17: .putfield 158
    refine x_eqi (y := nI (sN (rE I) - 1)) (pk_sub (b := 1) (by omega)) ?_
    refine x_putI fl_R_158 rfl dR_unsay_17 (by decide) rfl rfl rfl rfl ?_
    refine x_aload_n dR_unsay_20 rfl ?_
    refine x_getI fl_R_158 rfl dR_unsay_21 rfl rfl ?_
    -- at 24: .ireturn
    refine x_ireturn dR_unsay_24 rfl rfl ?_
    have := h1 (up2 I 59 17 (nI (sN (rE I) - 1))) L (fun j hj => by rw [up2_n _ _ _ (by omega)]) (own.up (by decide) (Or.inr (by decide))) ?_
    · rw [show rE I 29 3 = nI (sN (rE I)) from hn, show nI (sN (rE I)) - 1 = nI (sN (rE I) - 1) from pk_sub (b := 1) (by omega)] at this
      simp only [up2_n, up2_s, ne_eq, Nat.reduceEqDiff, not_false_eq_true, up1, if_true]
      exact this
    · have e0 : cl (I 59 17) = sN (rE I) := rfl
      rw [rE_n3, cl_nI (by omega)]
      unfold cutS4
      rw [show rE I 14 = mk (sN (rE I)) (I 74) from rfl, show rE I 15 = mk (sN (rE I)) (I 75) from rfl, show rE I 16 = mk (sN (rE I)) (I 76) from rfl, show rE I 17 = mk (sN (rE I)) (I 77) from rfl, mk_mk (by omega), mk_mk (by omega), mk_mk (by omega), mk_mk (by omega)]
def sp_R_wayTo : SpT := fun as S I L Post => ∃ s : Nat, as = [.ref 59, .int (nI s)] ∧ S = S1 ∧ rOk I ∧ 1 ≤ s ∧ s < sN (rE I) ∧ Post (some (.int (wayV (rE I) s))) S1 I L
set_option maxHeartbeats 4000000 in
set_option maxRecDepth 100000 in
theorem c_R_wayTo : Con mR_wayTo 2 0 0 sp_R_wayTo := by
  refine con_of_X rfl fun G as S I L Post hs => ?_
  obtain ⟨s, rfl, rfl, hok, hs1, hs2, h1⟩ := hs
  refine ⟨0, Nat.le_of_ble_eq_true rfl, ?_⟩
  show X mR_wayTo G _ S1 I L 0 [.ref 59, .int (nI s)] [] Post
  obtain ⟨-, b2, b3⟩ := hok.1.c
  obtain ⟨-, ⟨u, hu, eu⟩, -⟩ := b3 s hs2
  obtain ⟨-, ⟨v, hv, ev⟩, -⟩ := b3 (s - 1) (by omega)
  have e15 : rE I 15 s = I 75 s := mk_lt hs2
  have e15' : rE I 15 (s - 1) = I 75 (s - 1) := mk_lt (by have : sN (rE I) = cl (I 59 17) := rfl; omega)
  rw [wayV, eu, ev, cl_nI (by omega), cl_nI (by omega)] at h1
  rw [e15] at eu
  rw [e15'] at ev
  refine x_aload_n dR_wayTo_0 rfl ?_
  refine x_getR fl_R_7 rfl dR_wayTo_1 rfl rfl rfl ?_
  refine x_bipush (v := 6) dR_wayTo_4 rfl ?_
  refine x_aload_n dR_wayTo_6 rfl ?_
  refine x_getR fl_R_59 rfl dR_wayTo_7 rfl rfl rfl ?_
  refine x_iload_n dR_wayTo_10 rfl ?_
  refine x_iconst (v := 1) dR_wayTo_11 rfl ?_
  refine x_isub dR_wayTo_12 ?_
  refine x_ialdJ dR_wayTo_13 rfl rfl (pk_sub (b := 1) (by omega)) (by omega) ?_
  -- at 14: .imul
  rw [ev]
  refine x_imul dR_wayTo_14 ?_
  refine x_aload_n dR_wayTo_15 rfl ?_
  refine x_getR fl_R_59 rfl dR_wayTo_16 rfl rfl rfl ?_
  refine x_iload_n dR_wayTo_19 rfl ?_
  refine x_ialdJ (j := s) dR_wayTo_20 rfl rfl (by first | rfl | (simp only [← nI_add, ← pk_mul]; rfl)) (by omega) ?_
  -- at 21: .iadd
  rw [eu]
  refine x_iadd dR_wayTo_21 ?_
  refine x_ialdJ dR_wayTo_22 rfl rfl (r6 v u) (by omega) ?_
  -- at 23: .ireturn
  refine x_ireturn dR_wayTo_23 rfl rfl ?_
  exact h1
def sp_R_judge : SpT := rSp [] (fun E => .int (judgeS E)) (fun E => E)
set_option maxHeartbeats 4000000 in
set_option maxRecDepth 100000 in
theorem c_R_judge : Con mR_judge 3 0 0 sp_R_judge := by
  refine con_of_X rfl fun G as S I L Post hs => ?_
  obtain ⟨rfl, rfl, hok, h1⟩ := hs
  dsimp only at h1
  have h1 := h1 I L (fun _ _ => rfl) hok.2 rfl
  refine ⟨2, Nat.le_of_ble_eq_true rfl, ?_⟩
  show X mR_judge G _ S1 I L 0 [.ref 59, .null, .null] [] Post
  obtain ⟨b1, b2, -⟩ := hok.1.c
  have b1 : I 59 17 = nI (sN (rE I)) := b1
  refine x_iconst (v := 1) dR_judge_0 rfl ?_
  refine x_istoren_1 dR_judge_1 rfl rfl ?_
  -- at 2: .iload_n 1
  have loop : ∀ (k i : Nat) (a2 : Value), (i + k = sN (rE I) ∨ (k = 0 ∧ sN (rE I) ≤ i ∧ i < 100)) → 1 ≤ i → Post (some (.int (jR (rE I) k i))) S1 I L → X mR_judge G (3, 0, 0) S1 I L 2 [.ref 59, .int (nI i), a2] [] Post := by
    intro k
    induction k with
    | zero =>
      intro i a2 hi hi1 hp
      refine x_iload_n dR_judge_2 rfl ?_
      refine x_aload_n dR_judge_3 rfl ?_
      refine x_getI fl_R_158 rfl dR_judge_4 rfl rfl ?_
      -- at 7: .if_icmp .ge 45
      rw [b1]
      refine x_icmp_ge (tgt := 52) dR_judge_7 (by decide) (fun _ => ?_) (fun h => absurd (nI_le (by omega) (by omega)) h)
      refine x_iconst (v := -1) dR_judge_52 rfl ?_
      -- at 53: .ireturn
      refine x_ireturn dR_judge_53 rfl rfl ?_
      exact hp
    | succ k ih =>
      intro i a2 hi hi1 hp
      have hi2 : i < sN (rE I) := by omega
      have e16 : I 76 i = rE I 16 i := (mk_lt hi2).symm
      have e16' : I 76 (i - 1) = rE I 16 (i - 1) := (mk_lt (by have : sN (rE I) = cl (I 59 17) := rfl; omega)).symm
      rw [jR] at hp
      refine x_iload_n dR_judge_2 rfl ?_
      refine x_aload_n dR_judge_3 rfl ?_
      refine x_getI fl_R_158 rfl dR_judge_4 rfl rfl ?_
      -- at 7: .if_icmp .ge 45
      rw [b1]
      refine x_icmp_ge (tgt := 52) dR_judge_7 (by decide) (fun h => absurd h (nI_ge (by omega) (by omega))) (fun _ => ?_)
      refine x_aload_n dR_judge_10 rfl ?_
      refine x_getR fl_R_62 rfl dR_judge_11 rfl rfl rfl ?_
      refine x_iload_n dR_judge_14 rfl ?_
      refine x_ialdJ (j := i) dR_judge_15 rfl rfl (by first | rfl | (simp only [← nI_add, ← pk_mul]; rfl)) (by omega) ?_
      refine x_aload_n dR_judge_16 rfl ?_
      refine x_getR fl_R_62 rfl dR_judge_17 rfl rfl rfl ?_
      refine x_iload_n dR_judge_20 rfl ?_
      refine x_iconst (v := 1) dR_judge_21 rfl ?_
      refine x_isub dR_judge_22 ?_
      refine x_ialdJ dR_judge_23 rfl rfl (pk_sub (b := 1) (by omega)) (by omega) ?_
      -- at 24: .isub
      rw [e16, e16']
      refine x_isub dR_judge_24 ?_
      refine x_istoren_2 dR_judge_25 rfl rfl ?_
      refine x_iload_n dR_judge_26 rfl ?_
      -- at 27: .ifCond .lt 17
      refine x_if_lt (tgt := 44) dR_judge_27 (by decide) (fun c1 => ?_) (fun c1 => ?_)
      · rw [if_pos (show lateV (rE I) i from Or.inl c1)] at hp
        refine x_iload_n dR_judge_44 rfl ?_
        -- at 45: .ireturn
        refine x_ireturn dR_judge_45 rfl rfl ?_
        exact hp
      · refine x_aload_n dR_judge_30 rfl ?_
        refine x_iload_n dR_judge_31 rfl ?_
        -- at 32: .invokevirtual 319
        refine x_callV_1 c_R_wayTo ok_R_wayTo ml_R_319 dR_judge_32 rfl rfl rfl rfl rfl ?_
        refine ⟨i, rfl, rfl, hok, hi1, hi2, ?_⟩
        refine x_aload_n dR_judge_35 rfl ?_
        refine x_getI fl_R_16 rfl dR_judge_36 rfl rfl ?_
        refine x_iload_n dR_judge_39 rfl ?_
        refine x_imul dR_judge_40 ?_
        -- at 41: .if_icmp .le 5
        refine x_icmp_le (tgt := 46) dR_judge_41 (by decide) (fun c2 => ?_) (fun c2 => ?_)
        · rw [if_neg (show ¬ lateV (rE I) i from fun z => z.elim c1 (fun y => absurd y (Int32.not_lt.mpr c2)))] at hp
          refine x_iincp_1 dR_judge_46 rfl rfl ?_
          refine x_goto (tgt := 2) dR_judge_49 (by decide) ?_
          -- at 2: .iload_n 1
          rw [nI_1]
          exact ih (i + 1) _ (by omega) (by omega) hp
        · rw [if_pos (show lateV (rE I) i from Or.inr (Int32.not_le.mp c2))] at hp
          refine x_iload_n dR_judge_44 rfl ?_
          -- at 45: .ireturn
          refine x_ireturn dR_judge_45 rfl rfl ?_
          exact hp
  exact loop (sN (rE I) - 1) 1 .null (by omega) (by omega) h1
def sp_R_walk : SpT := rSp [] (fun E => .int (walkS E)) (fun E => E)
set_option maxHeartbeats 4000000 in
set_option maxRecDepth 100000 in
theorem c_R_walk : Con mR_walk 3 0 0 sp_R_walk := by
  refine con_of_X rfl fun G as S I L Post hs => ?_
  obtain ⟨rfl, rfl, hok, h1⟩ := hs
  dsimp only at h1
  have h1 := h1 I L (fun _ _ => rfl) hok.2 rfl
  refine ⟨2, Nat.le_of_ble_eq_true rfl, ?_⟩
  show X mR_walk G _ S1 I L 0 [.ref 59, .null, .null] [] Post
  obtain ⟨b1, b2, -⟩ := hok.1.c
  have b1 : I 59 17 = nI (sN (rE I)) := b1
  refine x_iconst (v := 0) dR_walk_0 rfl ?_
  refine x_istoren_1 dR_walk_1 rfl rfl ?_
  refine x_iconst (v := 1) dR_walk_2 rfl ?_
  refine x_istoren_2 dR_walk_3 rfl rfl ?_
  -- at 4: .iload_n 2
  have loop : ∀ (k i : Nat) (acc : Int32), i + k = sN (rE I) - 1 → acc = wkR (rE I) i → X mR_walk G (3, 0, 0) S1 I L 4 [.ref 59, .int acc, .int (nI (i + 1))] [] Post := by
    intro k
    induction k with
    | zero =>
      intro i acc hi ha
      obtain rfl : i = sN (rE I) - 1 := by omega
      refine x_iload_n dR_walk_4 rfl ?_
      refine x_aload_n dR_walk_5 rfl ?_
      refine x_getI fl_R_158 rfl dR_walk_6 rfl rfl ?_
      -- at 9: .if_icmp .ge 17
      rw [b1]
      refine x_icmp_ge (tgt := 26) dR_walk_9 (by decide) (fun _ => ?_) (fun h => absurd (nI_le (by omega) (by omega)) h)
      refine x_iload_n dR_walk_26 rfl ?_
      -- at 27: .ireturn
      refine x_ireturn dR_walk_27 rfl rfl ?_
      rw [ha]
      exact h1
    | succ k ih =>
      intro i acc hi ha
      refine x_iload_n dR_walk_4 rfl ?_
      refine x_aload_n dR_walk_5 rfl ?_
      refine x_getI fl_R_158 rfl dR_walk_6 rfl rfl ?_
      -- at 9: .if_icmp .ge 17
      rw [b1]
      refine x_icmp_ge (tgt := 26) dR_walk_9 (by decide) (fun h => absurd h (nI_ge (by omega) (by omega))) (fun _ => ?_)
      refine x_iload_n dR_walk_12 rfl ?_
      refine x_aload_n dR_walk_13 rfl ?_
      refine x_iload_n dR_walk_14 rfl ?_
      -- at 15: .invokevirtual 319
      refine x_callV_1 c_R_wayTo ok_R_wayTo ml_R_319 dR_walk_15 rfl rfl rfl rfl rfl ?_
      refine ⟨i + 1, rfl, rfl, hok, by omega, by omega, ?_⟩
      refine x_iadd dR_walk_18 ?_
      refine x_istoren_1 dR_walk_19 rfl rfl ?_
      refine x_iincp_2 dR_walk_20 rfl rfl ?_
      refine x_goto (tgt := 4) dR_walk_23 (by decide) ?_
      -- at 4: .iload_n 2
      rw [nI_1]
      refine ih (i + 1) _ (by omega) ?_
      rw [wkR, ha]
  exact loop (sN (rE I) - 1) 0 0 (by omega) rfl
def sp_R_isUnder : SpT := fun as S I L Post => ∃ k w : Int32, as = [.int k, .int w] ∧ bPost (isU k w) S I L Post
set_option maxHeartbeats 4000000 in
set_option maxRecDepth 100000 in
theorem c_R_isUnder : Con mR_isUnder 2 0 0 sp_R_isUnder := by
  refine con_of_X rfl fun G as S I L Post hs => ?_
  obtain ⟨k, w, rfl, h1, h2⟩ := hs
  refine ⟨0, Nat.le_of_ble_eq_true rfl, ?_⟩
  show X mR_isUnder G _ S I L 0 [.int k, .int w] [] Post
  have yes : isU k w → X mR_isUnder G (2, 0, 0) S I L 24 [.int k, .int w] [] Post := by
    intro h
    refine x_iconst (v := 1) dR_isUnder_24 rfl ?_
    refine x_goto (tgt := 29) dR_isUnder_25 (by decide) ?_
    -- at 29: .ireturn
    refine x_ireturn dR_isUnder_29 rfl rfl ?_
    exact h1 h
  have no : ¬ isU k w → X mR_isUnder G (2, 0, 0) S I L 28 [.int k, .int w] [] Post := by
    intro h
    refine x_iconst (v := 0) dR_isUnder_28 rfl ?_
    -- at 29: .ireturn
    refine x_ireturn dR_isUnder_29 rfl rfl ?_
    exact h2 h
  refine x_iload_n dR_isUnder_0 rfl ?_
  -- at 1: .ifCond .eq 23
  refine x_if_eq (tgt := 24) dR_isUnder_1 (by decide) (fun c1 => ?_) (fun c1 => ?_)
  · exact yes (Or.inl c1)
  · refine x_iload_n dR_isUnder_4 rfl ?_
    refine x_iload_n dR_isUnder_5 rfl ?_
    -- at 6: .if_icmp .eq 18
    refine x_icmp_eq (tgt := 24) dR_isUnder_6 (by decide) (fun c2 => ?_) (fun c2 => ?_)
    · exact yes (Or.inr (Or.inl c2))
    · refine x_iload_n dR_isUnder_9 rfl ?_
      refine x_iconst (v := 1) dR_isUnder_10 rfl ?_
      -- at 11: .if_icmp .ne 17
      refine x_icmp_ne (tgt := 28) dR_isUnder_11 (by decide) (fun c3 => ?_) (fun c3 => ?_)
      · exact no (fun z => z.elim c1 (fun y => y.elim c2 (fun x => c3 x.1)))
      · refine x_iload_n dR_isUnder_14 rfl ?_
        refine x_iconst (v := 3) dR_isUnder_15 rfl ?_
        -- at 16: .if_icmp .eq 8
        refine x_icmp_eq (tgt := 24) dR_isUnder_16 (by decide) (fun c4 => ?_) (fun c4 => ?_)
        · exact yes (Or.inr (Or.inr ⟨c3, Or.inl c4⟩))
        · refine x_iload_n dR_isUnder_19 rfl ?_
          refine x_iconst (v := 5) dR_isUnder_20 rfl ?_
          -- at 21: .if_icmp .ne 7
          refine x_icmp_ne (tgt := 28) dR_isUnder_21 (by decide) (fun c5 => ?_) (fun c5 => ?_)
          · exact no (fun z => z.elim c1 (fun y => y.elim c2 (fun x => x.2.elim c4 c5)))
          · exact yes (Or.inr (Or.inr ⟨c3, Or.inr c5⟩))
theorem ge_in {x lo n1 : Int32} {n : Nat} (hn : n1 = nI n) (hle : n ≤ 1000) (h0 : 0 ≤ x) : inR x 0 (n1 - 1) ↔ x < n1 := by
  obtain ⟨k, hk, rfl⟩ := nat_any h0
  subst hn
  constructor
  · intro h
    obtain ⟨j, hj, e⟩ := has_nat hle h
    rw [e]
    exact (nI_ltI (by omega) (by omega)).mpr hj
  · intro h
    have hj := (nI_ltI hk (by omega)).mp h
    refine ⟨h0, ?_⟩
    rw [show nI n - 1 = nI (n - 1) from pk_sub (b := 1) (by omega)]
    exact nI_le (by omega) (by omega)
def sp_R_taken : SpT := fun as S I L Post => ∃ i k : Int32, rSp [.int i, .int k] (fun E => .int (takenS E i k)) (fun E => E) as S I L Post
set_option maxHeartbeats 4000000 in
set_option maxRecDepth 100000 in
theorem c_R_taken : Con mR_taken 3 0 0 sp_R_taken := by
  refine con_of_X rfl fun G as S I L Post hs => ?_
  obtain ⟨i, k, rfl, rfl, hok, h1⟩ := hs
  dsimp only at h1
  have h1 := h1 I L (fun _ _ => rfl) hok.2 rfl
  refine ⟨0, Nat.le_of_ble_eq_true rfl, ?_⟩
  show X mR_taken G _ S1 I L 0 [.ref 59, .int i, .int k] [] Post
  obtain ⟨v1, v2, -⟩ := hok.1.b
  obtain ⟨c1, c2, -⟩ := hok.1.a
  refine x_iload_n dR_taken_0 rfl ?_
  refine x_iconst (v := 0) dR_taken_1 rfl ?_
  refine x_bipush (v := 6) dR_taken_2 rfl ?_
  -- at 4: .invokestatic 151
  refine x_callS_3 c_R_in ok_R_in ml_R_151 dR_taken_4 rfl rfl ?_
  refine ⟨_, _, _, rfl, fun a1 => ?_, fun a1 => ?_⟩
  · have a1 : inR k 0 6 := a1
    refine x_if_ne (tgt := 13) dR_taken_7 (by decide) (fun _ => ?_) (fun h => absurd h (by decide))
    rw [takenS, if_neg (not_not_intro a1)] at h1
    refine x_iload_n dR_taken_13 rfl ?_
    refine x_iconst (v := 0) dR_taken_14 rfl ?_
    refine x_bipush (v := 15) dR_taken_15 rfl ?_
    -- at 17: .invokestatic 151
    refine x_callS_3 c_R_in ok_R_in ml_R_151 dR_taken_17 rfl rfl ?_
    refine ⟨_, _, _, rfl, fun a2 => ?_, fun a2 => ?_⟩
    · have a2 : inR i 0 15 := a2
      refine x_if_ne (tgt := 26) dR_taken_20 (by decide) (fun _ => ?_) (fun h => absurd h (by decide))
      rw [if_neg (not_not_intro a2)] at h1
      obtain ⟨j, hj, rfl⟩ := inR_of (n := 15) (by decide) a2
      refine x_iload_n dR_taken_26 rfl ?_
      refine x_bipush (v := 8) dR_taken_27 rfl ?_
      -- at 29: .if_icmp .ge 34
      refine x_icmp_ge (tgt := 63) dR_taken_29 (by decide) (fun c3 => ?_) (fun c3 => ?_)
      · rw [if_neg (Int32.not_lt.mpr c3)] at h1
        have hj8 : 8 ≤ j := by
          by_cases z : 8 ≤ j
          · exact z
          · exact absurd c3 (nI_ge (b := 8) (by omega) (by omega))
        have e8 : nI j - 8 = nI (j - 8) := pk_sub (b := 8) hj8
        have hin := ge_in (lo := 0) c1 (by omega) (show 0 ≤ nI (j - 8) from nI_le (a := 0) (by omega) (by omega))
        refine x_iload_n dR_taken_63 rfl ?_
        refine x_bipush (v := 8) dR_taken_64 rfl ?_
        refine x_isub dR_taken_66 ?_
        refine x_aload_n dR_taken_67 rfl ?_
        refine x_getI fl_R_148 rfl dR_taken_68 rfl rfl ?_
        -- at 71: .if_icmp .lt 8
        rw [e8]
        rw [e8] at h1
        refine x_icmp_lt (tgt := 79) dR_taken_71 (by decide) (fun c4 => ?_) (fun c4 => ?_)
        · have c4 : nI (j - 8) < rE I 29 1 := c4
          rw [if_neg (not_not_intro (hin.mpr c4))] at h1
          rw [c1] at c4
          have hlt := (nI_ltI (by omega) (by omega)).mp c4
          rw [cl_nI (by omega)] at h1
          refine x_iload_n dR_taken_79 rfl ?_
          refine x_bipush (v := 6) dR_taken_80 rfl ?_
          -- at 82: .if_icmp .ge 26
          refine x_icmp_ge (tgt := 108) dR_taken_82 (by decide) (fun c5 => ?_) (fun c5 => ?_)
          · rw [if_neg (fun z => absurd z.1 (Int32.not_lt.mpr c5))] at h1
            refine x_bipush (v := -13) dR_taken_108 rfl ?_
            -- at 110: .ireturn
            refine x_ireturn dR_taken_110 rfl rfl ?_
            exact h1
          · have c5 : k < 6 := Int32.not_le.mp c5
            refine x_aload_n dR_taken_85 rfl ?_
            refine x_getR fl_R_20 rfl dR_taken_86 rfl rfl rfl ?_
            refine x_iload_n dR_taken_89 rfl ?_
            refine x_bipush (v := 8) dR_taken_90 rfl ?_
            refine x_isub dR_taken_92 ?_
            -- at 93: .iaload
            rw [e8]
            refine x_ialdJ (j := j - 8) dR_taken_93 rfl rfl (by first | rfl | (simp only [← nI_add, ← pk_mul]; rfl)) (by omega) ?_
            refine x_iload_n dR_taken_94 rfl ?_
            -- at 95: .invokestatic 380
            refine x_callS_2 c_R_isUnder ok_R_isUnder ml_R_380 dR_taken_95 rfl rfl ?_
            refine ⟨_, _, rfl, fun g => ?_, fun g => ?_⟩
            · rw [if_pos ⟨c5, g⟩] at h1
              refine x_if_eq (tgt := 108) dR_taken_98 (by decide) (fun h => absurd h (by decide)) (fun _ => ?_)
              refine x_iload_n dR_taken_101 rfl ?_
              refine x_bipush (v := 8) dR_taken_102 rfl ?_
              refine x_isub dR_taken_104 ?_
              refine x_goto (tgt := 110) dR_taken_105 (by decide) ?_
              -- at 110: .ireturn
              rw [e8]
              refine x_ireturn dR_taken_110 rfl rfl ?_
              exact h1
            · rw [if_neg (fun z => g z.2)] at h1
              refine x_if_eq (tgt := 108) dR_taken_98 (by decide) (fun _ => ?_) (fun h => absurd (by decide) h)
              refine x_bipush (v := -13) dR_taken_108 rfl ?_
              -- at 110: .ireturn
              refine x_ireturn dR_taken_110 rfl rfl ?_
              exact h1
        · have c4 : ¬ nI (j - 8) < rE I 29 1 := c4
          rw [if_pos (fun z => c4 (hin.mp z))] at h1
          refine x_bipush (v := -11) dR_taken_74 rfl ?_
          refine x_goto (tgt := 110) dR_taken_76 (by decide) ?_
          -- at 110: .ireturn
          refine x_ireturn dR_taken_110 rfl rfl ?_
          exact h1
      · rw [if_pos (Int32.not_le.mp c3)] at h1
        have hin := ge_in (lo := 0) v1 (by omega) (show 0 ≤ nI j from nI_le (a := 0) (by omega) (by omega))
        refine x_iload_n dR_taken_32 rfl ?_
        refine x_aload_n dR_taken_33 rfl ?_
        refine x_getI fl_R_155 rfl dR_taken_34 rfl rfl ?_
        -- at 37: .if_icmp .lt 8
        refine x_icmp_lt (tgt := 45) dR_taken_37 (by decide) (fun c4 => ?_) (fun c4 => ?_)
        · have c4 : nI j < rE I 29 2 := c4
          rw [if_neg (not_not_intro (hin.mpr c4)), cl_nI (by omega)] at h1
          rw [v1] at c4
          have hlt := (nI_ltI (by omega) (by omega)).mp c4
          refine x_iload_n dR_taken_45 rfl ?_
          refine x_bipush (v := 6) dR_taken_46 rfl ?_
          -- at 48: .if_icmp .ne 12
          refine x_icmp_ne (tgt := 60) dR_taken_48 (by decide) (fun c5 => ?_) (fun c5 => ?_)
          · rw [if_neg c5] at h1
            refine x_bipush (v := -13) dR_taken_60 rfl ?_
            -- at 62: .ireturn
            refine x_ireturn dR_taken_62 rfl rfl ?_
            exact h1
          · rw [if_pos c5] at h1
            refine x_aload_n dR_taken_51 rfl ?_
            refine x_getR fl_R_47 rfl dR_taken_52 rfl rfl rfl ?_
            refine x_iload_n dR_taken_55 rfl ?_
            refine x_ialdJ (j := j) dR_taken_56 rfl rfl (by first | rfl | (simp only [← nI_add, ← pk_mul]; rfl)) (by omega) ?_
            refine x_goto (tgt := 62) dR_taken_57 (by decide) ?_
            -- at 62: .ireturn
            refine x_ireturn dR_taken_62 rfl rfl ?_
            exact h1
        · have c4 : ¬ nI j < rE I 29 2 := c4
          rw [if_pos (fun z => c4 (hin.mp z))] at h1
          refine x_bipush (v := -11) dR_taken_40 rfl ?_
          refine x_goto (tgt := 62) dR_taken_42 (by decide) ?_
          -- at 62: .ireturn
          refine x_ireturn dR_taken_62 rfl rfl ?_
          exact h1
    · have a2 : ¬ inR i 0 15 := a2
      refine x_if_ne (tgt := 26) dR_taken_20 (by decide) (fun h => absurd (by decide) h) (fun _ => ?_)
      rw [if_pos a2] at h1
      refine x_bipush (v := -12) dR_taken_23 rfl ?_
      -- at 25: .ireturn
      refine x_ireturn dR_taken_25 rfl rfl ?_
      exact h1
  · have a1 : ¬ inR k 0 6 := a1
    refine x_if_ne (tgt := 13) dR_taken_7 (by decide) (fun h => absurd (by decide) h) (fun _ => ?_)
    rw [takenS, if_pos a1] at h1
    refine x_bipush (v := -2) dR_taken_10 rfl ?_
    -- at 12: .ireturn
    refine x_ireturn dR_taken_12 rfl rfl ?_
    exact h1
