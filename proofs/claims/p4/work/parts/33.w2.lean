/-! the class's calls: people, promises, sayings -/
theorem has_nat {p : Int32} {n : Nat} (hn : n ≤ 1000) (h : inR p 0 (nI n - 1)) : ∃ k, k < n ∧ p = nI k := by
  by_cases h0 : n = 0
  · subst h0
    exact absurd (Int32.le_trans h.1 h.2) (by decide)
  · have e : nI n - 1 = nI (n - 1) := pk_sub (b := 1) (by omega)
    rw [e] at h
    obtain ⟨k, hk, ek⟩ := nI_of2 (x := p) (M := nI (n - 1)) (n := n - 1) (nI_toInt (by omega)) (Int32.not_lt.mpr h.1) h.2
    exact ⟨k, by omega, ek⟩
abbrev perC (k w ws ld : Int32) : Prop := inR k 0 5 ∧ inR w 0 599 ∧ inR ws 0 255 ∧ inR ld 100 999
def personS (E : IM) (k w ws ld : Int32) : Int32 := if ¬ perC k w ws ld then -2 else if ¬ E 29 1 < 8 then -4 else E 29 1
def addP (E : IM) (n : Nat) (k w ws ld : Int32) : IM := up2 (up2 (up2 (up2 (up2 (up2 (up2 (up2 (up2 E 2 n k) 3 n (w / 100)) 4 n (rem (w / 10) 10)) 5 n (rem w 10)) 6 n ws) 7 n (ld / 100)) 8 n (rem ld 100)) 9 n (-1)) 29 1 (nI n + 1)
def personU (E : IM) (k w ws ld : Int32) : IM := if ¬ perC k w ws ld then E else if ¬ E 29 1 < 8 then E else addP E (pN E) k w ws ld
theorem cE_addP (I : IM) (k w ws ld : Int32) (hn : I 4 8 = nI (pN (cE I))) (h8 : pN (cE I) ≤ 8) : cE (cFadd I (pN (cE I)) k w ws ld) = addP (cE I) (pN (cE I)) k w ws ld := by
  have e0 : cl (I 4 8) = pN (cE I) := rfl
  generalize pN (cE I) = n at hn h8 e0 ⊢
  unfold cFadd addP
  rw [cE_n1, show nI n + 1 = nI (n + 1) from nI_1 n, cl_nI (by omega), show up2 (up2 (up2 (up2 (up2 (up2 (up2 (up2 I 5 n k) 6 n (w / 100)) 7 n (rem (w / 10) 10)) 8 n (rem w 10)) 9 n ws) 10 n (ld / 100)) 11 n (rem ld 100)) 12 n (-1) 12 = up1 (I 12) n (-1) by simp only [up2_n, up2_s, ne_eq, Nat.reduceEqDiff, not_false_eq_true], mk_up]
  rw [show ∀ J : IM, cE (up2 J 12 n (-1)) = upr (cE J) 9 (mk (cl (J 4 8)) (up1 (J 12) n (-1))) from fun J => cE_9 J _]
  rw [cE_u8, cE_u7, cE_u6, cE_u5, cE_u4, cE_u3, cE_u2]
  funext a
  by_cases h9 : a = 9
  · subst h9
    simp only [up2_n, up2_s, ne_eq, Nat.reduceEqDiff, not_false_eq_true, upr_s, upr_n]
    rw [show cE I 9 = mk (cl (I 4 8)) (I 12) from rfl, e0]
  · by_cases h29 : a = 29
    · subst h29
      simp only [up2_n, up2_s, ne_eq, Nat.reduceEqDiff, not_false_eq_true, upr_s, upr_n]
    · rw [upr_n _ _ h9, up2_n _ _ _ h29, upr_n _ _ h9, up2_n _ _ _ h29, up2_n _ _ _ h9]
def sp_W_person : SpT := fun as S I L Post => ∃ k w ws ld : Int32, cSp [.int k, .int w, .int ws, .int ld] (fun E => .int (personS E k w ws ld)) (fun E => personU E k w ws ld) as S I L Post
set_option maxHeartbeats 4000000 in
set_option maxRecDepth 100000 in
theorem c_W_person : Con mW_person 4 0 0 sp_W_person := by
  refine con_of_X rfl fun G as S I L Post hs => ?_
  obtain ⟨k, w, ws, ld, rfl, rfl, hok, h1⟩ := hs
  dsimp only at h1
  refine ⟨0, Nat.le_of_ble_eq_true rfl, ?_⟩
  show X mW_person G _ S1 I L 0 [.ref 0, .int k, .int w, .int ws, .int ld] [] Post
  have hn : I 4 8 = nI (pN (cE I)) := hok.1.1
  have h8 := hok.1.2.1
  have bad : ¬ perC k w ws ld → X mW_person G (4, 0, 0) S1 I L 40 [.ref 0, .int k, .int w, .int ws, .int ld] [] Post := by
    intro hc
    rw [personS, personU, if_pos hc, if_pos hc] at h1
    refine x_bipush (v := -2) dW_person_40 rfl ?_
    -- at 42: .ireturn
    refine x_ireturn dW_person_42 rfl rfl ?_
    exact h1 I (fun _ _ => rfl) rfl
  refine x_iload_n dW_person_0 rfl ?_
  refine x_iconst (v := 0) dW_person_1 rfl ?_
  refine x_iconst (v := 5) dW_person_2 rfl ?_
  -- at 3: .invokestatic 101
  refine x_callS_3 c_W_within ok_W_within ml_W_101 dW_person_3 rfl rfl ?_
  refine ⟨_, _, _, rfl, fun a1 => ?_, fun a1 => ?_⟩
  · refine x_if_eq (tgt := 40) dW_person_6 (by decide) (fun h => absurd h (by decide)) (fun _ => ?_)
    refine x_iload_n dW_person_9 rfl ?_
    refine x_iconst (v := 0) dW_person_10 rfl ?_
    refine x_sipush (v := 599) dW_person_11 rfl ?_
    -- at 14: .invokestatic 101
    refine x_callS_3 c_W_within ok_W_within ml_W_101 dW_person_14 rfl rfl ?_
    refine ⟨_, _, _, rfl, fun a2 => ?_, fun a2 => ?_⟩
    · refine x_if_eq (tgt := 40) dW_person_17 (by decide) (fun h => absurd h (by decide)) (fun _ => ?_)
      refine x_iload_n dW_person_20 rfl ?_
      -- at 21: .invokestatic 133
      refine x_callS_1 c_W_isByte ok_W_isByte ml_W_133 dW_person_21 rfl rfl ?_
      refine ⟨_, rfl, fun a3 => ?_, fun a3 => ?_⟩
      · refine x_if_eq (tgt := 40) dW_person_24 (by decide) (fun h => absurd h (by decide)) (fun _ => ?_)
        refine x_iload dW_person_27 rfl ?_
        refine x_bipush (v := 100) dW_person_29 rfl ?_
        refine x_sipush (v := 999) dW_person_31 rfl ?_
        -- at 34: .invokestatic 101
        refine x_callS_3 c_W_within ok_W_within ml_W_101 dW_person_34 rfl rfl ?_
        refine ⟨_, _, _, rfl, fun a4 => ?_, fun a4 => ?_⟩
        · refine x_if_ne (tgt := 43) dW_person_37 (by decide) (fun _ => ?_) (fun h => absurd h (by decide))
          have hc : perC k w ws ld := ⟨a1, a2, a3, a4⟩
          rw [personS, personU, if_neg (not_not_intro hc), if_neg (not_not_intro hc)] at h1
          refine x_aload_n dW_person_43 rfl ?_
          refine x_getR fl_W_19 rfl dW_person_44 rfl rfl rfl ?_
          refine x_getI fl_W_121 rfl dW_person_47 rfl rfl ?_
          refine x_bipush (v := 8) dW_person_50 rfl ?_
          -- at 52: .if_icmp .lt 6
          refine x_icmp_lt (tgt := 58) dW_person_52 (by decide) (fun c1 => ?_) (fun c1 => ?_)
          · rw [if_neg (not_not_intro (show cE I 29 1 < 8 from c1)), if_neg (not_not_intro (show cE I 29 1 < 8 from c1))] at h1
            refine x_aload_n dW_person_58 rfl ?_
            refine x_getR fl_W_19 rfl dW_person_59 rfl rfl rfl ?_
            refine x_iload_n dW_person_62 rfl ?_
            refine x_iload_n dW_person_63 rfl ?_
            refine x_iload_n dW_person_64 rfl ?_
            refine x_iload dW_person_65 rfl ?_
            -- at 67: .invokevirtual 140
            have hlt : pN (cE I) < 8 := by
              rw [hn] at c1
              exact (nI_ltI (b := 8) (by omega) (by omega)).mp c1
            refine x_callV_4 c_Folk_add ok_Folk_add ml_W_140 dW_person_67 rfl rfl rfl rfl rfl ?_
            refine ⟨pN (cE I), k, w, ws, ld, rfl, rfl, hlt, hn, ?_⟩
            refine x_ireturn dW_person_70 rfl rfl ?_
            have := h1 _ (fun j hj => by unfold cFadd; rw [up2_n _ _ _ (by omega), up2_n _ _ _ (by omega), up2_n _ _ _ (by omega), up2_n _ _ _ (by omega), up2_n _ _ _ (by omega), up2_n _ _ _ (by omega), up2_n _ _ _ (by omega), up2_n _ _ _ (by omega), up2_n _ _ _ (by omega)]) (cE_addP I k w ws ld hn h8)
            rw [show cE I 29 1 = nI (pN (cE I)) from hn] at this
            exact this
          · rw [if_pos (show ¬ cE I 29 1 < 8 from c1), if_pos (show ¬ cE I 29 1 < 8 from c1)] at h1
            refine x_bipush (v := -4) dW_person_55 rfl ?_
            -- at 57: .ireturn
            refine x_ireturn dW_person_57 rfl rfl ?_
            exact h1 I (fun _ _ => rfl) rfl
        · refine x_if_ne (tgt := 43) dW_person_37 (by decide) (fun h => absurd (by decide) h) (fun _ => ?_)
          exact bad (fun z => a4 z.2.2.2)
      · refine x_if_eq (tgt := 40) dW_person_24 (by decide) (fun _ => ?_) (fun h => absurd (by decide) h)
        exact bad (fun z => a3 z.2.2.1)
    · refine x_if_eq (tgt := 40) dW_person_17 (by decide) (fun _ => ?_) (fun h => absurd (by decide) h)
      exact bad (fun z => a2 z.2.1)
  · refine x_if_eq (tgt := 40) dW_person_6 (by decide) (fun _ => ?_) (fun h => absurd (by decide) h)
    exact bad (fun z => a1 z.1)
def moveS (E : IM) (p u : Int32) : Int32 := if ¬ inR p 0 (E 29 1 - 1) then -5 else if ¬ inR u (-1) 5 then -7 else E 9 (cl p)
def moveU (E : IM) (p u : Int32) : IM := if ¬ inR p 0 (E 29 1 - 1) then E else if ¬ inR u (-1) 5 then E else up2 E 9 (cl p) u
def sp_W_move : SpT := fun as S I L Post => ∃ p u : Int32, cSp [.int p, .int u] (fun E => .int (moveS E p u)) (fun E => moveU E p u) as S I L Post
set_option maxHeartbeats 4000000 in
set_option maxRecDepth 100000 in
theorem c_W_move : Con mW_move 4 0 0 sp_W_move := by
  refine con_of_X rfl fun G as S I L Post hs => ?_
  obtain ⟨p, u, rfl, rfl, hok, h1⟩ := hs
  dsimp only at h1
  refine ⟨1, Nat.le_of_ble_eq_true rfl, ?_⟩
  show X mW_move G _ S1 I L 0 [.ref 0, .int p, .int u, .null] [] Post
  have hn : I 4 8 = nI (pN (cE I)) := hok.1.1
  have h8 := hok.1.2.1
  refine x_aload_n dW_move_0 rfl ?_
  refine x_getR fl_W_19 rfl dW_move_1 rfl rfl rfl ?_
  refine x_iload_n dW_move_4 rfl ?_
  -- at 5: .invokevirtual 143
  refine x_callV_1 c_Folk_has ok_Folk_has ml_W_143 dW_move_5 rfl rfl rfl rfl rfl ?_
  refine ⟨_, rfl, rfl, fun a1 => ?_, fun a1 => ?_⟩
  · have a1 : inR p 0 (cE I 29 1 - 1) := a1
    refine x_if_ne (tgt := 14) dW_move_8 (by decide) (fun _ => ?_) (fun h => absurd h (by decide))
    rw [moveS, moveU, if_neg (not_not_intro a1), if_neg (not_not_intro a1)] at h1
    refine x_iload_n dW_move_14 rfl ?_
    refine x_iconst (v := -1) dW_move_15 rfl ?_
    refine x_iconst (v := 5) dW_move_16 rfl ?_
    -- at 17: .invokestatic 101
    refine x_callS_3 c_W_within ok_W_within ml_W_101 dW_move_17 rfl rfl ?_
    refine ⟨_, _, _, rfl, fun a2 => ?_, fun a2 => ?_⟩
    · have a2 : inR u (-1) 5 := a2
      refine x_if_ne (tgt := 26) dW_move_20 (by decide) (fun _ => ?_) (fun h => absurd h (by decide))
      rw [if_neg (not_not_intro a2), if_neg (not_not_intro a2)] at h1
      rw [show cE I 29 1 = nI (pN (cE I)) from hn] at a1
      obtain ⟨k, hk, rfl⟩ := has_nat (by omega) a1
      rw [cl_nI (by omega)] at h1
      refine x_aload_n dW_move_26 rfl ?_
      refine x_getR fl_W_19 rfl dW_move_27 rfl rfl rfl ?_
      refine x_getR fl_W_146 rfl dW_move_30 rfl rfl rfl ?_
      refine x_iload_n dW_move_33 rfl ?_
      refine x_ialdJ dW_move_34 rfl rfl rfl (by omega) ?_
      refine x_istoren_3 dW_move_35 rfl rfl ?_
      refine x_aload_n dW_move_36 rfl ?_
      refine x_getR fl_W_19 rfl dW_move_37 rfl rfl rfl ?_
      refine x_getR fl_W_146 rfl dW_move_40 rfl rfl rfl ?_
      refine x_iload_n dW_move_43 rfl ?_
      refine x_iload_n dW_move_44 rfl ?_
      refine x_iastJ dW_move_45 rfl rfl rfl (by omega) ?_
      refine x_iload_n dW_move_46 rfl ?_
      -- at 47: .ireturn
      refine x_ireturn dW_move_47 rfl rfl ?_
      have e9 : cE I 9 k = I 12 k := mk_lt hk
      rw [e9] at h1
      exact h1 _ (fun j hj => by rw [up2_n _ _ _ (by omega)]) (cE_u9 _ _ hk)
    · have a2 : ¬ inR u (-1) 5 := a2
      refine x_if_ne (tgt := 26) dW_move_20 (by decide) (fun h => absurd (by decide) h) (fun _ => ?_)
      rw [if_pos a2, if_pos a2] at h1
      refine x_bipush (v := -7) dW_move_23 rfl ?_
      -- at 25: .ireturn
      refine x_ireturn dW_move_25 rfl rfl ?_
      exact h1 I (fun _ _ => rfl) rfl
  · have a1 : ¬ inR p 0 (cE I 29 1 - 1) := a1
    refine x_if_ne (tgt := 14) dW_move_8 (by decide) (fun h => absurd (by decide) h) (fun _ => ?_)
    rw [moveS, moveU, if_pos a1, if_pos a1] at h1
    refine x_bipush (v := -5) dW_move_11 rfl ?_
    -- at 13: .ireturn
    refine x_ireturn dW_move_13 rfl rfl ?_
    exact h1 I (fun _ _ => rfl) rfl
