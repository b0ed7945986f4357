/-! the class's calls: best, foe, loud, spare -/
def bestF (E : IM) (t q : Nat) (k : Nat) : Int32 × Int32 := match k with
  | 0 => (-1, -1)
  | n + 1 => if ¬ isHowP (nI n) then bestF E t q n else if keep1 E t q (nI n) = false then bestF E t q n else
    if (bestF E t q n).2 = -1 ∨ pain1 E t q (nI n) < (bestF E t q n).1 then (pain1 E t q (nI n), nI n) else bestF E t q n
def bestS (E : IM) (q w : Int32) : Int32 := if ¬ inR q 0 (E 29 2 - 1) then -5 else if ¬ inR w 0 1 then -7 else if w = 0 then (bestF E (wN E) (cl q) 600).2 else (bestF E (wN E) (cl q) 600).1
def sp_W_best : SpT := fun as S I L Post => ∃ q w : Int32, cSp [.int q, .int w] (fun E => .int (bestS E q w)) (fun E => E) as S I L Post
set_option maxHeartbeats 4000000 in
set_option maxRecDepth 100000 in
theorem c_W_best : Con mW_best 8 0 0 sp_W_best := by
  refine con_of_X rfl fun G as S I0 L Post hs => ?_
  obtain ⟨q, w, rfl, rfl, hok, h1⟩ := hs
  dsimp only at h1
  refine ⟨4, Nat.le_of_ble_eq_true rfl, ?_⟩
  show X mW_best G _ S1 I0 L 0 [.ref 0, .int q, .int w, .null, .null, .null, .null] [] Post
  obtain ⟨v1, v2, -⟩ := hok.vow
  obtain ⟨l1, l2⟩ := hok.law
  refine x_aload_n dW_best_0 rfl ?_
  refine x_getR fl_W_26 rfl dW_best_1 rfl rfl rfl ?_
  refine x_iload_n dW_best_4 rfl ?_
  -- at 5: .invokevirtual 174
  refine x_callV_1 c_Vows_has ok_Vows_has ml_W_174 dW_best_5 rfl rfl rfl rfl rfl ?_
  refine ⟨_, rfl, rfl, fun a1 => ?_, fun a1 => ?_⟩
  · have a1 : inR q 0 (cE I0 29 2 - 1) := a1
    refine x_if_ne (tgt := 14) dW_best_8 (by decide) (fun _ => ?_) (fun h => absurd h (by decide))
    rw [bestS, if_neg (not_not_intro a1)] at h1
    rw [show cE I0 29 2 = nI (qN (cE I0)) from v1] at a1
    obtain ⟨j, hj, rfl⟩ := has_nat (by omega) a1
    rw [cl_nI (by omega)] at h1
    refine x_iload_n dW_best_14 rfl ?_
    refine x_iconst (v := 0) dW_best_15 rfl ?_
    refine x_iconst (v := 1) dW_best_16 rfl ?_
    -- at 17: .invokestatic 101
    refine x_callS_3 c_W_within ok_W_within ml_W_101 dW_best_17 rfl rfl ?_
    refine ⟨_, _, _, rfl, fun a2 => ?_, fun a2 => ?_⟩
    · have a2 : inR w 0 1 := a2
      refine x_if_ne (tgt := 26) dW_best_20 (by decide) (fun _ => ?_) (fun h => absurd h (by decide))
      rw [if_neg (not_not_intro a2)] at h1
      refine x_aload_n dW_best_26 rfl ?_
      refine x_getR fl_W_56 rfl dW_best_27 rfl rfl rfl ?_
      refine x_aload_n dW_best_30 rfl ?_
      refine x_getR fl_W_47 rfl dW_best_31 rfl rfl rfl ?_
      refine x_getI fl_W_127 rfl dW_best_34 rfl rfl ?_
      -- at 37: .invokevirtual 213
      rw [l1]
      refine x_callV_1 cE_reckon ok_Ledger_reckon ml_W_213 dW_best_37 rfl rfl rfl rfl rfl ?_
      refine ⟨_, rfl, rfl, hok, l2, fun I' hF hl hrk _ => ?_⟩
      refine x_iconst (v := -1) dW_best_40 rfl ?_
      refine x_istoren_3 dW_best_41 rfl rfl ?_
      refine x_iconst (v := -1) dW_best_42 rfl ?_
      refine x_istore_4 dW_best_43 rfl rfl ?_
      refine x_iconst (v := 0) dW_best_45 rfl ?_
      refine x_istore_5 dW_best_46 rfl rfl ?_
      -- at 48: .iload 5
      have loop : ∀ (k i : Nat) (I : IM) (a6 : Value), i + k = 600 → SM (wN (cE I0)) I0 I → X mW_best G (8, 0, 0) S1 I L 48 [.ref 0, .int (nI j), .int w, .int (bestF (cE I0) (wN (cE I0)) j i).1, .int (bestF (cE I0) (wN (cE I0)) j i).2, .int (nI i), a6] [] Post := by
        intro k
        induction k with
        | zero =>
          intro i I a6 hi hsm
          obtain rfl : i = 600 := by omega
          refine x_iload dW_best_48 rfl ?_
          refine x_sipush (v := 600) dW_best_50 rfl ?_
          -- at 53: .if_icmp .ge 72
          refine x_icmp_ge (tgt := 125) dW_best_53 (by decide) (fun _ => ?_) (fun h => absurd (show nI 600 ≤ nI 600 from Int32.le_refl _) h)
          refine x_iload_n dW_best_125 rfl ?_
          -- at 126: .ifCond .ne 8
          have h2 := h1 I hsm.stay hsm.eqE
          refine x_if_ne (tgt := 134) dW_best_126 (by decide) (fun c1 => ?_) (fun c1 => ?_)
          · rw [if_neg c1] at h2
            refine x_iload_n dW_best_134 rfl ?_
            -- at 135: .ireturn
            refine x_ireturn dW_best_135 rfl rfl ?_
            exact h2
          · rw [if_pos c1] at h2
            refine x_iload dW_best_129 rfl ?_
            refine x_goto (tgt := 135) dW_best_131 (by decide) ?_
            -- at 135: .ireturn
            refine x_ireturn dW_best_135 rfl rfl ?_
            exact h2
        | succ k ih =>
          intro i I a6 hi hsm
          refine x_iload dW_best_48 rfl ?_
          refine x_sipush (v := 600) dW_best_50 rfl ?_
          -- at 53: .if_icmp .ge 72
          refine x_icmp_ge (tgt := 125) dW_best_53 (by decide) (fun h => absurd h (nI_ge (b := 600) (by omega) (by omega))) (fun _ => ?_)
          refine x_iload dW_best_56 rfl ?_
          -- at 58: .invokestatic 187
          refine x_callS_1 c_W_isHow ok_W_isHow ml_W_187 dW_best_58 rfl rfl ?_
          refine ⟨_, rfl, fun a3 => ?_, fun a3 => ?_⟩
          · have a3 : isHowP (nI i) := a3
            refine x_if_ne (tgt := 67) dW_best_61 (by decide) (fun _ => ?_) (fun h => absurd h (by decide))
            refine x_aload_n dW_best_67 rfl ?_
            refine x_getR fl_W_56 rfl dW_best_68 rfl rfl rfl ?_
            refine x_iload_n dW_best_71 rfl ?_
            refine x_iload dW_best_72 rfl ?_
            -- at 74: .invokevirtual 244
            refine x_callV_2 cE_sayMore ok_Ledger_sayMore ml_W_244 dW_best_74 rfl rfl rfl rfl rfl ?_
            refine ⟨_, j, nI i, I0, rfl, rfl, hok, l2, hj, a3, hsm, fun I1 hs1 hv1 ho1 => ?_⟩
            refine x_aload_n dW_best_77 rfl ?_
            refine x_getR fl_W_56 rfl dW_best_78 rfl rfl rfl ?_
            refine x_iload_n dW_best_81 rfl ?_
            -- at 82: .invokevirtual 248
            refine x_callV_1 cE_keeps1 ok_Ledger_keeps ml_W_248 dW_best_82 rfl rfl rfl rfl rfl ?_
            refine ⟨_, j, nI i, I0, rfl, rfl, hok, hj, hs1, hv1, ho1, fun b1 => ?_, fun b1 => ?_⟩
            · refine x_if_ne (tgt := 91) dW_best_85 (by decide) (fun _ => ?_) (fun h => absurd h (by decide))
              refine x_aload_n dW_best_91 rfl ?_
              refine x_getR fl_W_56 rfl dW_best_92 rfl rfl rfl ?_
              -- at 95: .invokevirtual 251
              refine x_callV_0 cE_pain1 ok_Ledger_painOfAll ml_W_251 dW_best_95 rfl rfl rfl rfl rfl ?_
              refine ⟨_, j, nI i, I0, rfl, rfl, hok, l2, hs1, hv1, ho1, fun I2 hs2 => ?_⟩
              refine x_istore_6 dW_best_98 rfl rfl ?_
              refine x_iload dW_best_100 rfl ?_
              refine x_iconst (v := -1) dW_best_102 rfl ?_
              -- at 103: .if_icmp .eq 9
              have b2 : ¬ keep1 (cE I0) (wN (cE I0)) j (nI i) = false := fun z => by rw [z] at b1; cases b1
              have set : (bestF (cE I0) (wN (cE I0)) j i).2 = -1 ∨ pain1 (cE I0) (wN (cE I0)) j (nI i) < (bestF (cE I0) (wN (cE I0)) j i).1 → bestF (cE I0) (wN (cE I0)) j (i + 1) = (pain1 (cE I0) (wN (cE I0)) j (nI i), nI i) := fun z => by
                rw [bestF, if_neg (not_not_intro a3), if_neg b2, if_pos z]
              refine x_icmp_eq (tgt := 112) dW_best_103 (by decide) (fun c1 => ?_) (fun c1 => ?_)
              · have e := set (Or.inl c1)
                refine x_iload dW_best_112 rfl ?_
                refine x_istore_4 dW_best_114 rfl rfl ?_
                refine x_iload dW_best_116 rfl ?_
                refine x_istoren_3 dW_best_118 rfl rfl ?_
                refine x_iincp_5 dW_best_119 rfl rfl ?_
                refine x_goto (tgt := 48) dW_best_122 (by decide) ?_
                -- at 48: .iload 5
                rw [nI_1]
                have h3 := ih (i + 1) I2 (.int (pain1 (cE I0) (wN (cE I0)) j (nI i))) (by omega) hs2
                rw [e] at h3
                exact h3
              · refine x_iload dW_best_106 rfl ?_
                refine x_iload_n dW_best_108 rfl ?_
                -- at 109: .if_icmp .ge 10
                refine x_icmp_ge (tgt := 119) dW_best_109 (by decide) (fun c2 => ?_) (fun c2 => ?_)
                · have e : bestF (cE I0) (wN (cE I0)) j (i + 1) = bestF (cE I0) (wN (cE I0)) j i := by
                    rw [bestF, if_neg (not_not_intro a3), if_neg b2, if_neg (fun z => z.elim c1 (fun y => absurd y (Int32.not_lt.mpr c2)))]
                  refine x_iincp_5 dW_best_119 rfl rfl ?_
                  refine x_goto (tgt := 48) dW_best_122 (by decide) ?_
                  -- at 48: .iload 5
                  rw [nI_1]
                  have h3 := ih (i + 1) I2 (.int (pain1 (cE I0) (wN (cE I0)) j (nI i))) (by omega) hs2
                  rw [e] at h3
                  exact h3
                · have e := set (Or.inr (Int32.not_le.mp c2))
                  refine x_iload dW_best_112 rfl ?_
                  refine x_istore_4 dW_best_114 rfl rfl ?_
                  refine x_iload dW_best_116 rfl ?_
                  refine x_istoren_3 dW_best_118 rfl rfl ?_
                  refine x_iincp_5 dW_best_119 rfl rfl ?_
                  refine x_goto (tgt := 48) dW_best_122 (by decide) ?_
                  -- at 48: .iload 5
                  rw [nI_1]
                  have h3 := ih (i + 1) I2 (.int (pain1 (cE I0) (wN (cE I0)) j (nI i))) (by omega) hs2
                  rw [e] at h3
                  exact h3
            · refine x_if_ne (tgt := 91) dW_best_85 (by decide) (fun h => absurd (by decide) h) (fun _ => ?_)
              have e : bestF (cE I0) (wN (cE I0)) j (i + 1) = bestF (cE I0) (wN (cE I0)) j i := by
                rw [bestF, if_neg (not_not_intro a3), if_pos (Bool.eq_false_iff.mpr b1)]
              refine x_goto (tgt := 119) dW_best_88 (by decide) ?_
              refine x_iincp_5 dW_best_119 rfl rfl ?_
              refine x_goto (tgt := 48) dW_best_122 (by decide) ?_
              -- at 48: .iload 5
              rw [nI_1]
              have h3 := ih (i + 1) I1 a6 (by omega) hs1
              rw [e] at h3
              exact h3
          · have a3 : ¬ isHowP (nI i) := a3
            refine x_if_ne (tgt := 67) dW_best_61 (by decide) (fun h => absurd (by decide) h) (fun _ => ?_)
            have e : bestF (cE I0) (wN (cE I0)) j (i + 1) = bestF (cE I0) (wN (cE I0)) j i := by
              rw [bestF, if_pos a3]
            refine x_goto (tgt := 119) dW_best_64 (by decide) ?_
            refine x_iincp_5 dW_best_119 rfl rfl ?_
            refine x_goto (tgt := 48) dW_best_122 (by decide) ?_
            -- at 48: .iload 5
            rw [nI_1]
            have h3 := ih (i + 1) I a6 (by omega) hsm
            rw [e] at h3
            exact h3
      exact loop 600 0 I' .null (by omega) (SM.of hF hl hrk)
    · have a2 : ¬ inR w 0 1 := a2
      refine x_if_ne (tgt := 26) dW_best_20 (by decide) (fun h => absurd (by decide) h) (fun _ => ?_)
      rw [if_pos a2] at h1
      refine x_bipush (v := -7) dW_best_23 rfl ?_
      -- at 25: .ireturn
      refine x_ireturn dW_best_25 rfl rfl ?_
      exact h1 I0 (fun _ _ => rfl) rfl
  · have a1 : ¬ inR q 0 (cE I0 29 2 - 1) := a1
    refine x_if_ne (tgt := 14) dW_best_8 (by decide) (fun h => absurd (by decide) h) (fun _ => ?_)
    rw [bestS, if_pos a1] at h1
    refine x_bipush (v := -5) dW_best_11 rfl ?_
    -- at 13: .ireturn
    refine x_ireturn dW_best_13 rfl rfl ?_
    exact h1 I0 (fun _ _ => rfl) rfl
def foeF (E : IM) (t p q : Nat) (k : Nat) : Int32 × Int32 := match k with
  | 0 => (-1, -1)
  | n + 1 => if ¬ isHowP (nI n) then foeF E t p q n else if T1 E t q (nI n) p ≤ (foeF E t p q n).1 then foeF E t p q n else (T1 E t q (nI n) p, nI n)
def foeS (E : IM) (p q w : Int32) : Int32 := if ¬ inR p 0 (E 29 1 - 1) ∨ ¬ inR q 0 (E 29 2 - 1) then -5 else if ¬ inR w 0 1 then -7 else if w = 0 then (foeF E (wN E) (cl p) (cl q) 600).2 else (foeF E (wN E) (cl p) (cl q) 600).1
def sp_W_foe : SpT := fun as S I L Post => ∃ p q w : Int32, cSp [.int p, .int q, .int w] (fun E => .int (foeS E p q w)) (fun E => E) as S I L Post
set_option maxHeartbeats 4000000 in
set_option maxRecDepth 100000 in
theorem c_W_foe : Con mW_foe 8 0 0 sp_W_foe := by
  refine con_of_X rfl fun G as S I0 L Post hs => ?_
  obtain ⟨p, q, w, rfl, rfl, hok, h1⟩ := hs
  dsimp only at h1
  refine ⟨3, Nat.le_of_ble_eq_true rfl, ?_⟩
  show X mW_foe G _ S1 I0 L 0 [.ref 0, .int p, .int q, .int w, .null, .null, .null] [] Post
  obtain ⟨v1, v2, -⟩ := hok.vow
  obtain ⟨c1, c2, -⟩ := hok.ppl
  obtain ⟨l1, l2⟩ := hok.law
  have bad : (¬ inR p 0 (cE I0 29 1 - 1) ∨ ¬ inR q 0 (cE I0 29 2 - 1)) → X mW_foe G (8, 0, 0) S1 I0 L 22 [.ref 0, .int p, .int q, .int w, .null, .null, .null] [] Post := by
    intro hc
    rw [foeS, if_pos hc] at h1
    refine x_bipush (v := -5) dW_foe_22 rfl ?_
    -- at 24: .ireturn
    refine x_ireturn dW_foe_24 rfl rfl ?_
    exact h1 I0 (fun _ _ => rfl) rfl
  refine x_aload_n dW_foe_0 rfl ?_
  refine x_getR fl_W_19 rfl dW_foe_1 rfl rfl rfl ?_
  refine x_iload_n dW_foe_4 rfl ?_
  -- at 5: .invokevirtual 143
  refine x_callV_1 c_Folk_has ok_Folk_has ml_W_143 dW_foe_5 rfl rfl rfl rfl rfl ?_
  refine ⟨_, rfl, rfl, fun a0 => ?_, fun a0 => ?_⟩
  · refine x_if_eq (tgt := 22) dW_foe_8 (by decide) (fun h => absurd h (by decide)) (fun _ => ?_)
    refine x_aload_n dW_foe_11 rfl ?_
    refine x_getR fl_W_26 rfl dW_foe_12 rfl rfl rfl ?_
    refine x_iload_n dW_foe_15 rfl ?_
    -- at 16: .invokevirtual 174
    refine x_callV_1 c_Vows_has ok_Vows_has ml_W_174 dW_foe_16 rfl rfl rfl rfl rfl ?_
    refine ⟨_, rfl, rfl, fun a1 => ?_, fun a1 => ?_⟩
    · have a0 : inR p 0 (cE I0 29 1 - 1) := a0
      have a1 : inR q 0 (cE I0 29 2 - 1) := a1
      refine x_if_ne (tgt := 25) dW_foe_19 (by decide) (fun _ => ?_) (fun h => absurd h (by decide))
      rw [foeS, if_neg (fun z => z.elim (fun y => y a0) (fun y => y a1))] at h1
      rw [show cE I0 29 1 = nI (pN (cE I0)) from c1] at a0
      rw [show cE I0 29 2 = nI (qN (cE I0)) from v1] at a1
      obtain ⟨x, hx, rfl⟩ := has_nat (by omega) a0
      obtain ⟨j, hj, rfl⟩ := has_nat (by omega) a1
      rw [cl_nI (by omega), cl_nI (by omega)] at h1
      refine x_iload_n dW_foe_25 rfl ?_
      refine x_iconst (v := 0) dW_foe_26 rfl ?_
      refine x_iconst (v := 1) dW_foe_27 rfl ?_
      -- at 28: .invokestatic 101
      refine x_callS_3 c_W_within ok_W_within ml_W_101 dW_foe_28 rfl rfl ?_
      refine ⟨_, _, _, rfl, fun a2 => ?_, fun a2 => ?_⟩
      · have a2 : inR w 0 1 := a2
        refine x_if_ne (tgt := 37) dW_foe_31 (by decide) (fun _ => ?_) (fun h => absurd h (by decide))
        rw [if_neg (not_not_intro a2)] at h1
        refine x_aload_n dW_foe_37 rfl ?_
        refine x_getR fl_W_56 rfl dW_foe_38 rfl rfl rfl ?_
        refine x_aload_n dW_foe_41 rfl ?_
        refine x_getR fl_W_47 rfl dW_foe_42 rfl rfl rfl ?_
        refine x_getI fl_W_127 rfl dW_foe_45 rfl rfl ?_
        -- at 48: .invokevirtual 213
        rw [l1]
        refine x_callV_1 cE_reckon ok_Ledger_reckon ml_W_213 dW_foe_48 rfl rfl rfl rfl rfl ?_
        refine ⟨_, rfl, rfl, hok, l2, fun I' hF hl hrk _ => ?_⟩
        refine x_iconst (v := -1) dW_foe_51 rfl ?_
        refine x_istore_4 dW_foe_52 rfl rfl ?_
        refine x_iconst (v := -1) dW_foe_54 rfl ?_
        refine x_istore_5 dW_foe_55 rfl rfl ?_
        refine x_iconst (v := 0) dW_foe_57 rfl ?_
        refine x_istore_6 dW_foe_58 rfl rfl ?_
        -- at 60: .iload 6
        have loop : ∀ (k i : Nat) (I : IM), i + k = 600 → SM (wN (cE I0)) I0 I → X mW_foe G (8, 0, 0) S1 I L 60 [.ref 0, .int (nI x), .int (nI j), .int w, .int (foeF (cE I0) (wN (cE I0)) x j i).1, .int (foeF (cE I0) (wN (cE I0)) x j i).2, .int (nI i)] [] Post := by
          intro k
          induction k with
          | zero =>
            intro i I hi hsm
            obtain rfl : i = 600 := by omega
            refine x_iload dW_foe_60 rfl ?_
            refine x_sipush (v := 600) dW_foe_62 rfl ?_
            -- at 65: .if_icmp .ge 59
            refine x_icmp_ge (tgt := 124) dW_foe_65 (by decide) (fun _ => ?_) (fun h => absurd (show nI 600 ≤ nI 600 from Int32.le_refl _) h)
            refine x_iload_n dW_foe_124 rfl ?_
            -- at 125: .ifCond .ne 8
            have h2 := h1 I hsm.stay hsm.eqE
            refine x_if_ne (tgt := 133) dW_foe_125 (by decide) (fun c1 => ?_) (fun c1 => ?_)
            · rw [if_neg c1] at h2
              refine x_iload dW_foe_133 rfl ?_
              -- at 135: .ireturn
              refine x_ireturn dW_foe_135 rfl rfl ?_
              exact h2
            · rw [if_pos c1] at h2
              refine x_iload dW_foe_128 rfl ?_
              refine x_goto (tgt := 135) dW_foe_130 (by decide) ?_
              -- at 135: .ireturn
              refine x_ireturn dW_foe_135 rfl rfl ?_
              exact h2
          | succ k ih =>
            intro i I hi hsm
            refine x_iload dW_foe_60 rfl ?_
            refine x_sipush (v := 600) dW_foe_62 rfl ?_
            -- at 65: .if_icmp .ge 59
            refine x_icmp_ge (tgt := 124) dW_foe_65 (by decide) (fun h => absurd h (nI_ge (b := 600) (by omega) (by omega))) (fun _ => ?_)
            refine x_iload dW_foe_68 rfl ?_
            -- at 70: .invokestatic 187
            refine x_callS_1 c_W_isHow ok_W_isHow ml_W_187 dW_foe_70 rfl rfl ?_
            refine ⟨_, rfl, fun a3 => ?_, fun a3 => ?_⟩
            · have a3 : isHowP (nI i) := a3
              refine x_if_ne (tgt := 79) dW_foe_73 (by decide) (fun _ => ?_) (fun h => absurd h (by decide))
              refine x_aload_n dW_foe_79 rfl ?_
              refine x_getR fl_W_56 rfl dW_foe_80 rfl rfl rfl ?_
              refine x_iload_n dW_foe_83 rfl ?_
              refine x_iload dW_foe_84 rfl ?_
              -- at 86: .invokevirtual 244
              refine x_callV_2 cE_sayMore ok_Ledger_sayMore ml_W_244 dW_foe_86 rfl rfl rfl rfl rfl ?_
              refine ⟨_, j, nI i, I0, rfl, rfl, hok, l2, hj, a3, hsm, fun I1 hs1 hv1 ho1 => ?_⟩
              have et : I1 40 x = T1 (cE I0) (wN (cE I0)) j (nI i) x := (ho1 x hx).2.2.2
              refine x_aload_n dW_foe_89 rfl ?_
              refine x_getR fl_W_56 rfl dW_foe_90 rfl rfl rfl ?_
              refine x_getR fl_W_219 rfl dW_foe_93 rfl rfl rfl ?_
              refine x_iload_n dW_foe_96 rfl ?_
              refine x_ialdJ (j := x) dW_foe_97 rfl rfl (by first | rfl | (simp only [← nI_add, ← pk_mul]; rfl)) (by omega) ?_
              refine x_iload dW_foe_98 rfl ?_
              -- at 100: .if_icmp .le 18
              rw [et]
              refine x_icmp_le (tgt := 118) dW_foe_100 (by decide) (fun c2 => ?_) (fun c2 => ?_)
              · have e : foeF (cE I0) (wN (cE I0)) x j (i + 1) = foeF (cE I0) (wN (cE I0)) x j i := by
                  rw [foeF, if_neg (not_not_intro a3), if_pos c2]
                refine x_iincp_6 dW_foe_118 rfl rfl ?_
                refine x_goto (tgt := 60) dW_foe_121 (by decide) ?_
                -- at 60: .iload 6
                rw [nI_1]
                have h3 := ih (i + 1) I1 (by omega) hs1
                rw [e] at h3
                exact h3
              · have e : foeF (cE I0) (wN (cE I0)) x j (i + 1) = (T1 (cE I0) (wN (cE I0)) j (nI i) x, nI i) := by
                  rw [foeF, if_neg (not_not_intro a3), if_neg c2]
                refine x_iload dW_foe_103 rfl ?_
                refine x_istore_5 dW_foe_105 rfl rfl ?_
                refine x_aload_n dW_foe_107 rfl ?_
                refine x_getR fl_W_56 rfl dW_foe_108 rfl rfl rfl ?_
                refine x_getR fl_W_219 rfl dW_foe_111 rfl rfl rfl ?_
                refine x_iload_n dW_foe_114 rfl ?_
                refine x_ialdJ (j := x) dW_foe_115 rfl rfl (by first | rfl | (simp only [← nI_add, ← pk_mul]; rfl)) (by omega) ?_
                refine x_istore_4 dW_foe_116 rfl rfl ?_
                refine x_iincp_6 dW_foe_118 rfl rfl ?_
                refine x_goto (tgt := 60) dW_foe_121 (by decide) ?_
                -- at 60: .iload 6
                rw [et, nI_1]
                have h3 := ih (i + 1) I1 (by omega) hs1
                rw [e] at h3
                exact h3
            · have a3 : ¬ isHowP (nI i) := a3
              refine x_if_ne (tgt := 79) dW_foe_73 (by decide) (fun h => absurd (by decide) h) (fun _ => ?_)
              have e : foeF (cE I0) (wN (cE I0)) x j (i + 1) = foeF (cE I0) (wN (cE I0)) x j i := by
                rw [foeF, if_pos a3]
              refine x_goto (tgt := 118) dW_foe_76 (by decide) ?_
              refine x_iincp_6 dW_foe_118 rfl rfl ?_
              refine x_goto (tgt := 60) dW_foe_121 (by decide) ?_
              -- at 60: .iload 6
              rw [nI_1]
              have h3 := ih (i + 1) I (by omega) hsm
              rw [e] at h3
              exact h3
        exact loop 600 0 I' (by omega) (SM.of hF hl hrk)
      · have a2 : ¬ inR w 0 1 := a2
        refine x_if_ne (tgt := 37) dW_foe_31 (by decide) (fun h => absurd (by decide) h) (fun _ => ?_)
        rw [if_pos a2] at h1
        refine x_bipush (v := -7) dW_foe_34 rfl ?_
        -- at 36: .ireturn
        refine x_ireturn dW_foe_36 rfl rfl ?_
        exact h1 I0 (fun _ _ => rfl) rfl
    · refine x_if_ne (tgt := 25) dW_foe_19 (by decide) (fun h => absurd (by decide) h) (fun _ => ?_)
      exact bad (Or.inr a1)
  · refine x_if_eq (tgt := 22) dW_foe_8 (by decide) (fun _ => ?_) (fun h => absurd (by decide) h)
    exact bad (Or.inl a0)
theorem how_mk {u v k : Nat} (hu : u < 6) (hv : v < 6) (hk : 1 ≤ k) (hk2 : k < 10) : isHowP (nI (100 * u + 10 * v + k)) := by
  have e2 : nI (100 * u + 10 * v + k) / 10 = nI ((100 * u + 10 * v + k) / 10) := pk_div (d := 10) (by omega) (by omega) (by omega)
  have e3 : rem (nI (100 * u + 10 * v + k) / 10) 10 = nI ((100 * u + 10 * v + k) / 10 % 10) := by
    rw [e2]
    exact pk_rem (d := 10) (by omega) (by omega) (by omega)
  have e4 : rem (nI (100 * u + 10 * v + k)) 10 = nI ((100 * u + 10 * v + k) % 10) := pk_rem (d := 10) (by omega) (by omega) (by omega)
  refine ⟨⟨(nI_leI (a := 0) (by omega) (by omega)).mpr (by omega), (nI_leI (b := 599) (by omega) (by omega)).mpr (by omega)⟩, ?_, ?_⟩
  · rw [e3]
    exact (nI_ltI (b := 6) (by omega) (by omega)).mpr (by omega)
  · rw [e4]
    exact (nI_ltI (a := 0) (by omega) (by omega)).mpr (by omega)
def loudR (E : IM) (t q b : Nat) (k n : Nat) : Int32 := match k with
  | 0 => -1
  | j + 1 => if keep1 E t q (nI (b + n)) = true then nI n else loudR E t q b j (n + 1)
def loudS (E : IM) (q u v : Int32) : Int32 := if ¬ inR q 0 (E 29 2 - 1) then -5 else if ¬ inR u 0 5 ∨ ¬ inR v 0 5 then -7 else loudR E (wN E) (cl q) (100 * cl u + 10 * cl v) 9 1
def sp_W_loud : SpT := fun as S I L Post => ∃ q u v : Int32, cSp [.int q, .int u, .int v] (fun E => .int (loudS E q u v)) (fun E => E) as S I L Post
set_option maxHeartbeats 4000000 in
set_option maxRecDepth 100000 in
theorem c_W_loud : Con mW_loud 8 0 0 sp_W_loud := by
  refine con_of_X rfl fun G as S I0 L Post hs => ?_
  obtain ⟨q, u, v, rfl, rfl, hok, h1⟩ := hs
  dsimp only at h1
  refine ⟨1, Nat.le_of_ble_eq_true rfl, ?_⟩
  show X mW_loud G _ S1 I0 L 0 [.ref 0, .int q, .int u, .int v, .null] [] Post
  obtain ⟨v1, v2, -⟩ := hok.vow
  obtain ⟨l1, l2⟩ := hok.law
  refine x_aload_n dW_loud_0 rfl ?_
  refine x_getR fl_W_26 rfl dW_loud_1 rfl rfl rfl ?_
  refine x_iload_n dW_loud_4 rfl ?_
  -- at 5: .invokevirtual 174
  refine x_callV_1 c_Vows_has ok_Vows_has ml_W_174 dW_loud_5 rfl rfl rfl rfl rfl ?_
  refine ⟨_, rfl, rfl, fun a1 => ?_, fun a1 => ?_⟩
  · have a1 : inR q 0 (cE I0 29 2 - 1) := a1
    refine x_if_ne (tgt := 14) dW_loud_8 (by decide) (fun _ => ?_) (fun h => absurd h (by decide))
    rw [loudS, if_neg (not_not_intro a1)] at h1
    rw [show cE I0 29 2 = nI (qN (cE I0)) from v1] at a1
    obtain ⟨j, hj, rfl⟩ := has_nat (by omega) a1
    rw [cl_nI (by omega)] at h1
    have bad : (¬ inR u 0 5 ∨ ¬ inR v 0 5) → X mW_loud G (8, 0, 0) S1 I0 L 32 [.ref 0, .int (nI j), .int u, .int v, .null] [] Post := by
      intro hc
      rw [if_pos hc] at h1
      refine x_bipush (v := -7) dW_loud_32 rfl ?_
      -- at 34: .ireturn
      refine x_ireturn dW_loud_34 rfl rfl ?_
      exact h1 I0 (fun _ _ => rfl) rfl
    refine x_iload_n dW_loud_14 rfl ?_
    refine x_iconst (v := 0) dW_loud_15 rfl ?_
    refine x_iconst (v := 5) dW_loud_16 rfl ?_
    -- at 17: .invokestatic 101
    refine x_callS_3 c_W_within ok_W_within ml_W_101 dW_loud_17 rfl rfl ?_
    refine ⟨_, _, _, rfl, fun a2 => ?_, fun a2 => ?_⟩
    · refine x_if_eq (tgt := 32) dW_loud_20 (by decide) (fun h => absurd h (by decide)) (fun _ => ?_)
      refine x_iload_n dW_loud_23 rfl ?_
      refine x_iconst (v := 0) dW_loud_24 rfl ?_
      refine x_iconst (v := 5) dW_loud_25 rfl ?_
      -- at 26: .invokestatic 101
      refine x_callS_3 c_W_within ok_W_within ml_W_101 dW_loud_26 rfl rfl ?_
      refine ⟨_, _, _, rfl, fun a3 => ?_, fun a3 => ?_⟩
      · have a2 : inR u 0 5 := a2
        have a3 : inR v 0 5 := a3
        refine x_if_ne (tgt := 35) dW_loud_29 (by decide) (fun _ => ?_) (fun h => absurd h (by decide))
        rw [if_neg (fun z => z.elim (fun y => y a2) (fun y => y a3))] at h1
        obtain ⟨x, hx, rfl⟩ := inR_of (n := 5) (by decide) a2
        obtain ⟨y, hy, rfl⟩ := inR_of (n := 5) (by decide) a3
        rw [cl_nI (by omega), cl_nI (by omega)] at h1
        refine x_aload_n dW_loud_35 rfl ?_
        refine x_getR fl_W_56 rfl dW_loud_36 rfl rfl rfl ?_
        refine x_aload_n dW_loud_39 rfl ?_
        refine x_getR fl_W_47 rfl dW_loud_40 rfl rfl rfl ?_
        refine x_getI fl_W_127 rfl dW_loud_43 rfl rfl ?_
        -- at 46: .invokevirtual 213
        rw [l1]
        refine x_callV_1 cE_reckon ok_Ledger_reckon ml_W_213 dW_loud_46 rfl rfl rfl rfl rfl ?_
        refine ⟨_, rfl, rfl, hok, l2, fun I' hF hl hrk _ => ?_⟩
        refine x_iconst (v := 1) dW_loud_49 rfl ?_
        refine x_istore_4 dW_loud_50 rfl rfl ?_
        -- at 52: .iload 4
        have loop : ∀ (k i : Nat) (I : IM), i + k = 10 → 1 ≤ i → SM (wN (cE I0)) I0 I → (∀ I', (∀ k, 59 ≤ k → I' k = I0 k) → cE I' = cE I0 → Post (some (.int (loudR (cE I0) (wN (cE I0)) j (100 * x + 10 * y) k i))) S1 I' L) → X mW_loud G (8, 0, 0) S1 I L 52 [.ref 0, .int (nI j), .int (nI x), .int (nI y), .int (nI i)] [] Post := by
          intro k
          induction k with
          | zero =>
            intro i I hi hi1 hsm hp
            obtain rfl : i = 10 := by omega
            refine x_iload dW_loud_52 rfl ?_
            refine x_bipush (v := 9) dW_loud_54 rfl ?_
            -- at 56: .if_icmp .gt 43
            refine x_icmp_gt (tgt := 99) dW_loud_56 (by decide) (fun _ => ?_) (fun h => absurd (show (9 : Int32) < 10 by decide) h)
            refine x_iconst (v := -1) dW_loud_99 rfl ?_
            -- at 100: .ireturn
            refine x_ireturn dW_loud_100 rfl rfl ?_
            exact hp I hsm.stay hsm.eqE
          | succ k ih =>
            intro i I hi hi1 hsm hp
            rw [loudR] at hp
            refine x_iload dW_loud_52 rfl ?_
            refine x_bipush (v := 9) dW_loud_54 rfl ?_
            -- at 56: .if_icmp .gt 43
            refine x_icmp_gt (tgt := 99) dW_loud_56 (by decide) (fun h => absurd h (Int32.not_lt.mpr (nI_le (b := 9) (by omega) (by omega)))) (fun _ => ?_)
            refine x_aload_n dW_loud_59 rfl ?_
            refine x_getR fl_W_56 rfl dW_loud_60 rfl rfl rfl ?_
            refine x_iload_n dW_loud_63 rfl ?_
            refine x_bipush (v := 100) dW_loud_64 rfl ?_
            refine x_iload_n dW_loud_66 rfl ?_
            refine x_imul dW_loud_67 ?_
            refine x_bipush (v := 10) dW_loud_68 rfl ?_
            refine x_iload_n dW_loud_70 rfl ?_
            refine x_imul dW_loud_71 ?_
            refine x_iadd dW_loud_72 ?_
            refine x_iload dW_loud_73 rfl ?_
            refine x_iadd dW_loud_75 ?_
            -- at 76: .invokevirtual 244
            have e : (100 : Int32) * nI x + 10 * nI y + nI i = nI (100 * x + 10 * y + i) := by
              rw [show (100 : Int32) = nI 100 from rfl, show (10 : Int32) = nI 10 from rfl, pk_mul, pk_mul, nI_add, nI_add]
            rw [e]
            have hh : isHowP (nI (100 * x + 10 * y + i)) := how_mk (by omega) (by omega) hi1 (by omega)
            refine x_callV_2 cE_sayMore ok_Ledger_sayMore ml_W_244 dW_loud_76 rfl rfl rfl rfl rfl ?_
            refine ⟨_, j, _, I0, rfl, rfl, hok, l2, hj, hh, hsm, fun I1 hs1 hv1 ho1 => ?_⟩
            refine x_aload_n dW_loud_79 rfl ?_
            refine x_getR fl_W_56 rfl dW_loud_80 rfl rfl rfl ?_
            refine x_iload_n dW_loud_83 rfl ?_
            -- at 84: .invokevirtual 248
            refine x_callV_1 cE_keeps1 ok_Ledger_keeps ml_W_248 dW_loud_84 rfl rfl rfl rfl rfl ?_
            refine ⟨_, j, _, I0, rfl, rfl, hok, hj, hs1, hv1, ho1, fun b1 => ?_, fun b1 => ?_⟩
            · refine x_if_eq (tgt := 93) dW_loud_87 (by decide) (fun h => absurd h (by decide)) (fun _ => ?_)
              rw [if_pos b1] at hp
              refine x_iload dW_loud_90 rfl ?_
              -- at 92: .ireturn
              refine x_ireturn dW_loud_92 rfl rfl ?_
              exact hp I1 hs1.stay hs1.eqE
            · refine x_if_eq (tgt := 93) dW_loud_87 (by decide) (fun _ => ?_) (fun h => absurd (by decide) h)
              rw [if_neg b1] at hp
              refine x_iincp_4 dW_loud_93 rfl rfl ?_
              refine x_goto (tgt := 52) dW_loud_96 (by decide) ?_
              -- at 52: .iload 4
              rw [nI_1]
              exact ih (i + 1) I1 (by omega) (by omega) hs1 hp
        exact loop 9 1 I' (by omega) (by omega) (SM.of hF hl hrk) h1
      · refine x_if_ne (tgt := 35) dW_loud_29 (by decide) (fun h => absurd (by decide) h) (fun _ => ?_)
        exact bad (Or.inr a3)
    · refine x_if_eq (tgt := 32) dW_loud_20 (by decide) (fun _ => ?_) (fun h => absurd (by decide) h)
      exact bad (Or.inl a2)
  · have a1 : ¬ inR q 0 (cE I0 29 2 - 1) := a1
    refine x_if_ne (tgt := 14) dW_loud_8 (by decide) (fun h => absurd (by decide) h) (fun _ => ?_)
    rw [loudS, if_pos a1] at h1
    refine x_bipush (v := -5) dW_loud_11 rfl ?_
    -- at 13: .ireturn
    refine x_ireturn dW_loud_13 rfl rfl ?_
    exact h1 I0 (fun _ _ => rfl) rfl
