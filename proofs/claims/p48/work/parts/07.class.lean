section
-- 38.w6
/-! the class's calls: best, foe, loud, spare -/
def bestF (E : IM) (t q : Nat) (k : Nat) : Int32 × Int32 := match k with
  | 0 => (-1, -1)
  | n + 1 => if ¬ isHowP (nI n) then bestF E t q n else if keep1 E t q (nI n) = false then bestF E t q n else
    if (bestF E t q n).2 = -1 ∨ pain1 E t q (nI n) < (bestF E t q n).1 then (pain1 E t q (nI n), nI n) else bestF E t q n
def bestS (E : IM) (q w : Int32) : Int32 := if ¬ inR q 0 (E 29 2 - 1) then -5 else if ¬ inR w 0 1 then -7 else if w = 0 then (bestF E (wN E) (cl q) 600).2 else (bestF E (wN E) (cl q) 600).1
def sp_W_best : SpT := fun as S I L Post => ∃ q w : Int32, cSp [.int q, .int w] (fun E => .int (bestS E q w)) (fun E => E) as S I L Post
set_option maxHeartbeats 4000000 in
set_option maxRecDepth 100000 in
theorem c_W_best : Con mW_best 8 0 0 sp_W_best := by
  refine con_of_X rfl fun G as S I0 L Post hs => ?_
  obtain ⟨q, w, rfl, rfl, hok, h1⟩ := hs
  dsimp only at h1
  refine ⟨4, Nat.le_of_ble_eq_true rfl, ?_⟩
  show X mW_best G _ S1 I0 L 0 [.ref 0, .int q, .int w, .null, .null, .null, .null] [] Post
  obtain ⟨v1, v2, -⟩ := hok.vow
  obtain ⟨l1, l2⟩ := hok.law
  refine x_aload_n dW_best_0 rfl ?_
  refine x_getR fl_W_26 rfl dW_best_1 rfl rfl rfl ?_
  refine x_iload_n dW_best_4 rfl ?_
  -- at 5: .invokevirtual 174
  refine x_callV_1 c_Vows_has ok_Vows_has ml_W_174 dW_best_5 rfl rfl rfl rfl rfl ?_
  refine ⟨_, rfl, rfl, fun a1 => ?_, fun a1 => ?_⟩
  · have a1 : inR q 0 (cE I0 29 2 - 1) := a1
    refine x_if_ne (tgt := 14) dW_best_8 (by decide) (fun _ => ?_) (fun h => absurd h (by decide))
    rw [bestS, if_neg (not_not_intro a1)] at h1
    rw [show cE I0 29 2 = nI (qN (cE I0)) from v1] at a1
    obtain ⟨j, hj, rfl⟩ := has_nat (by omega) a1
    rw [cl_nI (by omega)] at h1
    refine x_iload_n dW_best_14 rfl ?_
    refine x_iconst (v := 0) dW_best_15 rfl ?_
    refine x_iconst (v := 1) dW_best_16 rfl ?_
    -- at 17: .invokestatic 101
    refine x_callS_3 c_W_within ok_W_within ml_W_101 dW_best_17 rfl rfl ?_
    refine ⟨_, _, _, rfl, fun a2 => ?_, fun a2 => ?_⟩
    · have a2 : inR w 0 1 := a2
      refine x_if_ne (tgt := 26) dW_best_20 (by decide) (fun _ => ?_) (fun h => absurd h (by decide))
      rw [if_neg (not_not_intro a2)] at h1
      refine x_aload_n dW_best_26 rfl ?_
      refine x_getR fl_W_56 rfl dW_best_27 rfl rfl rfl ?_
      refine x_aload_n dW_best_30 rfl ?_
      refine x_getR fl_W_47 rfl dW_best_31 rfl rfl rfl ?_
      refine x_getI fl_W_127 rfl dW_best_34 rfl rfl ?_
      -- at 37: .invokevirtual 213
      rw [l1]
      refine x_callV_1 cE_reckon ok_Ledger_reckon ml_W_213 dW_best_37 rfl rfl rfl rfl rfl ?_
      refine ⟨_, rfl, rfl, hok, l2, fun I' hF hl hrk _ => ?_⟩
      refine x_iconst (v := -1) dW_best_40 rfl ?_
      refine x_istoren_3 dW_best_41 rfl rfl ?_
      refine x_iconst (v := -1) dW_best_42 rfl ?_
      refine x_istore_4 dW_best_43 rfl rfl ?_
      refine x_iconst (v := 0) dW_best_45 rfl ?_
      refine x_istore_5 dW_best_46 rfl rfl ?_
      -- at 48: .iload 5
      have loop : ∀ (k i : Nat) (I : IM) (a6 : Value), i + k = 600 → SM (wN (cE I0)) I0 I → X mW_best G (8, 0, 0) S1 I L 48 [.ref 0, .int (nI j), .int w, .int (bestF (cE I0) (wN (cE I0)) j i).1, .int (bestF (cE I0) (wN (cE I0)) j i).2, .int (nI i), a6] [] Post := by
        intro k
        induction k with
        | zero =>
          intro i I a6 hi hsm
          obtain rfl : i = 600 := by omega
          refine x_iload dW_best_48 rfl ?_
          refine x_sipush (v := 600) dW_best_50 rfl ?_
          -- at 53: .if_icmp .ge 72
          refine x_icmp_ge (tgt := 125) dW_best_53 (by decide) (fun _ => ?_) (fun h => absurd (show nI 600 ≤ nI 600 from Int32.le_refl _) h)
          refine x_iload_n dW_best_125 rfl ?_
          -- at 126: .ifCond .ne 8
          have h2 := h1 I hsm.stay hsm.eqE
          refine x_if_ne (tgt := 134) dW_best_126 (by decide) (fun c1 => ?_) (fun c1 => ?_)
          · rw [if_neg c1] at h2
            refine x_iload_n dW_best_134 rfl ?_
            -- at 135: .ireturn
            refine x_ireturn dW_best_135 rfl rfl ?_
            exact h2
          · rw [if_pos c1] at h2
            refine x_iload dW_best_129 rfl ?_
            refine x_goto (tgt := 135) dW_best_131 (by decide) ?_
            -- at 135: .ireturn
            refine x_ireturn dW_best_135 rfl rfl ?_
            exact h2
        | succ k ih =>
          intro i I a6 hi hsm
          refine x_iload dW_best_48 rfl ?_
          refine x_sipush (v := 600) dW_best_50 rfl ?_
          -- at 53: .if_icmp .ge 72
          refine x_icmp_ge (tgt := 125) dW_best_53 (by decide) (fun h => absurd h (nI_ge (b := 600) (by omega) (by omega))) (fun _ => ?_)
          refine x_iload dW_best_56 rfl ?_
          -- at 58: .invokestatic 187
          refine x_callS_1 c_W_isHow ok_W_isHow ml_W_187 dW_best_58 rfl rfl ?_
          refine ⟨_, rfl, fun a3 => ?_, fun a3 => ?_⟩
          · have a3 : isHowP (nI i) := a3
            refine x_if_ne (tgt := 67) dW_best_61 (by decide) (fun _ => ?_) (fun h => absurd h (by decide))
            refine x_aload_n dW_best_67 rfl ?_
            refine x_getR fl_W_56 rfl dW_best_68 rfl rfl rfl ?_
            refine x_iload_n dW_best_71 rfl ?_
            refine x_iload dW_best_72 rfl ?_
            -- at 74: .invokevirtual 244
            refine x_callV_2 cE_sayMore ok_Ledger_sayMore ml_W_244 dW_best_74 rfl rfl rfl rfl rfl ?_
            refine ⟨_, j, nI i, I0, rfl, rfl, hok, l2, hj, a3, hsm, fun I1 hs1 hv1 ho1 => ?_⟩
            refine x_aload_n dW_best_77 rfl ?_
            refine x_getR fl_W_56 rfl dW_best_78 rfl rfl rfl ?_
            refine x_iload_n dW_best_81 rfl ?_
            -- at 82: .invokevirtual 248
            refine x_callV_1 cE_keeps1 ok_Ledger_keeps ml_W_248 dW_best_82 rfl rfl rfl rfl rfl ?_
            refine ⟨_, j, nI i, I0, rfl, rfl, hok, hj, hs1, hv1, ho1, fun b1 => ?_, fun b1 => ?_⟩
            · refine x_if_ne (tgt := 91) dW_best_85 (by decide) (fun _ => ?_) (fun h => absurd h (by decide))
              refine x_aload_n dW_best_91 rfl ?_
              refine x_getR fl_W_56 rfl dW_best_92 rfl rfl rfl ?_
              -- at 95: .invokevirtual 251
              refine x_callV_0 cE_pain1 ok_Ledger_painOfAll ml_W_251 dW_best_95 rfl rfl rfl rfl rfl ?_
              refine ⟨_, j, nI i, I0, rfl, rfl, hok, l2, hs1, hv1, ho1, fun I2 hs2 => ?_⟩
              refine x_istore_6 dW_best_98 rfl rfl ?_
              refine x_iload dW_best_100 rfl ?_
              refine x_iconst (v := -1) dW_best_102 rfl ?_
              -- at 103: .if_icmp .eq 9
              have b2 : ¬ keep1 (cE I0) (wN (cE I0)) j (nI i) = false := fun z => by rw [z] at b1; cases b1
              have set : (bestF (cE I0) (wN (cE I0)) j i).2 = -1 ∨ pain1 (cE I0) (wN (cE I0)) j (nI i) < (bestF (cE I0) (wN (cE I0)) j i).1 → bestF (cE I0) (wN (cE I0)) j (i + 1) = (pain1 (cE I0) (wN (cE I0)) j (nI i), nI i) := fun z => by
                rw [bestF, if_neg (not_not_intro a3), if_neg b2, if_pos z]
              refine x_icmp_eq (tgt := 112) dW_best_103 (by decide) (fun c1 => ?_) (fun c1 => ?_)
              · have e := set (Or.inl c1)
                refine x_iload dW_best_112 rfl ?_
                refine x_istore_4 dW_best_114 rfl rfl ?_
                refine x_iload dW_best_116 rfl ?_
                refine x_istoren_3 dW_best_118 rfl rfl ?_
                refine x_iincp_5 dW_best_119 rfl rfl ?_
                refine x_goto (tgt := 48) dW_best_122 (by decide) ?_
                -- at 48: .iload 5
                rw [nI_1]
                have h3 := ih (i + 1) I2 (.int (pain1 (cE I0) (wN (cE I0)) j (nI i))) (by omega) hs2
                rw [e] at h3
                exact h3
              · refine x_iload dW_best_106 rfl ?_
                refine x_iload_n dW_best_108 rfl ?_
                -- at 109: .if_icmp .ge 10
                refine x_icmp_ge (tgt := 119) dW_best_109 (by decide) (fun c2 => ?_) (fun c2 => ?_)
                · have e : bestF (cE I0) (wN (cE I0)) j (i + 1) = bestF (cE I0) (wN (cE I0)) j i := by
                    rw [bestF, if_neg (not_not_intro a3), if_neg b2, if_neg (fun z => z.elim c1 (fun y => absurd y (Int32.not_lt.mpr c2)))]
                  refine x_iincp_5 dW_best_119 rfl rfl ?_
                  refine x_goto (tgt := 48) dW_best_122 (by decide) ?_
                  -- at 48: .iload 5
                  rw [nI_1]
                  have h3 := ih (i + 1) I2 (.int (pain1 (cE I0) (wN (cE I0)) j (nI i))) (by omega) hs2
                  rw [e] at h3
                  exact h3
                · have e := set (Or.inr (Int32.not_le.mp c2))
                  refine x_iload dW_best_112 rfl ?_
                  refine x_istore_4 dW_best_114 rfl rfl ?_
                  refine x_iload dW_best_116 rfl ?_
                  refine x_istoren_3 dW_best_118 rfl rfl ?_
                  refine x_iincp_5 dW_best_119 rfl rfl ?_
                  refine x_goto (tgt := 48) dW_best_122 (by decide) ?_
                  -- at 48: .iload 5
                  rw [nI_1]
                  have h3 := ih (i + 1) I2 (.int (pain1 (cE I0) (wN (cE I0)) j (nI i))) (by omega) hs2
                  rw [e] at h3
                  exact h3
            · refine x_if_ne (tgt := 91) dW_best_85 (by decide) (fun h => absurd (by decide) h) (fun _ => ?_)
              have e : bestF (cE I0) (wN (cE I0)) j (i + 1) = bestF (cE I0) (wN (cE I0)) j i := by
                rw [bestF, if_neg (not_not_intro a3), if_pos (Bool.eq_false_iff.mpr b1)]
              refine x_goto (tgt := 119) dW_best_88 (by decide) ?_
              refine x_iincp_5 dW_best_119 rfl rfl ?_
              refine x_goto (tgt := 48) dW_best_122 (by decide) ?_
              -- at 48: .iload 5
              rw [nI_1]
              have h3 := ih (i + 1) I1 a6 (by omega) hs1
              rw [e] at h3
              exact h3
          · have a3 : ¬ isHowP (nI i) := a3
            refine x_if_ne (tgt := 67) dW_best_61 (by decide) (fun h => absurd (by decide) h) (fun _ => ?_)
            have e : bestF (cE I0) (wN (cE I0)) j (i + 1) = bestF (cE I0) (wN (cE I0)) j i := by
              rw [bestF, if_pos a3]
            refine x_goto (tgt := 119) dW_best_64 (by decide) ?_
            refine x_iincp_5 dW_best_119 rfl rfl ?_
            refine x_goto (tgt := 48) dW_best_122 (by decide) ?_
            -- at 48: .iload 5
            rw [nI_1]
            have h3 := ih (i + 1) I a6 (by omega) hsm
            rw [e] at h3
            exact h3
      exact loop 600 0 I' .null (by omega) (SM.of hF hl hrk)
    · have a2 : ¬ inR w 0 1 := a2
      refine x_if_ne (tgt := 26) dW_best_20 (by decide) (fun h => absurd (by decide) h) (fun _ => ?_)
      rw [if_pos a2] at h1
      refine x_bipush (v := -7) dW_best_23 rfl ?_
      -- at 25: .ireturn
      refine x_ireturn dW_best_25 rfl rfl ?_
      exact h1 I0 (fun _ _ => rfl) rfl
  · have a1 : ¬ inR q 0 (cE I0 29 2 - 1) := a1
    refine x_if_ne (tgt := 14) dW_best_8 (by decide) (fun h => absurd (by decide) h) (fun _ => ?_)
    rw [bestS, if_pos a1] at h1
    refine x_bipush (v := -5) dW_best_11 rfl ?_
    -- at 13: .ireturn
    refine x_ireturn dW_best_13 rfl rfl ?_
    exact h1 I0 (fun _ _ => rfl) rfl
def foeF (E : IM) (t p q : Nat) (k : Nat) : Int32 × Int32 := match k with
  | 0 => (-1, -1)
  | n + 1 => if ¬ isHowP (nI n) then foeF E t p q n else if T1 E t q (nI n) p ≤ (foeF E t p q n).1 then foeF E t p q n else (T1 E t q (nI n) p, nI n)
def foeS (E : IM) (p q w : Int32) : Int32 := if ¬ inR p 0 (E 29 1 - 1) ∨ ¬ inR q 0 (E 29 2 - 1) then -5 else if ¬ inR w 0 1 then -7 else if w = 0 then (foeF E (wN E) (cl p) (cl q) 600).2 else (foeF E (wN E) (cl p) (cl q) 600).1
def sp_W_foe : SpT := fun as S I L Post => ∃ p q w : Int32, cSp [.int p, .int q, .int w] (fun E => .int (foeS E p q w)) (fun E => E) as S I L Post
set_option maxHeartbeats 4000000 in
set_option maxRecDepth 100000 in
theorem c_W_foe : Con mW_foe 8 0 0 sp_W_foe := by
  refine con_of_X rfl fun G as S I0 L Post hs => ?_
  obtain ⟨p, q, w, rfl, rfl, hok, h1⟩ := hs
  dsimp only at h1
  refine ⟨3, Nat.le_of_ble_eq_true rfl, ?_⟩
  show X mW_foe G _ S1 I0 L 0 [.ref 0, .int p, .int q, .int w, .null, .null, .null] [] Post
  obtain ⟨v1, v2, -⟩ := hok.vow
  obtain ⟨c1, c2, -⟩ := hok.ppl
  obtain ⟨l1, l2⟩ := hok.law
  have bad : (¬ inR p 0 (cE I0 29 1 - 1) ∨ ¬ inR q 0 (cE I0 29 2 - 1)) → X mW_foe G (8, 0, 0) S1 I0 L 22 [.ref 0, .int p, .int q, .int w, .null, .null, .null] [] Post := by
    intro hc
    rw [foeS, if_pos hc] at h1
    refine x_bipush (v := -5) dW_foe_22 rfl ?_
    -- at 24: .ireturn
    refine x_ireturn dW_foe_24 rfl rfl ?_
    exact h1 I0 (fun _ _ => rfl) rfl
  refine x_aload_n dW_foe_0 rfl ?_
  refine x_getR fl_W_19 rfl dW_foe_1 rfl rfl rfl ?_
  refine x_iload_n dW_foe_4 rfl ?_
  -- at 5: .invokevirtual 143
  refine x_callV_1 c_Folk_has ok_Folk_has ml_W_143 dW_foe_5 rfl rfl rfl rfl rfl ?_
  refine ⟨_, rfl, rfl, fun a0 => ?_, fun a0 => ?_⟩
  · refine x_if_eq (tgt := 22) dW_foe_8 (by decide) (fun h => absurd h (by decide)) (fun _ => ?_)
    refine x_aload_n dW_foe_11 rfl ?_
    refine x_getR fl_W_26 rfl dW_foe_12 rfl rfl rfl ?_
    refine x_iload_n dW_foe_15 rfl ?_
    -- at 16: .invokevirtual 174
    refine x_callV_1 c_Vows_has ok_Vows_has ml_W_174 dW_foe_16 rfl rfl rfl rfl rfl ?_
    refine ⟨_, rfl, rfl, fun a1 => ?_, fun a1 => ?_⟩
    · have a0 : inR p 0 (cE I0 29 1 - 1) := a0
      have a1 : inR q 0 (cE I0 29 2 - 1) := a1
      refine x_if_ne (tgt := 25) dW_foe_19 (by decide) (fun _ => ?_) (fun h => absurd h (by decide))
      rw [foeS, if_neg (fun z => z.elim (fun y => y a0) (fun y => y a1))] at h1
      rw [show cE I0 29 1 = nI (pN (cE I0)) from c1] at a0
      rw [show cE I0 29 2 = nI (qN (cE I0)) from v1] at a1
      obtain ⟨x, hx, rfl⟩ := has_nat (by omega) a0
      obtain ⟨j, hj, rfl⟩ := has_nat (by omega) a1
      rw [cl_nI (by omega), cl_nI (by omega)] at h1
      refine x_iload_n dW_foe_25 rfl ?_
      refine x_iconst (v := 0) dW_foe_26 rfl ?_
      refine x_iconst (v := 1) dW_foe_27 rfl ?_
      -- at 28: .invokestatic 101
      refine x_callS_3 c_W_within ok_W_within ml_W_101 dW_foe_28 rfl rfl ?_
      refine ⟨_, _, _, rfl, fun a2 => ?_, fun a2 => ?_⟩
      · have a2 : inR w 0 1 := a2
        refine x_if_ne (tgt := 37) dW_foe_31 (by decide) (fun _ => ?_) (fun h => absurd h (by decide))
        rw [if_neg (not_not_intro a2)] at h1
        refine x_aload_n dW_foe_37 rfl ?_
        refine x_getR fl_W_56 rfl dW_foe_38 rfl rfl rfl ?_
        refine x_aload_n dW_foe_41 rfl ?_
        refine x_getR fl_W_47 rfl dW_foe_42 rfl rfl rfl ?_
        refine x_getI fl_W_127 rfl dW_foe_45 rfl rfl ?_
        -- at 48: .invokevirtual 213
        rw [l1]
        refine x_callV_1 cE_reckon ok_Ledger_reckon ml_W_213 dW_foe_48 rfl rfl rfl rfl rfl ?_
        refine ⟨_, rfl, rfl, hok, l2, fun I' hF hl hrk _ => ?_⟩
        refine x_iconst (v := -1) dW_foe_51 rfl ?_
        refine x_istore_4 dW_foe_52 rfl rfl ?_
        refine x_iconst (v := -1) dW_foe_54 rfl ?_
        refine x_istore_5 dW_foe_55 rfl rfl ?_
        refine x_iconst (v := 0) dW_foe_57 rfl ?_
        refine x_istore_6 dW_foe_58 rfl rfl ?_
        -- at 60: .iload 6
        have loop : ∀ (k i : Nat) (I : IM), i + k = 600 → SM (wN (cE I0)) I0 I → X mW_foe G (8, 0, 0) S1 I L 60 [.ref 0, .int (nI x), .int (nI j), .int w, .int (foeF (cE I0) (wN (cE I0)) x j i).1, .int (foeF (cE I0) (wN (cE I0)) x j i).2, .int (nI i)] [] Post := by
          intro k
          induction k with
          | zero =>
            intro i I hi hsm
            obtain rfl : i = 600 := by omega
            refine x_iload dW_foe_60 rfl ?_
            refine x_sipush (v := 600) dW_foe_62 rfl ?_
            -- at 65: .if_icmp .ge 59
            refine x_icmp_ge (tgt := 124) dW_foe_65 (by decide) (fun _ => ?_) (fun h => absurd (show nI 600 ≤ nI 600 from Int32.le_refl _) h)
            refine x_iload_n dW_foe_124 rfl ?_
            -- at 125: .ifCond .ne 8
            have h2 := h1 I hsm.stay hsm.eqE
            refine x_if_ne (tgt := 133) dW_foe_125 (by decide) (fun c1 => ?_) (fun c1 => ?_)
            · rw [if_neg c1] at h2
              refine x_iload dW_foe_133 rfl ?_
              -- at 135: .ireturn
              refine x_ireturn dW_foe_135 rfl rfl ?_
              exact h2
            · rw [if_pos c1] at h2
              refine x_iload dW_foe_128 rfl ?_
              refine x_goto (tgt := 135) dW_foe_130 (by decide) ?_
              -- at 135: .ireturn
              refine x_ireturn dW_foe_135 rfl rfl ?_
              exact h2
          | succ k ih =>
            intro i I hi hsm
            refine x_iload dW_foe_60 rfl ?_
            refine x_sipush (v := 600) dW_foe_62 rfl ?_
            -- at 65: .if_icmp .ge 59
            refine x_icmp_ge (tgt := 124) dW_foe_65 (by decide) (fun h => absurd h (nI_ge (b := 600) (by omega) (by omega))) (fun _ => ?_)
            refine x_iload dW_foe_68 rfl ?_
            -- at 70: .invokestatic 187
            refine x_callS_1 c_W_isHow ok_W_isHow ml_W_187 dW_foe_70 rfl rfl ?_
            refine ⟨_, rfl, fun a3 => ?_, fun a3 => ?_⟩
            · have a3 : isHowP (nI i) := a3
              refine x_if_ne (tgt := 79) dW_foe_73 (by decide) (fun _ => ?_) (fun h => absurd h (by decide))
              refine x_aload_n dW_foe_79 rfl ?_
              refine x_getR fl_W_56 rfl dW_foe_80 rfl rfl rfl ?_
              refine x_iload_n dW_foe_83 rfl ?_
              refine x_iload dW_foe_84 rfl ?_
              -- at 86: .invokevirtual 244
              refine x_callV_2 cE_sayMore ok_Ledger_sayMore ml_W_244 dW_foe_86 rfl rfl rfl rfl rfl ?_
              refine ⟨_, j, nI i, I0, rfl, rfl, hok, l2, hj, a3, hsm, fun I1 hs1 hv1 ho1 => ?_⟩
              have et : I1 40 x = T1 (cE I0) (wN (cE I0)) j (nI i) x := (ho1 x hx).2.2.2
              refine x_aload_n dW_foe_89 rfl ?_
              refine x_getR fl_W_56 rfl dW_foe_90 rfl rfl rfl ?_
              refine x_getR fl_W_219 rfl dW_foe_93 rfl rfl rfl ?_
              refine x_iload_n dW_foe_96 rfl ?_
              refine x_ialdJ (j := x) dW_foe_97 rfl rfl (by first | rfl | (simp only [← nI_add, ← pk_mul]; rfl)) (by omega) ?_
              refine x_iload dW_foe_98 rfl ?_
              -- at 100: .if_icmp .le 18
              rw [et]
              refine x_icmp_le (tgt := 118) dW_foe_100 (by decide) (fun c2 => ?_) (fun c2 => ?_)
              · have e : foeF (cE I0) (wN (cE I0)) x j (i + 1) = foeF (cE I0) (wN (cE I0)) x j i := by
                  rw [foeF, if_neg (not_not_intro a3), if_pos c2]
                refine x_iincp_6 dW_foe_118 rfl rfl ?_
                refine x_goto (tgt := 60) dW_foe_121 (by decide) ?_
                -- at 60: .iload 6
                rw [nI_1]
                have h3 := ih (i + 1) I1 (by omega) hs1
                rw [e] at h3
                exact h3
              · have e : foeF (cE I0) (wN (cE I0)) x j (i + 1) = (T1 (cE I0) (wN (cE I0)) j (nI i) x, nI i) := by
                  rw [foeF, if_neg (not_not_intro a3), if_neg c2]
                refine x_iload dW_foe_103 rfl ?_
                refine x_istore_5 dW_foe_105 rfl rfl ?_
                refine x_aload_n dW_foe_107 rfl ?_
                refine x_getR fl_W_56 rfl dW_foe_108 rfl rfl rfl ?_
                refine x_getR fl_W_219 rfl dW_foe_111 rfl rfl rfl ?_
                refine x_iload_n dW_foe_114 rfl ?_
                refine x_ialdJ (j := x) dW_foe_115 rfl rfl (by first | rfl | (simp only [← nI_add, ← pk_mul]; rfl)) (by omega) ?_
                refine x_istore_4 dW_foe_116 rfl rfl ?_
                refine x_iincp_6 dW_foe_118 rfl rfl ?_
                refine x_goto (tgt := 60) dW_foe_121 (by decide) ?_
                -- at 60: .iload 6
                rw [et, nI_1]
                have h3 := ih (i + 1) I1 (by omega) hs1
                rw [e] at h3
                exact h3
            · have a3 : ¬ isHowP (nI i) := a3
              refine x_if_ne (tgt := 79) dW_foe_73 (by decide) (fun h => absurd (by decide) h) (fun _ => ?_)
              have e : foeF (cE I0) (wN (cE I0)) x j (i + 1) = foeF (cE I0) (wN (cE I0)) x j i := by
                rw [foeF, if_pos a3]
              refine x_goto (tgt := 118) dW_foe_76 (by decide) ?_
              refine x_iincp_6 dW_foe_118 rfl rfl ?_
              refine x_goto (tgt := 60) dW_foe_121 (by decide) ?_
              -- at 60: .iload 6
              rw [nI_1]
              have h3 := ih (i + 1) I (by omega) hsm
              rw [e] at h3
              exact h3
        exact loop 600 0 I' (by omega) (SM.of hF hl hrk)
      · have a2 : ¬ inR w 0 1 := a2
        refine x_if_ne (tgt := 37) dW_foe_31 (by decide) (fun h => absurd (by decide) h) (fun _ => ?_)
        rw [if_pos a2] at h1
        refine x_bipush (v := -7) dW_foe_34 rfl ?_
        -- at 36: .ireturn
        refine x_ireturn dW_foe_36 rfl rfl ?_
        exact h1 I0 (fun _ _ => rfl) rfl
    · refine x_if_ne (tgt := 25) dW_foe_19 (by decide) (fun h => absurd (by decide) h) (fun _ => ?_)
      exact bad (Or.inr a1)
  · refine x_if_eq (tgt := 22) dW_foe_8 (by decide) (fun _ => ?_) (fun h => absurd (by decide) h)
    exact bad (Or.inl a0)
theorem how_mk {u v k : Nat} (hu : u < 6) (hv : v < 6) (hk : 1 ≤ k) (hk2 : k < 10) : isHowP (nI (100 * u + 10 * v + k)) := by
  have e2 : nI (100 * u + 10 * v + k) / 10 = nI ((100 * u + 10 * v + k) / 10) := pk_div (d := 10) (by omega) (by omega) (by omega)
  have e3 : rem (nI (100 * u + 10 * v + k) / 10) 10 = nI ((100 * u + 10 * v + k) / 10 % 10) := by
    rw [e2]
    exact pk_rem (d := 10) (by omega) (by omega) (by omega)
  have e4 : rem (nI (100 * u + 10 * v + k)) 10 = nI ((100 * u + 10 * v + k) % 10) := pk_rem (d := 10) (by omega) (by omega) (by omega)
  refine ⟨⟨(nI_leI (a := 0) (by omega) (by omega)).mpr (by omega), (nI_leI (b := 599) (by omega) (by omega)).mpr (by omega)⟩, ?_, ?_⟩
  · rw [e3]
    exact (nI_ltI (b := 6) (by omega) (by omega)).mpr (by omega)
  · rw [e4]
    exact (nI_ltI (a := 0) (by omega) (by omega)).mpr (by omega)
def loudR (E : IM) (t q b : Nat) (k n : Nat) : Int32 := match k with
  | 0 => -1
  | j + 1 => if keep1 E t q (nI (b + n)) = true then nI n else loudR E t q b j (n + 1)
def loudS (E : IM) (q u v : Int32) : Int32 := if ¬ inR q 0 (E 29 2 - 1) then -5 else if ¬ inR u 0 5 ∨ ¬ inR v 0 5 then -7 else loudR E (wN E) (cl q) (100 * cl u + 10 * cl v) 9 1
def sp_W_loud : SpT := fun as S I L Post => ∃ q u v : Int32, cSp [.int q, .int u, .int v] (fun E => .int (loudS E q u v)) (fun E => E) as S I L Post
set_option maxHeartbeats 4000000 in
set_option maxRecDepth 100000 in
theorem c_W_loud : Con mW_loud 8 0 0 sp_W_loud := by
  refine con_of_X rfl fun G as S I0 L Post hs => ?_
  obtain ⟨q, u, v, rfl, rfl, hok, h1⟩ := hs
  dsimp only at h1
  refine ⟨1, Nat.le_of_ble_eq_true rfl, ?_⟩
  show X mW_loud G _ S1 I0 L 0 [.ref 0, .int q, .int u, .int v, .null] [] Post
  obtain ⟨v1, v2, -⟩ := hok.vow
  obtain ⟨l1, l2⟩ := hok.law
  refine x_aload_n dW_loud_0 rfl ?_
  refine x_getR fl_W_26 rfl dW_loud_1 rfl rfl rfl ?_
  refine x_iload_n dW_loud_4 rfl ?_
  -- at 5: .invokevirtual 174
  refine x_callV_1 c_Vows_has ok_Vows_has ml_W_174 dW_loud_5 rfl rfl rfl rfl rfl ?_
  refine ⟨_, rfl, rfl, fun a1 => ?_, fun a1 => ?_⟩
  · have a1 : inR q 0 (cE I0 29 2 - 1) := a1
    refine x_if_ne (tgt := 14) dW_loud_8 (by decide) (fun _ => ?_) (fun h => absurd h (by decide))
    rw [loudS, if_neg (not_not_intro a1)] at h1
    rw [show cE I0 29 2 = nI (qN (cE I0)) from v1] at a1
    obtain ⟨j, hj, rfl⟩ := has_nat (by omega) a1
    rw [cl_nI (by omega)] at h1
    have bad : (¬ inR u 0 5 ∨ ¬ inR v 0 5) → X mW_loud G (8, 0, 0) S1 I0 L 32 [.ref 0, .int (nI j), .int u, .int v, .null] [] Post := by
      intro hc
      rw [if_pos hc] at h1
      refine x_bipush (v := -7) dW_loud_32 rfl ?_
      -- at 34: .ireturn
      refine x_ireturn dW_loud_34 rfl rfl ?_
      exact h1 I0 (fun _ _ => rfl) rfl
    refine x_iload_n dW_loud_14 rfl ?_
    refine x_iconst (v := 0) dW_loud_15 rfl ?_
    refine x_iconst (v := 5) dW_loud_16 rfl ?_
    -- at 17: .invokestatic 101
    refine x_callS_3 c_W_within ok_W_within ml_W_101 dW_loud_17 rfl rfl ?_
    refine ⟨_, _, _, rfl, fun a2 => ?_, fun a2 => ?_⟩
    · refine x_if_eq (tgt := 32) dW_loud_20 (by decide) (fun h => absurd h (by decide)) (fun _ => ?_)
      refine x_iload_n dW_loud_23 rfl ?_
      refine x_iconst (v := 0) dW_loud_24 rfl ?_
      refine x_iconst (v := 5) dW_loud_25 rfl ?_
      -- at 26: .invokestatic 101
      refine x_callS_3 c_W_within ok_W_within ml_W_101 dW_loud_26 rfl rfl ?_
      refine ⟨_, _, _, rfl, fun a3 => ?_, fun a3 => ?_⟩
      · have a2 : inR u 0 5 := a2
        have a3 : inR v 0 5 := a3
        refine x_if_ne (tgt := 35) dW_loud_29 (by decide) (fun _ => ?_) (fun h => absurd h (by decide))
        rw [if_neg (fun z => z.elim (fun y => y a2) (fun y => y a3))] at h1
        obtain ⟨x, hx, rfl⟩ := inR_of (n := 5) (by decide) a2
        obtain ⟨y, hy, rfl⟩ := inR_of (n := 5) (by decide) a3
        rw [cl_nI (by omega), cl_nI (by omega)] at h1
        refine x_aload_n dW_loud_35 rfl ?_
        refine x_getR fl_W_56 rfl dW_loud_36 rfl rfl rfl ?_
        refine x_aload_n dW_loud_39 rfl ?_
        refine x_getR fl_W_47 rfl dW_loud_40 rfl rfl rfl ?_
        refine x_getI fl_W_127 rfl dW_loud_43 rfl rfl ?_
        -- at 46: .invokevirtual 213
        rw [l1]
        refine x_callV_1 cE_reckon ok_Ledger_reckon ml_W_213 dW_loud_46 rfl rfl rfl rfl rfl ?_
        refine ⟨_, rfl, rfl, hok, l2, fun I' hF hl hrk _ => ?_⟩
        refine x_iconst (v := 1) dW_loud_49 rfl ?_
        refine x_istore_4 dW_loud_50 rfl rfl ?_
        -- at 52: .iload 4
        have loop : ∀ (k i : Nat) (I : IM), i + k = 10 → 1 ≤ i → SM (wN (cE I0)) I0 I → (∀ I', (∀ k, 59 ≤ k → I' k = I0 k) → cE I' = cE I0 → Post (some (.int (loudR (cE I0) (wN (cE I0)) j (100 * x + 10 * y) k i))) S1 I' L) → X mW_loud G (8, 0, 0) S1 I L 52 [.ref 0, .int (nI j), .int (nI x), .int (nI y), .int (nI i)] [] Post := by
          intro k
          induction k with
          | zero =>
            intro i I hi hi1 hsm hp
            obtain rfl : i = 10 := by omega
            refine x_iload dW_loud_52 rfl ?_
            refine x_bipush (v := 9) dW_loud_54 rfl ?_
            -- at 56: .if_icmp .gt 43
            refine x_icmp_gt (tgt := 99) dW_loud_56 (by decide) (fun _ => ?_) (fun h => absurd (show (9 : Int32) < 10 by decide) h)
            refine x_iconst (v := -1) dW_loud_99 rfl ?_
            -- at 100: .ireturn
            refine x_ireturn dW_loud_100 rfl rfl ?_
            exact hp I hsm.stay hsm.eqE
          | succ k ih =>
            intro i I hi hi1 hsm hp
            rw [loudR] at hp
            refine x_iload dW_loud_52 rfl ?_
            refine x_bipush (v := 9) dW_loud_54 rfl ?_
            -- at 56: .if_icmp .gt 43
            refine x_icmp_gt (tgt := 99) dW_loud_56 (by decide) (fun h => absurd h (Int32.not_lt.mpr (nI_le (b := 9) (by omega) (by omega)))) (fun _ => ?_)
            refine x_aload_n dW_loud_59 rfl ?_
            refine x_getR fl_W_56 rfl dW_loud_60 rfl rfl rfl ?_
            refine x_iload_n dW_loud_63 rfl ?_
            refine x_bipush (v := 100) dW_loud_64 rfl ?_
            refine x_iload_n dW_loud_66 rfl ?_
            refine x_imul dW_loud_67 ?_
            refine x_bipush (v := 10) dW_loud_68 rfl ?_
            refine x_iload_n dW_loud_70 rfl ?_
            refine x_imul dW_loud_71 ?_
            refine x_iadd dW_loud_72 ?_
            refine x_iload dW_loud_73 rfl ?_
            refine x_iadd dW_loud_75 ?_
            -- at 76: .invokevirtual 244
            have e : (100 : Int32) * nI x + 10 * nI y + nI i = nI (100 * x + 10 * y + i) := by
              rw [show (100 : Int32) = nI 100 from rfl, show (10 : Int32) = nI 10 from rfl, pk_mul, pk_mul, nI_add, nI_add]
            rw [e]
            have hh : isHowP (nI (100 * x + 10 * y + i)) := how_mk (by omega) (by omega) hi1 (by omega)
            refine x_callV_2 cE_sayMore ok_Ledger_sayMore ml_W_244 dW_loud_76 rfl rfl rfl rfl rfl ?_
            refine ⟨_, j, _, I0, rfl, rfl, hok, l2, hj, hh, hsm, fun I1 hs1 hv1 ho1 => ?_⟩
            refine x_aload_n dW_loud_79 rfl ?_
            refine x_getR fl_W_56 rfl dW_loud_80 rfl rfl rfl ?_
            refine x_iload_n dW_loud_83 rfl ?_
            -- at 84: .invokevirtual 248
            refine x_callV_1 cE_keeps1 ok_Ledger_keeps ml_W_248 dW_loud_84 rfl rfl rfl rfl rfl ?_
            refine ⟨_, j, _, I0, rfl, rfl, hok, hj, hs1, hv1, ho1, fun b1 => ?_, fun b1 => ?_⟩
            · refine x_if_eq (tgt := 93) dW_loud_87 (by decide) (fun h => absurd h (by decide)) (fun _ => ?_)
              rw [if_pos b1] at hp
              refine x_iload dW_loud_90 rfl ?_
              -- at 92: .ireturn
              refine x_ireturn dW_loud_92 rfl rfl ?_
              exact hp I1 hs1.stay hs1.eqE
            · refine x_if_eq (tgt := 93) dW_loud_87 (by decide) (fun _ => ?_) (fun h => absurd (by decide) h)
              rw [if_neg b1] at hp
              refine x_iincp_4 dW_loud_93 rfl rfl ?_
              refine x_goto (tgt := 52) dW_loud_96 (by decide) ?_
              -- at 52: .iload 4
              rw [nI_1]
              exact ih (i + 1) I1 (by omega) (by omega) hs1 hp
        exact loop 9 1 I' (by omega) (by omega) (SM.of hF hl hrk) h1
      · refine x_if_ne (tgt := 35) dW_loud_29 (by decide) (fun h => absurd (by decide) h) (fun _ => ?_)
        exact bad (Or.inr a3)
    · refine x_if_eq (tgt := 32) dW_loud_20 (by decide) (fun _ => ?_) (fun h => absurd (by decide) h)
      exact bad (Or.inl a2)
  · have a1 : ¬ inR q 0 (cE I0 29 2 - 1) := a1
    refine x_if_ne (tgt := 14) dW_loud_8 (by decide) (fun h => absurd (by decide) h) (fun _ => ?_)
    rw [loudS, if_pos a1] at h1
    refine x_bipush (v := -5) dW_loud_11 rfl ?_
    -- at 13: .ireturn
    refine x_ireturn dW_loud_13 rfl rfl ?_
    exact h1 I0 (fun _ _ => rfl) rfl
end
section
-- 39.w7
/-! the class's calls: spare -/
def RW (E : IM) (t : Nat) (w : Int32) : Nat → Nat → Int32 := RE E (prog E t) (CE E t) w (sN E)
def keptA (E : IM) : Int32 := keptV E (pN E) (qN E) (RT E (wN E))
def keptW (E : IM) (s : Nat) : Int32 := keptV E (pN E) (qN E) (RW E (wN E) (nI s))
def spareB (E : IM) (s : Nat) : Bool := decide (keptA E &&& (keptW E s ^^^ (-1)) = 0)
def spareS (E : IM) : Int32 := bs (sN E) (spareB E)
def sp_W_spare : SpT := cSp [] (fun E => .int (spareS E)) (fun E => E)
set_option maxHeartbeats 4000000 in
set_option maxRecDepth 100000 in
theorem c_W_spare : Con mW_spare 8 0 0 sp_W_spare := by
  refine con_of_X rfl fun G as S I0 L Post hs => ?_
  obtain ⟨rfl, rfl, hok, h1⟩ := hs
  dsimp only at h1
  refine ⟨3, Nat.le_of_ble_eq_true rfl, ?_⟩
  show X mW_spare G _ S1 I0 L 0 [.ref 0, .null, .null, .null] [] Post
  obtain ⟨v1, v2, -⟩ := hok.vow
  obtain ⟨c1, c2, -⟩ := hok.ppl
  obtain ⟨b1, b2, b3⟩ := hok.say
  obtain ⟨l1, l2⟩ := hok.law
  refine x_aload_n dW_spare_0 rfl ?_
  refine x_getR fl_W_56 rfl dW_spare_1 rfl rfl rfl ?_
  refine x_aload_n dW_spare_4 rfl ?_
  refine x_getR fl_W_47 rfl dW_spare_5 rfl rfl rfl ?_
  refine x_getI fl_W_127 rfl dW_spare_8 rfl rfl ?_
  -- at 11: .invokevirtual 213
  rw [l1]
  refine x_callV_1 cE_reckon ok_Ledger_reckon ml_W_213 dW_spare_11 rfl rfl rfl rfl rfl ?_
  refine ⟨_, rfl, rfl, hok, l2, fun I1 hF1 hl hrk ho1 => ?_⟩
  have hcv : cV I1 = cV I0 := cV_k hF1
  refine x_aload_n dW_spare_14 rfl ?_
  refine x_getR fl_W_56 rfl dW_spare_15 rfl rfl rfl ?_
  -- at 18: .invokevirtual 254
  refine x_callV_0 c_Ledger_keptBits ok_Ledger_keptBits ml_W_254 dW_spare_18 rfl rfl rfl rfl rfl ?_
  refine ⟨_, qN (cE I0), _, rfl, rfl, ho1.rows hok hF1, by rw [hF1 13 (by decide)]; exact v1, v2, ?_⟩
  have ek : keptV (cV I1) (pN (cE I0)) (qN (cE I0)) (RT (cE I0) (wN (cE I0))) = keptA (cE I0) := by
    rw [hcv]
    exact kept_eq (cVE I0) _ _ v2 (fun _ _ _ _ => rfl)
  rw [ek]
  refine x_istoren_1 dW_spare_21 rfl rfl ?_
  refine x_iconst (v := 0) dW_spare_22 rfl ?_
  refine x_istoren_2 dW_spare_23 rfl rfl ?_
  refine x_iconst (v := 0) dW_spare_24 rfl ?_
  refine x_istoren_3 dW_spare_25 rfl rfl ?_
  -- at 26: .iload_n 3
  have loop : ∀ (k i : Nat) (I : IM) (acc : Int32), i + k = sN (cE I0) → Fr sScr I1 I → acc = bs i (spareB (cE I0)) → X mW_spare G (8, 0, 0) S1 I L 26 [.ref 0, .int (keptA (cE I0)), .int acc, .int (nI i)] [] Post := by
    intro k
    induction k with
    | zero =>
      intro i I acc hi hF ha
      have hF0 : Fr kScr I0 I := hF1.tr (hF.wk (by decide))
      obtain rfl : i = sN (cE I0) := by omega
      refine x_iload_n dW_spare_26 rfl ?_
      refine x_aload_n dW_spare_27 rfl ?_
      refine x_getR fl_W_33 rfl dW_spare_28 rfl rfl rfl ?_
      refine x_getI fl_W_125 rfl dW_spare_31 rfl rfl ?_
      -- at 34: .if_icmp .ge 44
      rw [hF0 18 (by decide), b1]
      refine x_icmp_ge (tgt := 78) dW_spare_34 (by decide) (fun _ => ?_) (fun h => absurd (Int32.le_refl _) h)
      refine x_iload_n dW_spare_78 rfl ?_
      -- at 79: .ireturn
      refine x_ireturn dW_spare_79 rfl rfl ?_
      rw [ha]
      exact h1 I (kstay hF0) (cE_k hF0)
    | succ k ih =>
      intro i I acc hi hF ha
      have hF0 : Fr kScr I0 I := hF1.tr (hF.wk (by decide))
      have hv0 : cV I = cV I0 := cV_k hF0
      have b1' : I 18 4 = nI (sN (cE I0)) := by rw [hF0 18 (by decide)]; exact b1
      refine x_iload_n dW_spare_26 rfl ?_
      refine x_aload_n dW_spare_27 rfl ?_
      refine x_getR fl_W_33 rfl dW_spare_28 rfl rfl rfl ?_
      refine x_getI fl_W_125 rfl dW_spare_31 rfl rfl ?_
      -- at 34: .if_icmp .ge 44
      rw [b1']
      refine x_icmp_ge (tgt := 78) dW_spare_34 (by decide) (fun h => absurd h (nI_ge (b := sN (cE I0)) (by omega) (by omega))) (fun _ => ?_)
      refine x_aload_n dW_spare_37 rfl ?_
      refine x_getR fl_W_56 rfl dW_spare_38 rfl rfl rfl ?_
      refine x_aload_n dW_spare_41 rfl ?_
      refine x_getR fl_W_33 rfl dW_spare_42 rfl rfl rfl ?_
      refine x_getI fl_W_125 rfl dW_spare_45 rfl rfl ?_
      refine x_iload_n dW_spare_48 rfl ?_
      -- at 49: .invokevirtual 257
      rw [b1']
      refine x_callV_2 c_Ledger_settle ok_Ledger_settle ml_W_257 dW_spare_49 rfl rfl rfl rfl rfl ?_
      refine ⟨sN (cE I0), pN (cE I0), qN (cE I0), nI i, DD (cV I0) (prog (cE I0) (wN (cE I0))) (CC (cV I0) (prog (cE I0) (wN (cE I0))) (pN (cE I0))), rfl, rfl, by rw [hF0 4 (by decide)]; exact c1, c2, by omega, fun s hs => ?_, (hok.vow).fr (hF0 _ (by decide)) (hF0 _ (by decide)), fun p hp s hs => ?_, fun I2 hF2 ho2 => ?_⟩
      · rw [hF0 19 (by decide)]
        exact (b3 s hs).1
      · rw [hF 38 (by decide)]
        exact hrk.2 s hs p hp
      · have hF3 : Fr sScr I1 I2 := hF.tr hF2
        have hF4 : Fr kScr I0 I2 := hF1.tr (hF3.wk (by decide))
        rw [hv0] at ho2
        have ho3 : OwesN (cE I0) (DD (cE I0) (prog (cE I0) (wN (cE I0))) (CE (cE I0) (wN (cE I0)))) (pN (cE I0)) (qN (cE I0)) (nI i) (sN (cE I0)) I2 :=
          owes_eq (cVE I0) (Nat.le_refl _) (fun p hp s hs => by unfold DD; rw [share_eq (cVE I0) _ hs, CC_eq (cVE I0) _ hs]; rfl) ho2
        refine x_iload_n dW_spare_52 rfl ?_
        refine x_aload_n dW_spare_53 rfl ?_
        refine x_getR fl_W_56 rfl dW_spare_54 rfl rfl rfl ?_
        -- at 57: .invokevirtual 254
        refine x_callV_0 c_Ledger_keptBits ok_Ledger_keptBits ml_W_254 dW_spare_57 rfl rfl rfl rfl rfl ?_
        refine ⟨pN (cE I0), qN (cE I0), RW (cE I0) (wN (cE I0)) (nI i), rfl, rfl, ⟨by rw [hF4 4 (by decide)]; exact c1, c2, fun p hp => (ho3 p hp).1⟩, by rw [hF4 13 (by decide)]; exact v1, v2, ?_⟩
        have ek2 : keptV (cV I2) (pN (cE I0)) (qN (cE I0)) (RW (cE I0) (wN (cE I0)) (nI i)) = keptW (cE I0) i := by
          rw [cV_k hF4]
          exact kept_eq (cVE I0) _ _ v2 (fun _ _ _ _ => rfl)
        rw [ek2]
        refine x_iconst (v := -1) dW_spare_60 rfl ?_
        refine x_ixor dW_spare_61 ?_
        refine x_iand dW_spare_62 ?_
        -- at 63: .ifCond .ne 9
        refine x_if_ne (tgt := 72) dW_spare_63 (by decide) (fun d1 => ?_) (fun d1 => ?_)
        · have e : spareB (cE I0) i = false := by simpa [spareB] using d1
          refine x_iincp_3 dW_spare_72 rfl rfl ?_
          refine x_goto (tgt := 26) dW_spare_75 (by decide) ?_
          -- at 26: .iload_n 3
          rw [nI_1]
          refine ih (i + 1) I2 _ (by omega) hF3 ?_
          rw [bs, e, if_neg (by simp), ha]
        · have e : spareB (cE I0) i = true := by simpa [spareB] using d1
          refine x_iload_n dW_spare_66 rfl ?_
          refine x_iconst (v := 1) dW_spare_67 rfl ?_
          refine x_iload_n dW_spare_68 rfl ?_
          refine x_ishl dW_spare_69 ?_
          refine x_ior dW_spare_70 ?_
          refine x_istoren_2 dW_spare_71 rfl rfl ?_
          refine x_iincp_3 dW_spare_72 rfl rfl ?_
          refine x_goto (tgt := 26) dW_spare_75 (by decide) ?_
          -- at 26: .iload_n 3
          rw [nI_1]
          refine ih (i + 1) I2 _ (by omega) hF3 ?_
          rw [bs, e, if_pos rfl, ha]
          rfl
  exact loop (sN (cE I0)) 0 I1 0 (by omega) (fun _ _ => rfl) rfl
end
section
-- 40.w8
/-! the class's calls: even, hardest -/
theorem any_eq {V E : IM} {n m : Nat} (h : VEq V E n m) (P : Nat → List Int32) (q : Int32) {p : Nat} (hp : p < n) : ∀ k, k ≤ m → anyF V P q k p = anyF E P q k p := by
  intro k
  induction k with
  | zero => intro _; rfl
  | succ s ih =>
    intro hk
    rw [anyF, anyF]
    dsimp only
    rw [ih (by omega), (h.2.2 s (by omega)).1]
    unfold clF
    rw [hear_eq h P (by omega) hp]
theorem ev_eq {V E : IM} {n m : Nat} (h : VEq V E n m) (P : Nat → List Int32) (q : Nat) {k : Nat} (hk : k ≤ m) : bs n (evF V P k q) = bs n (evF E P k q) :=
  bs_congr n (fun p hp => by unfold evF; rw [any_eq h P _ hp k hk, can_eq h, h.1 2 (by omega) (by omega)])
theorem lt_eq {V E : IM} {n m : Nat} (h : VEq V E n m) (f : Nat → Int32) (am : Int32) : ∀ k : Nat, ltR V f am k = ltR E f am k := by
  intro k
  induction k with
  | zero => rfl
  | succ p ih => rw [ltR, ltR, ih, ltS, ltS, h.1 7 (by omega) (by omega), h.1 8 (by omega) (by omega)]
theorem shR_eq {V E : IM} {n m : Nat} (h : VEq V E n m) (am : Int32) (x : Nat) : ∀ k : Nat, shR V am x k = shR E am x k := by
  intro k
  induction k with
  | zero => rfl
  | succ j ih =>
    rw [shR, shR, ih]
    cases shR E am x j with
    | none => rfl
    | some f => simp only [lt_eq h]
def shE (E : IM) (q : Nat) : Option (Nat → Int32) := shR E (bs (pN E) (evF E (PE E) (sN E) q)) (pN E) (cl (E 11 q))
def spE_shares : SpT := fun as S I L Post => ∃ (q : Nat) (I0 : IM), as = [.ref 35, .int (nI q)] ∧ S = S1 ∧ cOk I0 ∧ q < qN (cE I0) ∧ Fr kScr I0 I ∧ Hrd (cV I0) (PE (cE I0)) (pN (cE I0)) (sN (cE I0)) I ∧
  (shE (cE I0) q = none → ∀ I' : IM, Fr (43 :: kScr) I0 I' → Post (some (.int 0)) S1 I' L) ∧
  (∀ f, shE (cE I0) q = some f → ∀ I' : IM, Fr (43 :: kScr) I0 I' → (∀ p, p < 8 → I' 43 p = f p) → Post (some (.int 1)) S1 I' L)
theorem cE_shares : Con mLedger_sharesOut 4 0 0 spE_shares := c_Ledger_sharesOut.imp fun as S I L Post hs => by
  obtain ⟨q, I0, rfl, rfl, hok, hq, hF, hh, h1, h2⟩ := hs
  obtain ⟨b1, b2, b3⟩ := hok.say
  obtain ⟨c1, c2, c3⟩ := hok.ppl
  obtain ⟨v1, v2, v3⟩ := hok.vow
  obtain ⟨-, ⟨-, -, pq⟩, -⟩ := hok
  obtain ⟨-, ⟨k, hk1, hk2, ek⟩, -, -⟩ := pq q hq
  have ek' : I0 15 q = nI k := ek
  have e : shR (cV I) (bs (pN (cE I0)) (evF (cV I) (PE (cE I0)) (sN (cE I0)) q)) (pN (cE I0)) k = shE (cE I0) q := by
    rw [cV_k hF, ev_eq (cVE I0) _ q (Nat.le_refl _), shR_eq (cVE I0), shE, ek, cl_nI (by omega)]
  refine ⟨q, sN (cE I0), pN (cE I0), k, PE (cE I0), rfl, rfl, by omega, by rw [hF 18 (by decide)]; exact b1, b2, by rw [hF 4 (by decide)]; exact c1, c2, fun s hs => ?_, by rw [hF 15 (by decide)]; exact ek', hk2, fun z I' hF2 => ?_, fun f z I' hF2 hf => ?_⟩
  · rw [cV_k hF]
    exact (hh s hs).2
  · rw [e] at z
    exact h1 z I' ((hF.wk (by decide)).tr (hF2.wk (by decide)))
  · rw [e] at z
    exact h2 f z I' ((hF.wk (by decide)).tr (hF2.wk (by decide))) hf
def evenS (E : IM) (q p : Int32) : Int32 := if ¬ inR q 0 (E 29 2 - 1) ∨ ¬ inR p 0 (E 29 1 - 1) then -5 else match shE E (cl q) with
  | none => -3
  | some f => f (cl p)
theorem cE_e {I I' : IM} (hF : Fr (43 :: kScr) I I') : cE I' = cE I := cE_fr (hF.wk (by decide))
theorem estay {I I' : IM} (hF : Fr (43 :: kScr) I I') : ∀ k, 59 ≤ k → I' k = I k := fun k hk => hF k (by simp; omega)
def sp_W_even : SpT := fun as S I L Post => ∃ q p : Int32, cSp [.int q, .int p] (fun E => .int (evenS E q p)) (fun E => E) as S I L Post
set_option maxHeartbeats 4000000 in
set_option maxRecDepth 100000 in
theorem c_W_even : Con mW_even 7 0 0 sp_W_even := by
  refine con_of_X rfl fun G as S I L Post hs => ?_
  obtain ⟨q, p, rfl, rfl, hok, h1⟩ := hs
  dsimp only at h1
  refine ⟨0, Nat.le_of_ble_eq_true rfl, ?_⟩
  show X mW_even G _ S1 I L 0 [.ref 0, .int q, .int p] [] Post
  obtain ⟨v1, v2, -⟩ := hok.vow
  obtain ⟨c1, c2, -⟩ := hok.ppl
  obtain ⟨l1, l2⟩ := hok.law
  have bad : (¬ inR q 0 (cE I 29 2 - 1) ∨ ¬ inR p 0 (cE I 29 1 - 1)) → X mW_even G (7, 0, 0) S1 I L 22 [.ref 0, .int q, .int p] [] Post := by
    intro hc
    rw [evenS, if_pos hc] at h1
    refine x_bipush (v := -5) dW_even_22 rfl ?_
    -- at 24: .ireturn
    refine x_ireturn dW_even_24 rfl rfl ?_
    exact h1 I (fun _ _ => rfl) rfl
  refine x_aload_n dW_even_0 rfl ?_
  refine x_getR fl_W_26 rfl dW_even_1 rfl rfl rfl ?_
  refine x_iload_n dW_even_4 rfl ?_
  -- at 5: .invokevirtual 174
  refine x_callV_1 c_Vows_has ok_Vows_has ml_W_174 dW_even_5 rfl rfl rfl rfl rfl ?_
  refine ⟨_, rfl, rfl, fun a1 => ?_, fun a1 => ?_⟩
  · refine x_if_eq (tgt := 22) dW_even_8 (by decide) (fun h => absurd h (by decide)) (fun _ => ?_)
    refine x_aload_n dW_even_11 rfl ?_
    refine x_getR fl_W_19 rfl dW_even_12 rfl rfl rfl ?_
    refine x_iload_n dW_even_15 rfl ?_
    -- at 16: .invokevirtual 143
    refine x_callV_1 c_Folk_has ok_Folk_has ml_W_143 dW_even_16 rfl rfl rfl rfl rfl ?_
    refine ⟨_, rfl, rfl, fun a2 => ?_, fun a2 => ?_⟩
    · refine x_if_ne (tgt := 25) dW_even_19 (by decide) (fun _ => ?_) (fun h => absurd h (by decide))
      have a1 : inR q 0 (cE I 29 2 - 1) := a1
      have a2 : inR p 0 (cE I 29 1 - 1) := a2
      rw [evenS, if_neg (fun z => z.elim (fun y => y a1) (fun y => y a2))] at h1
      rw [show cE I 29 2 = nI (qN (cE I)) from v1] at a1
      rw [show cE I 29 1 = nI (pN (cE I)) from c1] at a2
      obtain ⟨i, hi, rfl⟩ := has_nat (by omega) a1
      obtain ⟨j, hj, rfl⟩ := has_nat (by omega) a2
      rw [cl_nI (by omega), cl_nI (by omega)] at h1
      refine x_aload_n dW_even_25 rfl ?_
      refine x_getR fl_W_56 rfl dW_even_26 rfl rfl rfl ?_
      refine x_aload_n dW_even_29 rfl ?_
      refine x_getR fl_W_47 rfl dW_even_30 rfl rfl rfl ?_
      refine x_getI fl_W_127 rfl dW_even_33 rfl rfl ?_
      -- at 36: .invokevirtual 205
      rw [l1]
      refine x_callV_1 cE_listen ok_Ledger_listen ml_W_205 dW_even_36 rfl rfl rfl rfl rfl ?_
      refine ⟨_, rfl, rfl, hok, l2, fun I' hF _ hh _ => ?_⟩
      refine x_aload_n dW_even_39 rfl ?_
      refine x_getR fl_W_56 rfl dW_even_40 rfl rfl rfl ?_
      refine x_iload_n dW_even_43 rfl ?_
      -- at 44: .invokevirtual 260
      refine x_callV_1 cE_shares ok_Ledger_sharesOut ml_W_260 dW_even_44 rfl rfl rfl rfl rfl ?_
      refine ⟨i, I, rfl, rfl, hok, hi, hF, hh, fun e I2 hF2 => ?_, fun f e I2 hF2 hf => ?_⟩
      · rw [e] at h1
        refine x_if_eq (tgt := 62) dW_even_47 (by decide) (fun _ => ?_) (fun h => absurd (by decide) h)
        refine x_bipush (v := -3) dW_even_62 rfl ?_
        -- at 64: .ireturn
        refine x_ireturn dW_even_64 rfl rfl ?_
        exact h1 I2 (estay hF2) (cE_e hF2)
      · rw [e] at h1
        refine x_if_eq (tgt := 62) dW_even_47 (by decide) (fun h => absurd h (by decide)) (fun _ => ?_)
        refine x_aload_n dW_even_50 rfl ?_
        refine x_getR fl_W_56 rfl dW_even_51 rfl rfl rfl ?_
        refine x_getR fl_W_263 rfl dW_even_54 rfl rfl rfl ?_
        refine x_iload_n dW_even_57 rfl ?_
        refine x_ialdJ (j := j) dW_even_58 rfl rfl (by first | rfl | (simp only [← nI_add, ← pk_mul]; rfl)) (by omega) ?_
        refine x_goto (tgt := 64) dW_even_59 (by decide) ?_
        -- at 64: .ireturn
        refine x_ireturn dW_even_64 rfl rfl ?_
        rw [hf j (by omega)]
        exact h1 I2 (estay hF2) (cE_e hF2)
    · refine x_if_ne (tgt := 25) dW_even_19 (by decide) (fun h => absurd (by decide) h) (fun _ => ?_)
      exact bad (Or.inr a2)
  · refine x_if_eq (tgt := 22) dW_even_8 (by decide) (fun _ => ?_) (fun h => absurd (by decide) h)
    exact bad (Or.inl a1)
def hardR (E : IM) (f : Nat → Int32) (k : Nat) : Int32 := match k with
  | 0 => 0
  | p + 1 => imax (hardR E f p) (E 7 p * f p)
def hardestS (E : IM) (q : Int32) : Int32 := if ¬ inR q 0 (E 29 2 - 1) then -5 else match shE E (cl q) with
  | none => -1
  | some f => hardR E f (pN E)
def sp_W_hardest : SpT := fun as S I L Post => ∃ q : Int32, cSp [.int q] (fun E => .int (hardestS E q)) (fun E => E) as S I L Post
set_option maxHeartbeats 4000000 in
set_option maxRecDepth 100000 in
theorem c_W_hardest : Con mW_hardest 7 0 0 sp_W_hardest := by
  refine con_of_X rfl fun G as S I L Post hs => ?_
  obtain ⟨q, rfl, rfl, hok, h1⟩ := hs
  dsimp only at h1
  refine ⟨2, Nat.le_of_ble_eq_true rfl, ?_⟩
  show X mW_hardest G _ S1 I L 0 [.ref 0, .int q, .null, .null] [] Post
  obtain ⟨v1, v2, -⟩ := hok.vow
  obtain ⟨c1, c2, -⟩ := hok.ppl
  obtain ⟨l1, l2⟩ := hok.law
  refine x_aload_n dW_hardest_0 rfl ?_
  refine x_getR fl_W_26 rfl dW_hardest_1 rfl rfl rfl ?_
  refine x_iload_n dW_hardest_4 rfl ?_
  -- at 5: .invokevirtual 174
  refine x_callV_1 c_Vows_has ok_Vows_has ml_W_174 dW_hardest_5 rfl rfl rfl rfl rfl ?_
  refine ⟨_, rfl, rfl, fun a1 => ?_, fun a1 => ?_⟩
  · refine x_if_ne (tgt := 14) dW_hardest_8 (by decide) (fun _ => ?_) (fun h => absurd h (by decide))
    have a1 : inR q 0 (cE I 29 2 - 1) := a1
    rw [hardestS, if_neg (not_not_intro a1)] at h1
    rw [show cE I 29 2 = nI (qN (cE I)) from v1] at a1
    obtain ⟨i, hi, rfl⟩ := has_nat (by omega) a1
    rw [cl_nI (by omega)] at h1
    refine x_aload_n dW_hardest_14 rfl ?_
    refine x_getR fl_W_56 rfl dW_hardest_15 rfl rfl rfl ?_
    refine x_aload_n dW_hardest_18 rfl ?_
    refine x_getR fl_W_47 rfl dW_hardest_19 rfl rfl rfl ?_
    refine x_getI fl_W_127 rfl dW_hardest_22 rfl rfl ?_
    -- at 25: .invokevirtual 205
    rw [l1]
    refine x_callV_1 cE_listen ok_Ledger_listen ml_W_205 dW_hardest_25 rfl rfl rfl rfl rfl ?_
    refine ⟨_, rfl, rfl, hok, l2, fun I' hF _ hh _ => ?_⟩
    refine x_aload_n dW_hardest_28 rfl ?_
    refine x_getR fl_W_56 rfl dW_hardest_29 rfl rfl rfl ?_
    refine x_iload_n dW_hardest_32 rfl ?_
    -- at 33: .invokevirtual 260
    refine x_callV_1 cE_shares ok_Ledger_sharesOut ml_W_260 dW_hardest_33 rfl rfl rfl rfl rfl ?_
    refine ⟨i, I, rfl, rfl, hok, hi, hF, hh, fun e I2 hF2 => ?_, fun f e I2 hF2 hf => ?_⟩
    · rw [e] at h1
      refine x_if_ne (tgt := 41) dW_hardest_36 (by decide) (fun h => absurd (by decide) h) (fun _ => ?_)
      refine x_iconst (v := -1) dW_hardest_39 rfl ?_
      -- at 40: .ireturn
      refine x_ireturn dW_hardest_40 rfl rfl ?_
      exact h1 I2 (estay hF2) (cE_e hF2)
    · rw [e] at h1
      refine x_if_ne (tgt := 41) dW_hardest_36 (by decide) (fun _ => ?_) (fun h => absurd h (by decide))
      refine x_iconst (v := 0) dW_hardest_41 rfl ?_
      refine x_istoren_2 dW_hardest_42 rfl rfl ?_
      refine x_iconst (v := 0) dW_hardest_43 rfl ?_
      refine x_istoren_3 dW_hardest_44 rfl rfl ?_
      -- at 45: .iload_n 3
      have loop : ∀ (k j : Nat) (acc : Int32), j + k = pN (cE I) → acc = hardR (cE I) f j → X mW_hardest G (7, 0, 0) S1 I2 L 45 [.ref 0, .int (nI i), .int acc, .int (nI j)] [] Post := by
        intro k
        induction k with
        | zero =>
          intro j acc hj ha
          obtain rfl : j = pN (cE I) := by omega
          refine x_iload_n dW_hardest_45 rfl ?_
          refine x_aload_n dW_hardest_46 rfl ?_
          refine x_getR fl_W_19 rfl dW_hardest_47 rfl rfl rfl ?_
          refine x_getI fl_W_121 rfl dW_hardest_50 rfl rfl ?_
          -- at 53: .if_icmp .ge 33
          rw [hF2 4 (by decide), c1]
          refine x_icmp_ge (tgt := 86) dW_hardest_53 (by decide) (fun _ => ?_) (fun h => absurd (Int32.le_refl _) h)
          refine x_iload_n dW_hardest_86 rfl ?_
          -- at 87: .ireturn
          refine x_ireturn dW_hardest_87 rfl rfl ?_
          rw [ha]
          exact h1 I2 (estay hF2) (cE_e hF2)
        | succ k ih =>
          intro j acc hj ha
          refine x_iload_n dW_hardest_45 rfl ?_
          refine x_aload_n dW_hardest_46 rfl ?_
          refine x_getR fl_W_19 rfl dW_hardest_47 rfl rfl rfl ?_
          refine x_getI fl_W_121 rfl dW_hardest_50 rfl rfl ?_
          -- at 53: .if_icmp .ge 33
          rw [hF2 4 (by decide), c1]
          refine x_icmp_ge (tgt := 86) dW_hardest_53 (by decide) (fun h => absurd h (nI_ge (b := pN (cE I)) (by omega) (by omega))) (fun _ => ?_)
          refine x_iload_n dW_hardest_56 rfl ?_
          refine x_aload_n dW_hardest_57 rfl ?_
          refine x_getR fl_W_19 rfl dW_hardest_58 rfl rfl rfl ?_
          refine x_getR fl_W_164 rfl dW_hardest_61 rfl rfl rfl ?_
          refine x_iload_n dW_hardest_64 rfl ?_
          refine x_ialdJ (j := j) dW_hardest_65 rfl rfl (by first | rfl | (simp only [← nI_add, ← pk_mul]; rfl)) (by omega) ?_
          refine x_aload_n dW_hardest_66 rfl ?_
          refine x_getR fl_W_56 rfl dW_hardest_67 rfl rfl rfl ?_
          refine x_getR fl_W_263 rfl dW_hardest_70 rfl rfl rfl ?_
          refine x_iload_n dW_hardest_73 rfl ?_
          refine x_ialdJ (j := j) dW_hardest_74 rfl rfl (by first | rfl | (simp only [← nI_add, ← pk_mul]; rfl)) (by omega) ?_
          refine x_imul dW_hardest_75 ?_
          -- at 76: .invokestatic 266
          have r1 : I2 10 j = cE I 7 j := by rw [hF2 10 (by decide)]; rfl
          rw [r1, hf j (by omega)]
          refine x_mmax dW_hardest_76 ml_W_266 st_max it_Math co_max rfl rfl ?_
          refine x_eqi (y := imax acc (cE I 7 j * f j)) rfl ?_
          refine x_istoren_2 dW_hardest_79 rfl rfl ?_
          refine x_iincp_3 dW_hardest_80 rfl rfl ?_
          refine x_goto (tgt := 45) dW_hardest_83 (by decide) ?_
          -- at 45: .iload_n 3
          rw [nI_1]
          refine ih (j + 1) _ (by omega) ?_
          rw [hardR, ha]
      exact loop (pN (cE I)) 0 0 (by omega) rfl
  · refine x_if_ne (tgt := 14) dW_hardest_8 (by decide) (fun h => absurd (by decide) h) (fun _ => ?_)
    have a1 : ¬ inR q 0 (cE I 29 2 - 1) := a1
    rw [hardestS, if_pos a1] at h1
    refine x_bipush (v := -5) dW_hardest_11 rfl ?_
    -- at 13: .ireturn
    refine x_ireturn dW_hardest_13 rfl rfl ?_
    exact h1 I (fun _ _ => rfl) rfl
end
section
-- 41.w9
/-! the class's calls: leastOf, mostOf, flee, send -/
theorem VEq.mv {V E : IM} {n m : Nat} (h : VEq V E n m) (p : Nat) (u : Int32) : VEq (mvV V p u) (mvV E p u) n m := by
  obtain ⟨h1, h2, h3⟩ := h
  unfold mvV
  refine ⟨fun a ha h9 => ?_, fun x hx => ?_, fun s hs => ?_⟩
  · rw [up2_n _ _ _ h9, up2_n _ _ _ h9]
    exact h1 a ha h9
  · rw [up2_s, up2_s]
    unfold up1
    by_cases e : x = p
    · simp [e]
    · simp [e, h2 x hx]
  · simp only [up2_n, up2_s, ne_eq, Nat.reduceEqDiff, not_false_eq_true]
    exact h3 s hs
theorem tot1_eq {V E : IM} {n m : Nat} (h : VEq V E n m) {D D' : Nat → Int32} {nq : Nat} {w : Int32} {p : Nat} (hD : ∀ s, s < m → D s = D' s) : tot1 V D nq w m p = tot1 E D' nq w m p := by
  unfold tot1 fin1
  rw [maxR_eq h (D' := D') m (Nat.le_refl _) hD, strR_eq h, h.1 8 (by omega) (by omega)]
theorem totU_eq {V E : IM} {n m : Nat} (h : VEq V E n m) (P : Nat → List Int32) (nq p : Nat) (u : Int32) : totU V P n nq m p u = totU E P n nq m p u :=
  tot1_eq (h.mv p u) (fun s hs => by unfold DD; rw [share_eq (h.mv p u) _ hs, CC_eq (h.mv p u) _ hs])
def totE (E : IM) (p u : Nat) : Int32 := totU E (PE E) (pN E) (qN E) (sN E) p (nI u)
def spE_tryPlaces : SpT := fun as S I L Post => ∃ (p : Nat) (I0 : IM), as = [.ref 35, .int (nI p)] ∧ S = S1 ∧ cOk I0 ∧ p < pN (cE I0) ∧ Fr kScr I0 I ∧ I 35 5 = nI (wN (cE I0)) ∧ Hrd (cV I0) (PE (cE I0)) (pN (cE I0)) (sN (cE I0)) I ∧
  ∀ I' : IM, Fr (44 :: kScr) I0 I' → (∀ u, u < 6 → I' 44 u = totE (cE I0) p u) → Post none S1 I' L
theorem cE_tryPlaces : Con mLedger_tryPlaces 6 0 0 spE_tryPlaces := c_Ledger_tryPlaces.imp fun as S I L Post hs => by
  obtain ⟨p, I0, rfl, rfl, hok, hp, hF, hl, hh, h1⟩ := hs
  obtain ⟨b1, b2, b3⟩ := hok.say
  obtain ⟨c1, c2, c3⟩ := hok.ppl
  obtain ⟨-, l2⟩ := hok.law
  refine ⟨p, wN (cE I0), sN (cE I0), pN (cE I0), qN (cE I0), PE (cE I0), rfl, rfl, by rw [hF 18 (by decide)]; exact b1, b2, hp, fun s hs => ?_, ⟨by rw [hF 4 (by decide)]; exact c1, c2, fun x hx => ?_⟩, hl, (hok.txt l2).fr (hF _ (by decide)) (hF _ (by decide)), (hok.vow).fr (hF _ (by decide)) (hF _ (by decide)), ?_, fun I' hF2 ht => ?_⟩
  · rw [cV_k hF]
    exact b3 s hs
  · rw [cV_k hF]
    exact c3 x hx
  · rw [cV_k hF]
    exact hh
  · refine h1 I' ((hF.wk (by decide)).tr (hF2.wk (by decide))) fun u hu => ?_
    rw [ht u hu, cV_k hF]
    exact totU_eq (cVE I0) _ _ _ _
def leR (f : Nat → Int32) (k : Nat) : Nat := match k with
  | 0 => 0
  | j + 1 => if f (j + 1) < f (leR f j) then j + 1 else leR f j
def moR (f : Nat → Int32) (k : Nat) : Nat := match k with
  | 0 => 0
  | j + 1 => if f (moR f j) < f (j + 1) then j + 1 else moR f j
theorem leR_le (f : Nat → Int32) : ∀ k, leR f k ≤ k := by
  intro k
  induction k with
  | zero => exact Nat.le_refl _
  | succ j ih =>
    rw [leR]
    split <;> omega
theorem moR_le (f : Nat → Int32) : ∀ k, moR f k ≤ k := by
  intro k
  induction k with
  | zero => exact Nat.le_refl _
  | succ j ih =>
    rw [moR]
    split <;> omega
theorem leR_congr {f g : Nat → Int32} : ∀ k, (∀ u, u ≤ k → f u = g u) → leR f k = leR g k := by
  intro k
  induction k with
  | zero => intro _; rfl
  | succ j ih =>
    intro h
    rw [leR, leR, ih (fun u hu => h u (by omega)), h (j + 1) (Nat.le_refl _), h (leR g j) (Nat.le_succ_of_le (leR_le g j))]
theorem moR_congr {f g : Nat → Int32} : ∀ k, (∀ u, u ≤ k → f u = g u) → moR f k = moR g k := by
  intro k
  induction k with
  | zero => intro _; rfl
  | succ j ih =>
    intro h
    rw [moR, moR, ih (fun u hu => h u (by omega)), h (j + 1) (Nat.le_refl _), h (moR g j) (Nat.le_succ_of_le (moR_le g j))]
def sp_W_leastOf : SpT := fun as S I L Post => as = [.ref 44] ∧ S = S1 ∧ Post (some (.int (nI (leR (I 44) 5)))) S1 I L
set_option maxHeartbeats 4000000 in
set_option maxRecDepth 100000 in
theorem c_W_leastOf : Con mW_leastOf 2 0 0 sp_W_leastOf := by
  refine con_of_X rfl fun G as S I L Post hs => ?_
  obtain ⟨rfl, rfl, h1⟩ := hs
  refine ⟨2, Nat.le_of_ble_eq_true rfl, ?_⟩
  show X mW_leastOf G _ S1 I L 0 [.ref 44, .null, .null] [] Post
  refine x_iconst (v := 0) dW_leastOf_0 rfl ?_
  refine x_istoren_1 dW_leastOf_1 rfl rfl ?_
  refine x_iconst (v := 1) dW_leastOf_2 rfl ?_
  refine x_istoren_2 dW_leastOf_3 rfl rfl ?_
  -- at 4: .iload_n 2
  have loop : ∀ (k i : Nat), i + k = 5 → X mW_leastOf G (2, 0, 0) S1 I L 4 [.ref 44, .int (nI (leR (I 44) i)), .int (nI (i + 1))] [] Post := by
    intro k
    induction k with
    | zero =>
      intro i hi
      obtain rfl : i = 5 := by omega
      refine x_iload_n dW_leastOf_4 rfl ?_
      refine x_aload_n dW_leastOf_5 rfl ?_
      refine x_alen dW_leastOf_6 rfl rfl rfl ?_
      -- at 7: .if_icmp .ge 20
      refine x_icmp_ge (tgt := 27) dW_leastOf_7 (by decide) (fun _ => ?_) (fun h => absurd (show (6 : Int32) ≤ nI 6 from Int32.le_refl _) h)
      refine x_iload_n dW_leastOf_27 rfl ?_
      -- at 28: .ireturn
      refine x_ireturn dW_leastOf_28 rfl rfl ?_
      exact h1
    | succ k ih =>
      intro i hi
      have hle := leR_le (I 44) i
      refine x_iload_n dW_leastOf_4 rfl ?_
      refine x_aload_n dW_leastOf_5 rfl ?_
      refine x_alen dW_leastOf_6 rfl rfl rfl ?_
      -- at 7: .if_icmp .ge 20
      refine x_icmp_ge (tgt := 27) dW_leastOf_7 (by decide) (fun h => absurd h (nI_ge (b := 6) (by omega) (by omega))) (fun _ => ?_)
      refine x_aload_n dW_leastOf_10 rfl ?_
      refine x_iload_n dW_leastOf_11 rfl ?_
      refine x_ialdJ (j := i + 1) dW_leastOf_12 rfl rfl (by first | rfl | (simp only [← nI_add, ← pk_mul]; rfl)) (by omega) ?_
      refine x_aload_n dW_leastOf_13 rfl ?_
      refine x_iload_n dW_leastOf_14 rfl ?_
      refine x_ialdJ (j := leR (I 44) i) dW_leastOf_15 rfl rfl (by first | rfl | (simp only [← nI_add, ← pk_mul]; rfl)) (by omega) ?_
      -- at 16: .if_icmp .ge 5
      refine x_icmp_ge (tgt := 21) dW_leastOf_16 (by decide) (fun c1 => ?_) (fun c1 => ?_)
      · refine x_iincp_2 dW_leastOf_21 rfl rfl ?_
        refine x_goto (tgt := 4) dW_leastOf_24 (by decide) ?_
        -- at 4: .iload_n 2
        rw [nI_1]
        have h3 := ih (i + 1) (by omega)
        rw [leR, if_neg (Int32.not_lt.mpr c1)] at h3
        exact h3
      · refine x_iload_n dW_leastOf_19 rfl ?_
        refine x_istoren_1 dW_leastOf_20 rfl rfl ?_
        refine x_iincp_2 dW_leastOf_21 rfl rfl ?_
        refine x_goto (tgt := 4) dW_leastOf_24 (by decide) ?_
        -- at 4: .iload_n 2
        rw [nI_1]
        have h3 := ih (i + 1) (by omega)
        rw [leR, if_pos (Int32.not_le.mp c1)] at h3
        exact h3
  exact loop 5 0 (by omega)
def sp_W_mostOf : SpT := fun as S I L Post => as = [.ref 44] ∧ S = S1 ∧ Post (some (.int (nI (moR (I 44) 5)))) S1 I L
set_option maxHeartbeats 4000000 in
set_option maxRecDepth 100000 in
theorem c_W_mostOf : Con mW_mostOf 2 0 0 sp_W_mostOf := by
  refine con_of_X rfl fun G as S I L Post hs => ?_
  obtain ⟨rfl, rfl, h1⟩ := hs
  refine ⟨2, Nat.le_of_ble_eq_true rfl, ?_⟩
  show X mW_mostOf G _ S1 I L 0 [.ref 44, .null, .null] [] Post
  refine x_iconst (v := 0) dW_mostOf_0 rfl ?_
  refine x_istoren_1 dW_mostOf_1 rfl rfl ?_
  refine x_iconst (v := 1) dW_mostOf_2 rfl ?_
  refine x_istoren_2 dW_mostOf_3 rfl rfl ?_
  -- at 4: .iload_n 2
  have loop : ∀ (k i : Nat), i + k = 5 → X mW_mostOf G (2, 0, 0) S1 I L 4 [.ref 44, .int (nI (moR (I 44) i)), .int (nI (i + 1))] [] Post := by
    intro k
    induction k with
    | zero =>
      intro i hi
      obtain rfl : i = 5 := by omega
      refine x_iload_n dW_mostOf_4 rfl ?_
      refine x_aload_n dW_mostOf_5 rfl ?_
      refine x_alen dW_mostOf_6 rfl rfl rfl ?_
      -- at 7: .if_icmp .ge 20
      refine x_icmp_ge (tgt := 27) dW_mostOf_7 (by decide) (fun _ => ?_) (fun h => absurd (show (6 : Int32) ≤ nI 6 from Int32.le_refl _) h)
      refine x_iload_n dW_mostOf_27 rfl ?_
      -- at 28: .ireturn
      refine x_ireturn dW_mostOf_28 rfl rfl ?_
      exact h1
    | succ k ih =>
      intro i hi
      have hle := moR_le (I 44) i
      refine x_iload_n dW_mostOf_4 rfl ?_
      refine x_aload_n dW_mostOf_5 rfl ?_
      refine x_alen dW_mostOf_6 rfl rfl rfl ?_
      -- at 7: .if_icmp .ge 20
      refine x_icmp_ge (tgt := 27) dW_mostOf_7 (by decide) (fun h => absurd h (nI_ge (b := 6) (by omega) (by omega))) (fun _ => ?_)
      refine x_aload_n dW_mostOf_10 rfl ?_
      refine x_iload_n dW_mostOf_11 rfl ?_
      refine x_ialdJ (j := i + 1) dW_mostOf_12 rfl rfl (by first | rfl | (simp only [← nI_add, ← pk_mul]; rfl)) (by omega) ?_
      refine x_aload_n dW_mostOf_13 rfl ?_
      refine x_iload_n dW_mostOf_14 rfl ?_
      refine x_ialdJ (j := moR (I 44) i) dW_mostOf_15 rfl rfl (by first | rfl | (simp only [← nI_add, ← pk_mul]; rfl)) (by omega) ?_
      -- at 16: .if_icmp .le 5
      refine x_icmp_le (tgt := 21) dW_mostOf_16 (by decide) (fun c1 => ?_) (fun c1 => ?_)
      · refine x_iincp_2 dW_mostOf_21 rfl rfl ?_
        refine x_goto (tgt := 4) dW_mostOf_24 (by decide) ?_
        -- at 4: .iload_n 2
        rw [nI_1]
        have h3 := ih (i + 1) (by omega)
        rw [moR, if_neg (Int32.not_lt.mpr c1)] at h3
        exact h3
      · refine x_iload_n dW_mostOf_19 rfl ?_
        refine x_istoren_1 dW_mostOf_20 rfl rfl ?_
        refine x_iincp_2 dW_mostOf_21 rfl rfl ?_
        refine x_goto (tgt := 4) dW_mostOf_24 (by decide) ?_
        -- at 4: .iload_n 2
        rw [nI_1]
        have h3 := ih (i + 1) (by omega)
        rw [moR, if_pos (Int32.not_le.mp c1)] at h3
        exact h3
  exact loop 5 0 (by omega)
theorem cE_b {I I' : IM} (hF : Fr (44 :: kScr) I I') : cE I' = cE I := cE_fr (hF.wk (by decide))
theorem bstay {I I' : IM} (hF : Fr (44 :: kScr) I I') : ∀ k, 59 ≤ k → I' k = I k := fun k hk => hF k (by simp; omega)
def fleeS (E : IM) (p w : Int32) : Int32 := if ¬ inR p 0 (E 29 1 - 1) then -5 else if ¬ inR w 0 1 then -7 else if w = 0 then nI (leR (totE E (cl p)) 5) else totE E (cl p) (leR (totE E (cl p)) 5)
def sp_W_flee : SpT := fun as S I L Post => ∃ p w : Int32, cSp [.int p, .int w] (fun E => .int (fleeS E p w)) (fun E => E) as S I L Post
set_option maxHeartbeats 4000000 in
set_option maxRecDepth 100000 in
theorem c_W_flee : Con mW_flee 7 0 0 sp_W_flee := by
  refine con_of_X rfl fun G as S I L Post hs => ?_
  obtain ⟨p, w, rfl, rfl, hok, h1⟩ := hs
  dsimp only at h1
  refine ⟨1, Nat.le_of_ble_eq_true rfl, ?_⟩
  show X mW_flee G _ S1 I L 0 [.ref 0, .int p, .int w, .null] [] Post
  obtain ⟨c1, c2, -⟩ := hok.ppl
  obtain ⟨l1, l2⟩ := hok.law
  refine x_aload_n dW_flee_0 rfl ?_
  refine x_getR fl_W_19 rfl dW_flee_1 rfl rfl rfl ?_
  refine x_iload_n dW_flee_4 rfl ?_
  -- at 5: .invokevirtual 143
  refine x_callV_1 c_Folk_has ok_Folk_has ml_W_143 dW_flee_5 rfl rfl rfl rfl rfl ?_
  refine ⟨_, rfl, rfl, fun a1 => ?_, fun a1 => ?_⟩
  · have a1 : inR p 0 (cE I 29 1 - 1) := a1
    refine x_if_ne (tgt := 14) dW_flee_8 (by decide) (fun _ => ?_) (fun h => absurd h (by decide))
    rw [fleeS, if_neg (not_not_intro a1)] at h1
    rw [show cE I 29 1 = nI (pN (cE I)) from c1] at a1
    obtain ⟨i, hi, rfl⟩ := has_nat (by omega) a1
    rw [cl_nI (by omega)] at h1
    refine x_iload_n dW_flee_14 rfl ?_
    refine x_iconst (v := 0) dW_flee_15 rfl ?_
    refine x_iconst (v := 1) dW_flee_16 rfl ?_
    -- at 17: .invokestatic 101
    refine x_callS_3 c_W_within ok_W_within ml_W_101 dW_flee_17 rfl rfl ?_
    refine ⟨_, _, _, rfl, fun a2 => ?_, fun a2 => ?_⟩
    · have a2 : inR w 0 1 := a2
      refine x_if_ne (tgt := 26) dW_flee_20 (by decide) (fun _ => ?_) (fun h => absurd h (by decide))
      rw [if_neg (not_not_intro a2)] at h1
      refine x_aload_n dW_flee_26 rfl ?_
      refine x_getR fl_W_56 rfl dW_flee_27 rfl rfl rfl ?_
      refine x_aload_n dW_flee_30 rfl ?_
      refine x_getR fl_W_47 rfl dW_flee_31 rfl rfl rfl ?_
      refine x_getI fl_W_127 rfl dW_flee_34 rfl rfl ?_
      -- at 37: .invokevirtual 205
      rw [l1]
      refine x_callV_1 cE_listen ok_Ledger_listen ml_W_205 dW_flee_37 rfl rfl rfl rfl rfl ?_
      refine ⟨_, rfl, rfl, hok, l2, fun I1 hF1 hl hh _ => ?_⟩
      refine x_aload_n dW_flee_40 rfl ?_
      refine x_getR fl_W_56 rfl dW_flee_41 rfl rfl rfl ?_
      refine x_iload_n dW_flee_44 rfl ?_
      -- at 45: .invokevirtual 271
      refine x_callV_1 cE_tryPlaces ok_Ledger_tryPlaces ml_W_271 dW_flee_45 rfl rfl rfl rfl rfl ?_
      refine ⟨i, I, rfl, rfl, hok, hi, hF1, hl, hh, fun I2 hF2 ht => ?_⟩
      have hle := leR_le (totE (cE I) i) 5
      refine x_aload_n dW_flee_48 rfl ?_
      refine x_getR fl_W_56 rfl dW_flee_49 rfl rfl rfl ?_
      refine x_getR fl_W_274 rfl dW_flee_52 rfl rfl rfl ?_
      -- at 55: .invokestatic 277
      refine x_callS_1 c_W_leastOf ok_W_leastOf ml_W_277 dW_flee_55 rfl rfl ?_
      refine ⟨rfl, rfl, ?_⟩
      rw [leR_congr (g := totE (cE I) i) 5 (fun u hu => ht u (by omega))]
      refine x_istoren_3 dW_flee_58 rfl rfl ?_
      refine x_iload_n dW_flee_59 rfl ?_
      -- at 60: .ifCond .ne 7
      refine x_if_ne (tgt := 67) dW_flee_60 (by decide) (fun d1 => ?_) (fun d1 => ?_)
      · rw [if_neg d1] at h1
        refine x_aload_n dW_flee_67 rfl ?_
        refine x_getR fl_W_56 rfl dW_flee_68 rfl rfl rfl ?_
        refine x_getR fl_W_274 rfl dW_flee_71 rfl rfl rfl ?_
        refine x_iload_n dW_flee_74 rfl ?_
        refine x_ialdJ (j := leR (totE (cE I) i) 5) dW_flee_75 rfl rfl (by first | rfl | (simp only [← nI_add, ← pk_mul]; rfl)) (by omega) ?_
        -- at 76: .ireturn
        rw [ht _ (by omega)]
        refine x_ireturn dW_flee_76 rfl rfl ?_
        exact h1 I2 (bstay hF2) (cE_b hF2)
      · rw [if_pos d1] at h1
        refine x_iload_n dW_flee_63 rfl ?_
        refine x_goto (tgt := 76) dW_flee_64 (by decide) ?_
        -- at 76: .ireturn
        refine x_ireturn dW_flee_76 rfl rfl ?_
        exact h1 I2 (bstay hF2) (cE_b hF2)
    · have a2 : ¬ inR w 0 1 := a2
      refine x_if_ne (tgt := 26) dW_flee_20 (by decide) (fun h => absurd (by decide) h) (fun _ => ?_)
      rw [if_pos a2] at h1
      refine x_bipush (v := -7) dW_flee_23 rfl ?_
      -- at 25: .ireturn
      refine x_ireturn dW_flee_25 rfl rfl ?_
      exact h1 I (fun _ _ => rfl) rfl
  · have a1 : ¬ inR p 0 (cE I 29 1 - 1) := a1
    refine x_if_ne (tgt := 14) dW_flee_8 (by decide) (fun h => absurd (by decide) h) (fun _ => ?_)
    rw [fleeS, if_pos a1] at h1
    refine x_bipush (v := -5) dW_flee_11 rfl ?_
    -- at 13: .ireturn
    refine x_ireturn dW_flee_13 rfl rfl ?_
    exact h1 I (fun _ _ => rfl) rfl
def sendS (E : IM) (p w : Int32) : Int32 := if ¬ inR p 0 (E 29 1 - 1) then -5 else if ¬ inR w 0 1 then -7 else if w = 0 then nI (moR (totE E (cl p)) 5) else totE E (cl p) (moR (totE E (cl p)) 5)
def sp_W_send : SpT := fun as S I L Post => ∃ p w : Int32, cSp [.int p, .int w] (fun E => .int (sendS E p w)) (fun E => E) as S I L Post
set_option maxHeartbeats 4000000 in
set_option maxRecDepth 100000 in
theorem c_W_send : Con mW_send 7 0 0 sp_W_send := by
  refine con_of_X rfl fun G as S I L Post hs => ?_
  obtain ⟨p, w, rfl, rfl, hok, h1⟩ := hs
  dsimp only at h1
  refine ⟨1, Nat.le_of_ble_eq_true rfl, ?_⟩
  show X mW_send G _ S1 I L 0 [.ref 0, .int p, .int w, .null] [] Post
  obtain ⟨c1, c2, -⟩ := hok.ppl
  obtain ⟨l1, l2⟩ := hok.law
  refine x_aload_n dW_send_0 rfl ?_
  refine x_getR fl_W_19 rfl dW_send_1 rfl rfl rfl ?_
  refine x_iload_n dW_send_4 rfl ?_
  -- at 5: .invokevirtual 143
  refine x_callV_1 c_Folk_has ok_Folk_has ml_W_143 dW_send_5 rfl rfl rfl rfl rfl ?_
  refine ⟨_, rfl, rfl, fun a1 => ?_, fun a1 => ?_⟩
  · have a1 : inR p 0 (cE I 29 1 - 1) := a1
    refine x_if_ne (tgt := 14) dW_send_8 (by decide) (fun _ => ?_) (fun h => absurd h (by decide))
    rw [sendS, if_neg (not_not_intro a1)] at h1
    rw [show cE I 29 1 = nI (pN (cE I)) from c1] at a1
    obtain ⟨i, hi, rfl⟩ := has_nat (by omega) a1
    rw [cl_nI (by omega)] at h1
    refine x_iload_n dW_send_14 rfl ?_
    refine x_iconst (v := 0) dW_send_15 rfl ?_
    refine x_iconst (v := 1) dW_send_16 rfl ?_
    -- at 17: .invokestatic 101
    refine x_callS_3 c_W_within ok_W_within ml_W_101 dW_send_17 rfl rfl ?_
    refine ⟨_, _, _, rfl, fun a2 => ?_, fun a2 => ?_⟩
    · have a2 : inR w 0 1 := a2
      refine x_if_ne (tgt := 26) dW_send_20 (by decide) (fun _ => ?_) (fun h => absurd h (by decide))
      rw [if_neg (not_not_intro a2)] at h1
      refine x_aload_n dW_send_26 rfl ?_
      refine x_getR fl_W_56 rfl dW_send_27 rfl rfl rfl ?_
      refine x_aload_n dW_send_30 rfl ?_
      refine x_getR fl_W_47 rfl dW_send_31 rfl rfl rfl ?_
      refine x_getI fl_W_127 rfl dW_send_34 rfl rfl ?_
      -- at 37: .invokevirtual 205
      rw [l1]
      refine x_callV_1 cE_listen ok_Ledger_listen ml_W_205 dW_send_37 rfl rfl rfl rfl rfl ?_
      refine ⟨_, rfl, rfl, hok, l2, fun I1 hF1 hl hh _ => ?_⟩
      refine x_aload_n dW_send_40 rfl ?_
      refine x_getR fl_W_56 rfl dW_send_41 rfl rfl rfl ?_
      refine x_iload_n dW_send_44 rfl ?_
      -- at 45: .invokevirtual 271
      refine x_callV_1 cE_tryPlaces ok_Ledger_tryPlaces ml_W_271 dW_send_45 rfl rfl rfl rfl rfl ?_
      refine ⟨i, I, rfl, rfl, hok, hi, hF1, hl, hh, fun I2 hF2 ht => ?_⟩
      have hle := moR_le (totE (cE I) i) 5
      refine x_aload_n dW_send_48 rfl ?_
      refine x_getR fl_W_56 rfl dW_send_49 rfl rfl rfl ?_
      refine x_getR fl_W_274 rfl dW_send_52 rfl rfl rfl ?_
      -- at 55: .invokestatic 281
      refine x_callS_1 c_W_mostOf ok_W_mostOf ml_W_281 dW_send_55 rfl rfl ?_
      refine ⟨rfl, rfl, ?_⟩
      rw [moR_congr (g := totE (cE I) i) 5 (fun u hu => ht u (by omega))]
      refine x_istoren_3 dW_send_58 rfl rfl ?_
      refine x_iload_n dW_send_59 rfl ?_
      -- at 60: .ifCond .ne 7
      refine x_if_ne (tgt := 67) dW_send_60 (by decide) (fun d1 => ?_) (fun d1 => ?_)
      · rw [if_neg d1] at h1
        refine x_aload_n dW_send_67 rfl ?_
        refine x_getR fl_W_56 rfl dW_send_68 rfl rfl rfl ?_
        refine x_getR fl_W_274 rfl dW_send_71 rfl rfl rfl ?_
        refine x_iload_n dW_send_74 rfl ?_
        refine x_ialdJ (j := moR (totE (cE I) i) 5) dW_send_75 rfl rfl (by first | rfl | (simp only [← nI_add, ← pk_mul]; rfl)) (by omega) ?_
        -- at 76: .ireturn
        rw [ht _ (by omega)]
        refine x_ireturn dW_send_76 rfl rfl ?_
        exact h1 I2 (bstay hF2) (cE_b hF2)
      · rw [if_pos d1] at h1
        refine x_iload_n dW_send_63 rfl ?_
        refine x_goto (tgt := 76) dW_send_64 (by decide) ?_
        -- at 76: .ireturn
        refine x_ireturn dW_send_76 rfl rfl ?_
        exact h1 I2 (bstay hF2) (cE_b hF2)
    · have a2 : ¬ inR w 0 1 := a2
      refine x_if_ne (tgt := 26) dW_send_20 (by decide) (fun h => absurd (by decide) h) (fun _ => ?_)
      rw [if_pos a2] at h1
      refine x_bipush (v := -7) dW_send_23 rfl ?_
      -- at 25: .ireturn
      refine x_ireturn dW_send_25 rfl rfl ?_
      exact h1 I (fun _ _ => rfl) rfl
  · have a1 : ¬ inR p 0 (cE I 29 1 - 1) := a1
    refine x_if_ne (tgt := 14) dW_send_8 (by decide) (fun h => absurd (by decide) h) (fun _ => ?_)
    rw [sendS, if_pos a1] at h1
    refine x_bipush (v := -5) dW_send_11 rfl ?_
    -- at 13: .ireturn
    refine x_ireturn dW_send_13 rfl rfl ?_
    exact h1 I (fun _ _ => rfl) rfl
end
section
-- 42.wa
/-! the class's calls: movesAway, rest -/
theorem Inv_mv {E : IM} (h : Inv E) (p : Nat) {u : Nat} (hu : u < 6) : Inv (up2 E 9 p (nI u)) := by
  have e : ∀ a, a ≠ 9 → up2 E 9 p (nI u) a = E a := fun a ha => up2_n _ _ _ ha
  have e9 : ∀ x, up2 E 9 p (nI u) 9 x = E 9 x ∨ up2 E 9 p (nI u) 9 x = nI u := fun x => by
    rw [up2_s]
    unfold up1
    by_cases z : x = p <;> simp [z]
  generalize up2 E 9 p (nI u) = E' at e e9 ⊢
  obtain ⟨⟨a1, a2, a3⟩, h2, h3, h4, h5, h6, h7, h8⟩ := h
  have pn : pN E' = pN E := by unfold pN; rw [e 29 (by decide)]
  have qn : qN E' = qN E := by unfold qN; rw [e 29 (by decide)]
  have sn' : sN E' = sN E := by unfold sN; rw [e 29 (by decide)]
  have tn' : tN E' = tN E := by unfold tN; rw [e 29 (by decide)]
  have wn : wN E' = wN E := by unfold wN; rw [e 29 (by decide)]
  have zn : zN E' = zN E := by unfold zN; rw [e 29 (by decide)]
  have sa : sA E' = sA E := by funext t j; unfold sA; rw [e 30 (by decide)]
  have sg : seg E' = seg E := by funext t a b; unfold seg; rw [e 31 (by decide)]
  have tx : TextOk E' = TextOk E := by funext t; unfold TextOk; rw [sa, sg, e 30 (by decide)]
  have pq : PromiseOk E' = PromiseOk E := by funext q; unfold PromiseOk; rw [e 10 (by decide), e 11 (by decide), e 12 (by decide), e 13 (by decide)]
  unfold Inv
  rw [pn, qn, sn', tn', wn, zn, tx, pq, e 29 (by decide), e 0 (by decide), e 1 (by decide), e 19 (by decide), e 20 (by decide), e 14 (by decide), e 15 (by decide), e 16 (by decide), e 17 (by decide), e 18 (by decide), e 21 (by decide), e 22 (by decide), e 23 (by decide), e 24 (by decide), e 25 (by decide), e 26 (by decide), e 27 (by decide)]
  refine ⟨⟨a1, a2, fun x hx => ?_⟩, h2, h3, h4, h5, h6, h7, h8⟩
  obtain ⟨x1, x2, x3, x4, x5, x6, x7, x8⟩ := a3 x hx
  unfold PersonOk
  rw [e 2 (by decide), e 3 (by decide), e 4 (by decide), e 5 (by decide), e 6 (by decide), e 7 (by decide), e 8 (by decide)]
  refine ⟨x1, x2, x3, x4, x5, x6, x7, ?_⟩
  rcases e9 x with z | z
  · rw [z]; exact x8
  · rw [z]; exact Or.inr ⟨u, hu, rfl⟩
theorem start_nat {E : IM} (h : Inv E) {p : Nat} (hp : p < pN E) : ∃ b, b < 6 ∧ startV E p = nI b := by
  obtain ⟨⟨a1, a2, a3⟩, -⟩ := h
  obtain ⟨x1, x2, x3, x4, x5, x6, x7, x8⟩ := a3 p hp
  unfold startV
  split
  · exact x2
  · rcases x8 with z | z
    · contradiction
    · exact z
def goE (E : IM) (p : Nat) : Nat := leR (totE E p) 5
abbrev goB (E : IM) (p : Nat) : Prop := totE E p (goE E p) < totE E p (cl (startV E p))
def goU (E : IM) (p : Nat) : IM := up2 E 9 p (nI (goE E p))
def sp_W_movesAway : SpT := fun as S I L Post => ∃ p : Nat, as = [.ref 0, .int (nI p)] ∧ S = S1 ∧ cOk I ∧ p < pN (cE I) ∧
  (goB (cE I) p → ∀ I' : IM, (∀ k, 59 ≤ k → I' k = I k) → cE I' = goU (cE I) p → Post (some (.int 1)) S1 I' L) ∧
  (¬ goB (cE I) p → ∀ I' : IM, (∀ k, 59 ≤ k → I' k = I k) → cE I' = cE I → Post (some (.int 0)) S1 I' L)
set_option maxHeartbeats 4000000 in
set_option maxRecDepth 100000 in
theorem c_W_movesAway : Con mW_movesAway 7 0 0 sp_W_movesAway := by
  refine con_of_X rfl fun G as S I L Post hs => ?_
  obtain ⟨p, rfl, rfl, hok, hp, h1, h2⟩ := hs
  refine ⟨1, Nat.le_of_ble_eq_true rfl, ?_⟩
  show X mW_movesAway G _ S1 I L 0 [.ref 0, .int (nI p), .null] [] Post
  obtain ⟨c1, c2, -⟩ := hok.ppl
  obtain ⟨l1, l2⟩ := hok.law
  obtain ⟨b, hb, eb⟩ := start_nat hok hp
  refine x_aload_n dW_movesAway_0 rfl ?_
  refine x_getR fl_W_56 rfl dW_movesAway_1 rfl rfl rfl ?_
  refine x_aload_n dW_movesAway_4 rfl ?_
  refine x_getR fl_W_47 rfl dW_movesAway_5 rfl rfl rfl ?_
  refine x_getI fl_W_127 rfl dW_movesAway_8 rfl rfl ?_
  -- at 11: .invokevirtual 205
  rw [l1]
  refine x_callV_1 cE_listen ok_Ledger_listen ml_W_205 dW_movesAway_11 rfl rfl rfl rfl rfl ?_
  refine ⟨_, rfl, rfl, hok, l2, fun I1 hF1 hl hh _ => ?_⟩
  refine x_aload_n dW_movesAway_14 rfl ?_
  refine x_getR fl_W_56 rfl dW_movesAway_15 rfl rfl rfl ?_
  refine x_iload_n dW_movesAway_18 rfl ?_
  -- at 19: .invokevirtual 271
  refine x_callV_1 cE_tryPlaces ok_Ledger_tryPlaces ml_W_271 dW_movesAway_19 rfl rfl rfl rfl rfl ?_
  refine ⟨p, I, rfl, rfl, hok, hp, hF1, hl, hh, fun I2 hF2 ht => ?_⟩
  have hle : goE (cE I) p ≤ 5 := leR_le (totE (cE I) p) 5
  refine x_aload_n dW_movesAway_22 rfl ?_
  refine x_getR fl_W_56 rfl dW_movesAway_23 rfl rfl rfl ?_
  refine x_getR fl_W_274 rfl dW_movesAway_26 rfl rfl rfl ?_
  -- at 29: .invokestatic 277
  refine x_callS_1 c_W_leastOf ok_W_leastOf ml_W_277 dW_movesAway_29 rfl rfl ?_
  refine ⟨rfl, rfl, ?_⟩
  rw [leR_congr (g := totE (cE I) p) 5 (fun u hu => ht u (by omega))]
  refine x_istoren_2 dW_movesAway_32 rfl rfl ?_
  refine x_aload_n dW_movesAway_33 rfl ?_
  refine x_getR fl_W_56 rfl dW_movesAway_34 rfl rfl rfl ?_
  refine x_getR fl_W_274 rfl dW_movesAway_37 rfl rfl rfl ?_
  refine x_iload_n dW_movesAway_40 rfl ?_
  refine x_ialdJ (j := goE (cE I) p) dW_movesAway_41 rfl rfl (by first | rfl | (simp only [← nI_add, ← pk_mul]; rfl)) (by omega) ?_
  refine x_aload_n dW_movesAway_42 rfl ?_
  refine x_getR fl_W_56 rfl dW_movesAway_43 rfl rfl rfl ?_
  refine x_getR fl_W_274 rfl dW_movesAway_46 rfl rfl rfl ?_
  refine x_aload_n dW_movesAway_49 rfl ?_
  refine x_getR fl_W_19 rfl dW_movesAway_50 rfl rfl rfl ?_
  refine x_iload_n dW_movesAway_53 rfl ?_
  -- at 54: .invokevirtual 361
  rw [ht _ (by omega)]
  refine x_callV_1 c_Folk_startOf ok_Folk_startOf ml_W_361 dW_movesAway_54 rfl rfl rfl rfl rfl ?_
  refine ⟨p, rfl, rfl, by omega, ?_⟩
  have es : cStart I2 p = nI b := by
    rw [← eb]
    unfold cStart startV
    rw [hF2 12 (by decide), hF2 6 (by decide), show cE I 9 p = I 12 p from mk_lt hp]
    rfl
  rw [es]
  refine x_ialdJ (j := b) dW_movesAway_57 rfl rfl (by first | rfl | (simp only [← nI_add, ← pk_mul]; rfl)) (by omega) ?_
  -- at 58: .if_icmp .lt 5
  rw [ht b hb]
  have eg : goB (cE I) p ↔ totE (cE I) p (goE (cE I) p) < totE (cE I) p b := by
    unfold goB
    rw [eb, cl_nI (by omega)]
  refine x_icmp_lt (tgt := 63) dW_movesAway_58 (by decide) (fun d1 => ?_) (fun d1 => ?_)
  · refine x_aload_n dW_movesAway_63 rfl ?_
    refine x_getR fl_W_19 rfl dW_movesAway_64 rfl rfl rfl ?_
    refine x_getR fl_W_146 rfl dW_movesAway_67 rfl rfl rfl ?_
    refine x_iload_n dW_movesAway_70 rfl ?_
    refine x_iload_n dW_movesAway_71 rfl ?_
    refine x_iastJ (j := p) dW_movesAway_72 rfl rfl (by first | rfl | (simp only [← nI_add, ← pk_mul]; rfl)) (by omega) ?_
    refine x_iconst (v := 1) dW_movesAway_73 rfl ?_
    -- at 74: .ireturn
    refine x_ireturn dW_movesAway_74 rfl rfl ?_
    refine h1 (eg.mpr d1) _ (fun k hk => ?_) ?_
    · rw [up2_n _ _ _ (by omega)]
      exact bstay hF2 k hk
    · rw [cE_u9 I2 _ (by rw [hF2 4 (by decide)]; exact hp), cE_b hF2]
      rfl
  · refine x_iconst (v := 0) dW_movesAway_61 rfl ?_
    -- at 62: .ireturn
    refine x_ireturn dW_movesAway_62 rfl rfl ?_
    exact h2 (fun z => d1 (eg.mp z)) I2 (bstay hF2) (cE_b hF2)
def rsI (K : Nat) (k p : Nat) (E : IM) (d : Nat) : IM × Nat := match k with
  | 0 => (E, d)
  | j + 1 => if d < K then (if goB E p then rsI K j (p + 1) (goU E p) (d + 1) else rsI K j (p + 1) E d) else (E, d)
def rsO (K : Nat) (k : Nat) (E : IM) (d : Nat) : IM × Nat := match k with
  | 0 => (E, d)
  | j + 1 => if (rsI K (pN E) 0 E d).2 = d then rsI K (pN E) 0 E d else rsO K j (rsI K (pN E) 0 E d).1 (rsI K (pN E) 0 E d).2
theorem rsI_le (K : Nat) : ∀ (k p : Nat) (E : IM) (d : Nat), d ≤ K → (rsI K k p E d).2 ≤ K := by
  intro k
  induction k with
  | zero => intro p E d h; exact h
  | succ j ih =>
    intro p E d h
    rw [rsI]
    split
    · split
      · exact ih _ _ _ (by omega)
      · exact ih _ _ _ h
    · exact h
theorem pN_go (E : IM) (p : Nat) : pN (goU E p) = pN E := by
  unfold pN goU
  rw [up2_n _ _ _ (by decide)]
theorem rsI_pN (K : Nat) : ∀ (k p : Nat) (E : IM) (d : Nat), pN (rsI K k p E d).1 = pN E := by
  intro k
  induction k with
  | zero => intro p E d; rfl
  | succ j ih =>
    intro p E d
    rw [rsI]
    split
    · split
      · rw [ih, pN_go]
      · rw [ih]
    · rfl
def restF (E : IM) (k : Int32) : IM × Nat := rsO (cl k) 7 E 0
def restS (E : IM) (k : Int32) : Int32 := if ¬ inR k 0 6 then -2 else nI (restF E k).2
def restU (E : IM) (k : Int32) : IM := if ¬ inR k 0 6 then E else (restF E k).1
def sp_W_rest : SpT := fun as S I L Post => ∃ k : Int32, cSp [.int k] (fun E => .int (restS E k)) (fun E => restU E k) as S I L Post
set_option maxHeartbeats 4000000 in
set_option maxRecDepth 100000 in
theorem c_W_rest : Con mW_rest 8 0 0 sp_W_rest := by
  refine con_of_X rfl fun G as S I0 L Post hs => ?_
  obtain ⟨k, rfl, rfl, hok, h1⟩ := hs
  dsimp only at h1
  refine ⟨4, Nat.le_of_ble_eq_true rfl, ?_⟩
  show X mW_rest G _ S1 I0 L 0 [.ref 0, .int k, .null, .null, .null, .null] [] Post
  refine x_iload_n dW_rest_0 rfl ?_
  refine x_iconst (v := 0) dW_rest_1 rfl ?_
  refine x_bipush (v := 6) dW_rest_2 rfl ?_
  -- at 4: .invokestatic 101
  refine x_callS_3 c_W_within ok_W_within ml_W_101 dW_rest_4 rfl rfl ?_
  refine ⟨_, _, _, rfl, fun a1 => ?_, fun a1 => ?_⟩
  · have a1 : inR k 0 6 := a1
    refine x_if_ne (tgt := 13) dW_rest_7 (by decide) (fun _ => ?_) (fun h => absurd h (by decide))
    rw [restS, restU, if_neg (not_not_intro a1), if_neg (not_not_intro a1)] at h1
    obtain ⟨K, hK, rfl⟩ := inR_of (n := 6) (by decide) a1
    rw [restF, cl_nI (by omega)] at h1
    refine x_iconst (v := 0) dW_rest_13 rfl ?_
    refine x_istoren_2 dW_rest_14 rfl rfl ?_
    refine x_iconst (v := 0) dW_rest_15 rfl ?_
    refine x_istoren_3 dW_rest_16 rfl rfl ?_
    -- at 17: .iload_n 3
    have inner : ∀ (j p d : Nat) (I : IM) (r a4 : Int32), cOk I → (∀ k, 59 ≤ k → I k = I0 k) → p + j = pN (cE I) → d ≤ K →
        (∀ (I' : IM) (a5 : Value), cOk I' → (∀ k, 59 ≤ k → I' k = I0 k) → cE I' = (rsI K j p (cE I) d).1 → X mW_rest G (8, 0, 0) S1 I' L 64 [.ref 0, .int (nI K), .int (nI (rsI K j p (cE I) d).2), .int r, .int a4, a5] [] Post) →
        X mW_rest G (8, 0, 0) S1 I L 29 [.ref 0, .int (nI K), .int (nI d), .int r, .int a4, .int (nI p)] [] Post := by
      intro j
      induction j with
      | zero =>
        intro p d I r a4 ok st hp hd hc
        obtain rfl : p = pN (cE I) := by omega
        obtain ⟨c1, c2, -⟩ := ok.ppl
        refine x_iload dW_rest_29 rfl ?_
        refine x_aload_n dW_rest_31 rfl ?_
        refine x_getR fl_W_19 rfl dW_rest_32 rfl rfl rfl ?_
        refine x_getI fl_W_121 rfl dW_rest_35 rfl rfl ?_
        -- at 38: .if_icmp .ge 26
        rw [c1]
        refine x_icmp_ge (tgt := 64) dW_rest_38 (by decide) (fun _ => ?_) (fun h => absurd (Int32.le_refl _) h)
        exact hc I _ ok st rfl
      | succ j ih =>
        intro p d I r a4 ok st hp hd hc
        obtain ⟨c1, c2, -⟩ := ok.ppl
        refine x_iload dW_rest_29 rfl ?_
        refine x_aload_n dW_rest_31 rfl ?_
        refine x_getR fl_W_19 rfl dW_rest_32 rfl rfl rfl ?_
        refine x_getI fl_W_121 rfl dW_rest_35 rfl rfl ?_
        -- at 38: .if_icmp .ge 26
        rw [c1]
        refine x_icmp_ge (tgt := 64) dW_rest_38 (by decide) (fun h => absurd h (nI_ge (b := pN (cE I)) (by omega) (by omega))) (fun _ => ?_)
        refine x_iload_n dW_rest_41 rfl ?_
        refine x_iload_n dW_rest_42 rfl ?_
        -- at 43: .if_icmp .ge 21
        rw [rsI] at hc
        by_cases hdK : d < K
        · rw [if_pos hdK] at hc
          refine x_icmp_ge (tgt := 64) dW_rest_43 (by decide) (fun h => absurd h (nI_ge (b := K) (by omega) (by omega))) (fun _ => ?_)
          refine x_aload_n dW_rest_46 rfl ?_
          refine x_iload dW_rest_47 rfl ?_
          -- at 49: .invokevirtual 284
          refine x_callV_1 c_W_movesAway ok_W_movesAway ml_W_284 dW_rest_49 rfl rfl rfl rfl rfl ?_
          refine ⟨p, rfl, rfl, ok, by omega, fun g I' st' e' => ?_, fun g I' st' e' => ?_⟩
          · rw [if_pos g] at hc
            have ok' : cOk I' := by
              unfold cOk
              rw [e']
              exact Inv_mv ok p (Nat.lt_of_le_of_lt (leR_le _ 5) (by omega))
            refine x_if_eq (tgt := 58) dW_rest_52 (by decide) (fun h => absurd h (by decide)) (fun _ => ?_)
            refine x_iincp_2 dW_rest_55 rfl rfl ?_
            refine x_iincp_5 dW_rest_58 rfl rfl ?_
            refine x_goto (tgt := 29) dW_rest_61 (by decide) ?_
            -- at 29: .iload 5
            rw [nI_1, nI_1]
            refine ih (p + 1) (d + 1) I' r a4 ok' (fun k hk => (st' k hk).trans (st k hk)) (by rw [e', pN_go]; omega) (by omega) ?_
            rw [e']
            exact hc
          · rw [if_neg g] at hc
            have ok' : cOk I' := by
              unfold cOk
              rw [e']
              exact ok
            refine x_if_eq (tgt := 58) dW_rest_52 (by decide) (fun _ => ?_) (fun h => absurd (by decide) h)
            refine x_iincp_5 dW_rest_58 rfl rfl ?_
            refine x_goto (tgt := 29) dW_rest_61 (by decide) ?_
            -- at 29: .iload 5
            rw [nI_1]
            refine ih (p + 1) d I' r a4 ok' (fun k hk => (st' k hk).trans (st k hk)) (by rw [e']; omega) (by omega) ?_
            rw [e']
            exact hc
        · rw [if_neg hdK] at hc
          obtain rfl : d = K := by omega
          refine x_icmp_ge (tgt := 64) dW_rest_43 (by decide) (fun _ => ?_) (fun h => absurd (Int32.le_refl _) h)
          exact hc I _ ok st rfl
    have outer : ∀ (j r d : Nat) (I : IM) (a4 a5 : Value), cOk I → (∀ k, 59 ≤ k → I k = I0 k) → r + j = 7 → d ≤ K →
        (∀ I' : IM, (∀ k, 59 ≤ k → I' k = I0 k) → cE I' = (rsO K j (cE I) d).1 → Post (some (.int (nI (rsO K j (cE I) d).2))) S1 I' L) →
        X mW_rest G (8, 0, 0) S1 I L 17 [.ref 0, .int (nI K), .int (nI d), .int (nI r), a4, a5] [] Post := by
      intro j
      induction j with
      | zero =>
        intro r d I a4 a5 ok st hr hd hc
        obtain rfl : r = 7 := by omega
        refine x_iload_n dW_rest_17 rfl ?_
        refine x_bipush (v := 6) dW_rest_18 rfl ?_
        -- at 20: .if_icmp .gt 58
        refine x_icmp_gt (tgt := 78) dW_rest_20 (by decide) (fun _ => ?_) (fun h => absurd (show (6 : Int32) < nI 7 by decide) h)
        refine x_iload_n dW_rest_78 rfl ?_
        -- at 79: .ireturn
        refine x_ireturn dW_rest_79 rfl rfl ?_
        exact hc I st rfl
      | succ j ih =>
        intro r d I a4 a5 ok st hr hd hc
        refine x_iload_n dW_rest_17 rfl ?_
        refine x_bipush (v := 6) dW_rest_18 rfl ?_
        -- at 20: .if_icmp .gt 58
        refine x_icmp_gt (tgt := 78) dW_rest_20 (by decide) (fun h => absurd h (Int32.not_lt.mpr (nI_le (b := 6) (by omega) (by omega)))) (fun _ => ?_)
        refine x_iload_n dW_rest_23 rfl ?_
        refine x_istore_4 dW_rest_24 rfl rfl ?_
        refine x_iconst (v := 0) dW_rest_26 rfl ?_
        refine x_istore_5 dW_rest_27 rfl rfl ?_
        -- at 29: .iload 5
        have hz : (0 : Int32) = nI 0 := rfl
        rw [hz]
        refine inner (pN (cE I)) 0 d I _ _ ok st (by omega) hd fun I' b5 ok' st' e' => ?_
        have hle := rsI_le K (pN (cE I)) 0 (cE I) d hd
        rw [rsO] at hc
        refine x_iload_n dW_rest_64 rfl ?_
        refine x_iload dW_rest_65 rfl ?_
        -- at 67: .if_icmp .ne 5
        refine x_icmp_ne (tgt := 72) dW_rest_67 (by decide) (fun g => ?_) (fun g => ?_)
        · have g' : ¬ (rsI K (pN (cE I)) 0 (cE I) d).2 = d := fun z => g (by rw [z])
          rw [if_neg g'] at hc
          refine x_iincp_3 dW_rest_72 rfl rfl ?_
          refine x_goto (tgt := 17) dW_rest_75 (by decide) ?_
          -- at 17: .iload_n 3
          rw [nI_1]
          refine ih (r + 1) _ I' _ _ ok' st' (by omega) hle ?_
          rw [e']
          exact hc
        · have g' : (rsI K (pN (cE I)) 0 (cE I) d).2 = d := (nI_eq (by omega) (by omega)).mp g
          rw [if_pos g'] at hc
          refine x_iload_n dW_rest_70 rfl ?_
          -- at 71: .ireturn
          refine x_ireturn dW_rest_71 rfl rfl ?_
          exact hc I' st' e'
    exact outer 7 0 0 I0 _ _ hok (fun _ _ => rfl) (by omega) (by omega) h1
  · have a1 : ¬ inR k 0 6 := a1
    refine x_if_ne (tgt := 13) dW_rest_7 (by decide) (fun h => absurd (by decide) h) (fun _ => ?_)
    rw [restS, restU, if_pos a1, if_pos a1] at h1
    refine x_bipush (v := -2) dW_rest_10 rfl ?_
    -- at 12: .ireturn
    refine x_ireturn dW_rest_12 rfl rfl ?_
    exact h1 I0 (fun _ _ => rfl) rfl
end
section
-- 43.wb
/-! the class's calls: chance -/
theorem chan_eq {V E : IM} {n m : Nat} (h : VEq V E n m) (P : Nat → List Int32) {p : Nat} (hp : p < n) (q : Int32) : ∀ k, k ≤ m → chanS V (hearV V P) p q k = chanS E (hearV E P) p q k := by
  intro k
  induction k with
  | zero => intro _; rw [chanS, chanS]
  | succ s ih =>
    intro hk
    rw [chanS, chanS, ih (by omega), (h.2.2 s (by omega)).1, hear_eq h P (by omega) hp]
def chanE (E : IM) (p q : Nat) : Int64 := 1000000 - chanS E (hearV E (PE E)) p (nI q) (sN E)
def chanceS (E : IM) (p q : Int32) : Int64 := if ¬ inR p 0 (E 29 1 - 1) ∨ ¬ inR q 0 (E 29 2 - 1) then -4611686018427387904 else chanE E (cl p) (cl q)
def spE_chanceOf : SpT := fun as S I L Post => ∃ (p q : Nat) (I0 : IM), as = [.ref 35, .int (nI p), .int (nI q)] ∧ S = S1 ∧ cOk I0 ∧ p < pN (cE I0) ∧ Fr kScr I0 I ∧ Hrd (cV I0) (PE (cE I0)) (pN (cE I0)) (sN (cE I0)) I ∧ Post (some (.long (chanE (cE I0) p q))) S1 I L
theorem cE_chanceOf : Con mLedger_chanceOf 2 0 0 spE_chanceOf := c_Ledger_chanceOf.imp fun as S I L Post hs => by
  obtain ⟨p, q, I0, rfl, rfl, hok, hp, hF, hh, h1⟩ := hs
  obtain ⟨b1, b2, b3⟩ := hok.say
  obtain ⟨c1, c2, c3⟩ := hok.ppl
  refine ⟨p, sN (cE I0), pN (cE I0), nI q, PE (cE I0), rfl, rfl, by rw [hF 18 (by decide)]; exact b1, b2, c2, hp, fun s hs x hx => ?_, ?_⟩
  · rw [cV_k hF]
    exact (hh s hs).1 x hx
  · rw [cV_k hF, chan_eq (cVE I0) _ hp _ _ (Nat.le_refl _)]
    exact h1
def sp_W_chance : SpT := fun as S I L Post => ∃ p q : Int32, cSp [.int p, .int q] (fun E => .long (chanceS E p q)) (fun E => E) as S I L Post
set_option maxHeartbeats 4000000 in
set_option maxRecDepth 100000 in
theorem c_W_chance : Con mW_chance 7 0 0 sp_W_chance := by
  refine con_of_X rfl fun G as S I L Post hs => ?_
  obtain ⟨p, q, rfl, rfl, hok, h1⟩ := hs
  dsimp only at h1
  refine ⟨0, Nat.le_of_ble_eq_true rfl, ?_⟩
  show X mW_chance G _ S1 I L 0 [.ref 0, .int p, .int q] [] Post
  obtain ⟨v1, v2, -⟩ := hok.vow
  obtain ⟨c1, c2, -⟩ := hok.ppl
  obtain ⟨l1, l2⟩ := hok.law
  have bad : (¬ inR p 0 (cE I 29 1 - 1) ∨ ¬ inR q 0 (cE I 29 2 - 1)) → X mW_chance G (7, 0, 0) S1 I L 22 [.ref 0, .int p, .int q] [] Post := by
    intro hc
    rw [chanceS, if_pos hc] at h1
    refine x_ldc2 dW_chance_22 cn_W_287 ?_
    -- at 25: .lreturn
    refine x_lreturn dW_chance_25 rfl ?_
    exact h1 I (fun _ _ => rfl) rfl
  refine x_aload_n dW_chance_0 rfl ?_
  refine x_getR fl_W_19 rfl dW_chance_1 rfl rfl rfl ?_
  refine x_iload_n dW_chance_4 rfl ?_
  -- at 5: .invokevirtual 143
  refine x_callV_1 c_Folk_has ok_Folk_has ml_W_143 dW_chance_5 rfl rfl rfl rfl rfl ?_
  refine ⟨_, rfl, rfl, fun a1 => ?_, fun a1 => ?_⟩
  · refine x_if_eq (tgt := 22) dW_chance_8 (by decide) (fun h => absurd h (by decide)) (fun _ => ?_)
    refine x_aload_n dW_chance_11 rfl ?_
    refine x_getR fl_W_26 rfl dW_chance_12 rfl rfl rfl ?_
    refine x_iload_n dW_chance_15 rfl ?_
    -- at 16: .invokevirtual 174
    refine x_callV_1 c_Vows_has ok_Vows_has ml_W_174 dW_chance_16 rfl rfl rfl rfl rfl ?_
    refine ⟨_, rfl, rfl, fun a2 => ?_, fun a2 => ?_⟩
    · refine x_if_ne (tgt := 26) dW_chance_19 (by decide) (fun _ => ?_) (fun h => absurd h (by decide))
      have a1 : inR p 0 (cE I 29 1 - 1) := a1
      have a2 : inR q 0 (cE I 29 2 - 1) := a2
      rw [chanceS, if_neg (fun z => z.elim (fun y => y a1) (fun y => y a2))] at h1
      rw [show cE I 29 1 = nI (pN (cE I)) from c1] at a1
      rw [show cE I 29 2 = nI (qN (cE I)) from v1] at a2
      obtain ⟨i, hi, rfl⟩ := has_nat (by omega) a1
      obtain ⟨j, hj, rfl⟩ := has_nat (by omega) a2
      rw [cl_nI (by omega), cl_nI (by omega)] at h1
      refine x_aload_n dW_chance_26 rfl ?_
      refine x_getR fl_W_56 rfl dW_chance_27 rfl rfl rfl ?_
      refine x_aload_n dW_chance_30 rfl ?_
      refine x_getR fl_W_47 rfl dW_chance_31 rfl rfl rfl ?_
      refine x_getI fl_W_127 rfl dW_chance_34 rfl rfl ?_
      -- at 37: .invokevirtual 205
      rw [l1]
      refine x_callV_1 cE_listen ok_Ledger_listen ml_W_205 dW_chance_37 rfl rfl rfl rfl rfl ?_
      refine ⟨_, rfl, rfl, hok, l2, fun I' hF _ hh _ => ?_⟩
      refine x_aload_n dW_chance_40 rfl ?_
      refine x_getR fl_W_56 rfl dW_chance_41 rfl rfl rfl ?_
      refine x_iload_n dW_chance_44 rfl ?_
      refine x_iload_n dW_chance_45 rfl ?_
      -- at 46: .invokevirtual 289
      refine x_callV_2 cE_chanceOf ok_Ledger_chanceOf ml_W_289 dW_chance_46 rfl rfl rfl rfl rfl ?_
      refine ⟨i, j, I, rfl, rfl, hok, hi, hF, hh, ?_⟩
      refine x_lreturn dW_chance_49 rfl ?_
      exact h1 I' (kstay hF) (cE_k hF)
    · refine x_if_ne (tgt := 26) dW_chance_19 (by decide) (fun h => absurd (by decide) h) (fun _ => ?_)
      exact bad (Or.inr a2)
  · refine x_if_eq (tgt := 22) dW_chance_8 (by decide) (fun _ => ?_) (fun h => absurd (by decide) h)
    exact bad (Or.inl a1)
def lostR (E : IM) (q : Nat) (k : Nat) : Int64 := match k with
  | 0 => 1000000
  | p + 1 => if canV E p q = true ∧ ¬ E 2 p = 4 then lostR E q p * (1000000 - chanE E p q) / 1000000 else lostR E q p
def lostS (E : IM) (q : Int32) : Int64 := if ¬ inR q 0 (E 29 2 - 1) then -4611686018427387904 else lostR E (cl q) (pN E)
def sp_W_lost : SpT := fun as S I L Post => ∃ q : Int32, cSp [.int q] (fun E => .long (lostS E q)) (fun E => E) as S I L Post
set_option maxHeartbeats 4000000 in
set_option maxRecDepth 100000 in
theorem c_W_lost : Con mW_lost 7 0 0 sp_W_lost := by
  refine con_of_X rfl fun G as S I L Post hs => ?_
  obtain ⟨q, rfl, rfl, hok, h1⟩ := hs
  dsimp only at h1
  refine ⟨3, Nat.le_of_ble_eq_true rfl, ?_⟩
  show X mW_lost G _ S1 I L 0 [.ref 0, .int q, .null, .null, .null] [] Post
  obtain ⟨v1, v2, -⟩ := hok.vow
  obtain ⟨c1, c2, -⟩ := hok.ppl
  obtain ⟨l1, l2⟩ := hok.law
  refine x_aload_n dW_lost_0 rfl ?_
  refine x_getR fl_W_26 rfl dW_lost_1 rfl rfl rfl ?_
  refine x_iload_n dW_lost_4 rfl ?_
  -- at 5: .invokevirtual 174
  refine x_callV_1 c_Vows_has ok_Vows_has ml_W_174 dW_lost_5 rfl rfl rfl rfl rfl ?_
  refine ⟨_, rfl, rfl, fun a1 => ?_, fun a1 => ?_⟩
  · refine x_if_ne (tgt := 15) dW_lost_8 (by decide) (fun _ => ?_) (fun h => absurd h (by decide))
    have a1 : inR q 0 (cE I 29 2 - 1) := a1
    rw [lostS, if_neg (not_not_intro a1)] at h1
    rw [show cE I 29 2 = nI (qN (cE I)) from v1] at a1
    obtain ⟨j, hj, rfl⟩ := has_nat (by omega) a1
    rw [cl_nI (by omega)] at h1
    refine x_aload_n dW_lost_15 rfl ?_
    refine x_getR fl_W_56 rfl dW_lost_16 rfl rfl rfl ?_
    refine x_aload_n dW_lost_19 rfl ?_
    refine x_getR fl_W_47 rfl dW_lost_20 rfl rfl rfl ?_
    refine x_getI fl_W_127 rfl dW_lost_23 rfl rfl ?_
    -- at 26: .invokevirtual 205
    rw [l1]
    refine x_callV_1 cE_listen ok_Ledger_listen ml_W_205 dW_lost_26 rfl rfl rfl rfl rfl ?_
    refine ⟨_, rfl, rfl, hok, l2, fun I' hF _ hh _ => ?_⟩
    refine x_ldc2 dW_lost_29 cn_W_293 ?_
    refine x_lstoren_2 dW_lost_32 rfl rfl ?_
    refine x_iconst (v := 0) dW_lost_33 rfl ?_
    refine x_istore_4 dW_lost_34 rfl rfl ?_
    -- at 36: .iload 4
    have loop : ∀ (k i : Nat) (acc : Int64), i + k = pN (cE I) → acc = lostR (cE I) j i → X mW_lost G (7, 0, 0) S1 I' L 36 [.ref 0, .int (nI j), .long acc, .null, .int (nI i)] [] Post := by
      intro k
      induction k with
      | zero =>
        intro i acc hi ha
        obtain rfl : i = pN (cE I) := by omega
        refine x_iload dW_lost_36 rfl ?_
        refine x_aload_n dW_lost_38 rfl ?_
        refine x_getR fl_W_19 rfl dW_lost_39 rfl rfl rfl ?_
        refine x_getI fl_W_121 rfl dW_lost_42 rfl rfl ?_
        -- at 45: .if_icmp .ge 63
        rw [hF 4 (by decide), c1]
        refine x_icmp_ge (tgt := 108) dW_lost_45 (by decide) (fun _ => ?_) (fun h => absurd (Int32.le_refl _) h)
        refine x_lload_n dW_lost_108 rfl ?_
        -- at 109: .lreturn
        refine x_lreturn dW_lost_109 rfl ?_
        rw [ha]
        exact h1 I' (kstay hF) (cE_k hF)
      | succ k ih =>
        intro i acc hi ha
        refine x_iload dW_lost_36 rfl ?_
        refine x_aload_n dW_lost_38 rfl ?_
        refine x_getR fl_W_19 rfl dW_lost_39 rfl rfl rfl ?_
        refine x_getI fl_W_121 rfl dW_lost_42 rfl rfl ?_
        -- at 45: .if_icmp .ge 63
        rw [hF 4 (by decide), c1]
        refine x_icmp_ge (tgt := 108) dW_lost_45 (by decide) (fun h => absurd h (nI_ge (b := pN (cE I)) (by omega) (by omega))) (fun _ => ?_)
        refine x_aload_n dW_lost_48 rfl ?_
        refine x_getR fl_W_19 rfl dW_lost_49 rfl rfl rfl ?_
        refine x_iload dW_lost_52 rfl ?_
        refine x_aload_n dW_lost_54 rfl ?_
        refine x_getR fl_W_26 rfl dW_lost_55 rfl rfl rfl ?_
        refine x_getR fl_W_175 rfl dW_lost_58 rfl rfl rfl ?_
        refine x_iload_n dW_lost_61 rfl ?_
        refine x_ialdJ (j := j) dW_lost_62 rfl rfl (by first | rfl | (simp only [← nI_add, ← pk_mul]; rfl)) (by omega) ?_
        -- at 63: .invokevirtual 295
        refine x_callV_2 c_Folk_canDo ok_Folk_canDo ml_W_295 dW_lost_63 rfl rfl rfl rfl rfl ?_
        refine ⟨i, _, rfl, rfl, by omega, fun hd => ?_, fun hd => ?_⟩
        · have e1 : canV (cE I) i j = true := by
            rw [hF 9 (by decide), hF 14 (by decide)] at hd
            exact decide_eq_true hd
          refine x_if_eq (tgt := 102) dW_lost_66 (by decide) (fun h => absurd h (by decide)) (fun _ => ?_)
          refine x_aload_n dW_lost_69 rfl ?_
          refine x_getR fl_W_19 rfl dW_lost_70 rfl rfl rfl ?_
          refine x_iload dW_lost_73 rfl ?_
          -- at 75: .invokevirtual 299
          refine x_callV_1 c_Folk_isBound ok_Folk_isBound ml_W_299 dW_lost_75 rfl rfl rfl rfl rfl ?_
          refine ⟨i, rfl, rfl, by omega, fun hb => ?_, fun hb => ?_⟩
          · rw [hF 5 (by decide)] at hb
            refine x_if_eq (tgt := 102) dW_lost_78 (by decide) (fun h => absurd h (by decide)) (fun _ => ?_)
            refine x_lload_n dW_lost_81 rfl ?_
            refine x_ldc2 dW_lost_82 cn_W_293 ?_
            refine x_aload_n dW_lost_85 rfl ?_
            refine x_getR fl_W_56 rfl dW_lost_86 rfl rfl rfl ?_
            refine x_iload dW_lost_89 rfl ?_
            refine x_iload_n dW_lost_91 rfl ?_
            -- at 92: .invokevirtual 289
            refine x_callV_2 cE_chanceOf ok_Ledger_chanceOf ml_W_289 dW_lost_92 rfl rfl rfl rfl rfl ?_
            refine ⟨i, j, I, rfl, rfl, hok, by omega, hF, hh, ?_⟩
            refine x_lsub dW_lost_95 ?_
            refine x_lmul dW_lost_96 ?_
            refine x_ldc2 dW_lost_97 cn_W_293 ?_
            refine x_ldiv dW_lost_100 (by decide) ?_
            refine x_lstoren_2 dW_lost_101 rfl rfl ?_
            refine x_iincp_4 dW_lost_102 rfl rfl ?_
            refine x_goto (tgt := 36) dW_lost_105 (by decide) ?_
            -- at 36: .iload 4
            rw [nI_1]
            refine ih (i + 1) _ (by omega) ?_
            rw [lostR, if_pos ⟨e1, hb⟩, ha]
          · rw [hF 5 (by decide)] at hb
            refine x_if_eq (tgt := 102) dW_lost_78 (by decide) (fun _ => ?_) (fun h => absurd (by decide) h)
            refine x_iincp_4 dW_lost_102 rfl rfl ?_
            refine x_goto (tgt := 36) dW_lost_105 (by decide) ?_
            -- at 36: .iload 4
            rw [nI_1]
            refine ih (i + 1) _ (by omega) ?_
            rw [lostR, if_neg (fun z => hb z.2), ha]
        · have e1 : ¬ canV (cE I) i j = true := by
            rw [hF 9 (by decide), hF 14 (by decide)] at hd
            exact fun z => hd (of_decide_eq_true z)
          refine x_if_eq (tgt := 102) dW_lost_66 (by decide) (fun _ => ?_) (fun h => absurd (by decide) h)
          refine x_iincp_4 dW_lost_102 rfl rfl ?_
          refine x_goto (tgt := 36) dW_lost_105 (by decide) ?_
          -- at 36: .iload 4
          rw [nI_1]
          refine ih (i + 1) _ (by omega) ?_
          rw [lostR, if_neg (fun z => e1 z.1), ha]
    exact loop (pN (cE I)) 0 _ (by omega) rfl
  · refine x_if_ne (tgt := 15) dW_lost_8 (by decide) (fun h => absurd (by decide) h) (fun _ => ?_)
    have a1 : ¬ inR q 0 (cE I 29 2 - 1) := a1
    rw [lostS, if_pos a1] at h1
    refine x_ldc2 dW_lost_11 cn_W_287 ?_
    -- at 14: .lreturn
    refine x_lreturn dW_lost_14 rfl ?_
    exact h1 I (fun _ _ => rfl) rfl
end
section
-- 44.wc
/-! the class's calls: laws, witness, alibi -/
def lawK (E : IM) (t : Nat) (w : Int32) : Int32 := outV E (prog E t) (pN E) (qN E) (RT E t) (TT E t) w
abbrev lwL (E : IM) (w : Int32) (t : Nat) (o : Int32 × Int32) : Prop := o.1 = -1 ∨ (w = 2 ∧ lawK E t w < o.2) ∨ (¬ w = 2 ∧ o.2 < lawK E t w)
def lwF (E : IM) (w : Int32) (k : Nat) : Int32 × Int32 := match k with
  | 0 => (-1, 0)
  | t + 1 => if lwL E w t (lwF E w t) then (nI t, lawK E t w) else lwF E w t
def allB (E : IM) : Int32 := (1 : Int32) <<< (E 29 2 &&& 31) - 1
def lwBit (E : IM) : Nat → Bool := fun t => decide (lawK E t 0 = allB E)
def lawsS (E : IM) (w : Int32) : Int32 := if ¬ inR w 0 2 then -2 else if w = 0 then bs (tN E) (lwBit E) else (lwF E w (tN E)).1
def sp_W_laws : SpT := fun as S I L Post => ∃ w : Int32, cSp [.int w] (fun E => .int (lawsS E w)) (fun E => E) as S I L Post
set_option maxHeartbeats 4000000 in
set_option maxRecDepth 100000 in
theorem c_W_laws : Con mW_laws 8 0 0 sp_W_laws := by
  refine con_of_X rfl fun G as S I0 L Post hs => ?_
  obtain ⟨w, rfl, rfl, hok, h1⟩ := hs
  dsimp only at h1
  refine ⟨6, Nat.le_of_ble_eq_true rfl, ?_⟩
  show X mW_laws G _ S1 I0 L 0 [.ref 0, .int w, .null, .null, .null, .null, .null, .null] [] Post
  obtain ⟨v1, v2, -⟩ := hok.vow
  have ht := hok.2.2.2.1
  refine x_iload_n dW_laws_0 rfl ?_
  refine x_iconst (v := 0) dW_laws_1 rfl ?_
  refine x_iconst (v := 2) dW_laws_2 rfl ?_
  -- at 3: .invokestatic 101
  refine x_callS_3 c_W_within ok_W_within ml_W_101 dW_laws_3 rfl rfl ?_
  refine ⟨_, _, _, rfl, fun a1 => ?_, fun a1 => ?_⟩
  · have a1 : inR w 0 2 := a1
    refine x_if_ne (tgt := 12) dW_laws_6 (by decide) (fun _ => ?_) (fun h => absurd h (by decide))
    rw [lawsS, if_neg (not_not_intro a1)] at h1
    refine x_iconst (v := 1) dW_laws_12 rfl ?_
    refine x_aload_n dW_laws_13 rfl ?_
    refine x_getR fl_W_26 rfl dW_laws_14 rfl rfl rfl ?_
    refine x_getI fl_W_124 rfl dW_laws_17 rfl rfl ?_
    refine x_ishl dW_laws_20 ?_
    refine x_iconst (v := 1) dW_laws_21 rfl ?_
    refine x_isub dW_laws_22 ?_
    refine x_istoren_2 dW_laws_23 rfl rfl ?_
    refine x_iconst (v := 0) dW_laws_24 rfl ?_
    refine x_istoren_3 dW_laws_25 rfl rfl ?_
    refine x_iconst (v := -1) dW_laws_26 rfl ?_
    refine x_istore_4 dW_laws_27 rfl rfl ?_
    refine x_iconst (v := 0) dW_laws_29 rfl ?_
    refine x_istore_5 dW_laws_30 rfl rfl ?_
    refine x_iconst (v := 0) dW_laws_32 rfl ?_
    refine x_istore_6 dW_laws_33 rfl rfl ?_
    -- at 35: .iload 6
    have loop : ∀ (k i : Nat) (I : IM) (bits fi le : Int32) (a7 : Value), i + k = tN (cE I0) → Fr kScr I0 I → (w = 0 → bits = bs i (lwBit (cE I0))) → (fi, le) = lwF (cE I0) w i →
        X mW_laws G (8, 0, 0) S1 I L 35 [.ref 0, .int w, .int (allB (cE I0)), .int bits, .int fi, .int le, .int (nI i), a7] [] Post := by
      intro k
      induction k with
      | zero =>
        intro i I bits fi le a7 hi hF hb hl
        obtain rfl : i = tN (cE I0) := by omega
        have et : I 30 2 = nI (tN (cE I0)) := by rw [hF 30 (by decide)]; exact ht.1
        refine x_iload dW_laws_35 rfl ?_
        refine x_aload_n dW_laws_37 rfl ?_
        refine x_getR fl_W_47 rfl dW_laws_38 rfl rfl rfl ?_
        refine x_getI fl_W_126 rfl dW_laws_41 rfl rfl ?_
        -- at 44: .if_icmp .ge 81
        rw [et]
        refine x_icmp_ge (tgt := 125) dW_laws_44 (by decide) (fun _ => ?_) (fun h => absurd (Int32.le_refl _) h)
        refine x_iload_n dW_laws_125 rfl ?_
        -- at 126: .ifCond .ne 7
        refine x_if_ne (tgt := 133) dW_laws_126 (by decide) (fun c3 => ?_) (fun c3 => ?_)
        · rw [if_neg c3, ← hl] at h1
          refine x_iload dW_laws_133 rfl ?_
          -- at 135: .ireturn
          refine x_ireturn dW_laws_135 rfl rfl ?_
          exact h1 I (kstay hF) (cE_k hF)
        · rw [if_pos c3, ← hb c3] at h1
          refine x_iload_n dW_laws_129 rfl ?_
          refine x_goto (tgt := 135) dW_laws_130 (by decide) ?_
          -- at 135: .ireturn
          refine x_ireturn dW_laws_135 rfl rfl ?_
          exact h1 I (kstay hF) (cE_k hF)
      | succ k ih =>
        intro i I bits fi le a7 hi hF hb hl
        have et : I 30 2 = nI (tN (cE I0)) := by rw [hF 30 (by decide)]; exact ht.1
        have h6 := ht.2.2.1
        have ok : cOk I := by unfold cOk; rw [cE_k hF]; exact hok
        refine x_iload dW_laws_35 rfl ?_
        refine x_aload_n dW_laws_37 rfl ?_
        refine x_getR fl_W_47 rfl dW_laws_38 rfl rfl rfl ?_
        refine x_getI fl_W_126 rfl dW_laws_41 rfl rfl ?_
        -- at 44: .if_icmp .ge 81
        rw [et]
        refine x_icmp_ge (tgt := 125) dW_laws_44 (by decide) (fun h => absurd h (nI_ge (b := tN (cE I0)) (by omega) (by omega))) (fun _ => ?_)
        refine x_aload_n dW_laws_47 rfl ?_
        refine x_getR fl_W_56 rfl dW_laws_48 rfl rfl rfl ?_
        refine x_iload dW_laws_51 rfl ?_
        -- at 53: .invokevirtual 213
        refine x_callV_1 cE_reckon ok_Ledger_reckon ml_W_213 dW_laws_53 rfl rfl rfl rfl rfl ?_
        refine ⟨i, rfl, rfl, ok, by rw [cE_k hF]; omega, fun I1 hF1 hl1 _ ho => ?_⟩
        rw [cE_k hF] at ho
        have hF01 : Fr kScr I0 I1 := hF.tr hF1
        refine x_aload_n dW_laws_56 rfl ?_
        refine x_getR fl_W_56 rfl dW_laws_57 rfl rfl rfl ?_
        refine x_iload_n dW_laws_60 rfl ?_
        -- at 61: .invokevirtual 238
        refine x_callV_1 c_Ledger_outcome ok_Ledger_outcome ml_W_238 dW_laws_61 rfl rfl rfl rfl rfl ?_
        refine ⟨_, qN (cE I0), i, w, RT (cE I0) i, prog (cE I0) i, rfl, rfl, ho.rows hok hF01, by rw [hF01 13 (by decide)]; exact v1, v2, hl1, (hok.txt (by omega)).fr (hF01 _ (by decide)) (hF01 _ (by decide)), fun I2 hF2 => ?_⟩
        rw [cV_k hF01, out_eq (cVE I0) (prog (cE I0) i) v2 (R' := RT (cE I0) i) (T' := TT (cE I0) i) (fun _ _ _ _ => rfl) (fun p hp => ho.tot hp)]
        refine x_eqi (y := lawK (cE I0) i w) rfl ?_
        have hF3 : Fr kScr I0 I2 := hF01.tr (hF2.wk (by decide))
        refine x_istore_7 dW_laws_64 rfl rfl ?_
        refine x_iload_n dW_laws_66 rfl ?_
        -- at 67: .ifCond .ne 16
        have next : ∀ bits' fi' le' : Int32, (w = 0 → bits' = bs (i + 1) (lwBit (cE I0))) → (fi', le') = lwF (cE I0) w (i + 1) →
            X mW_laws G (8, 0, 0) S1 I2 L 119 [.ref 0, .int w, .int (allB (cE I0)), .int bits', .int fi', .int le', .int (nI i), .int (lawK (cE I0) i w)] [] Post := by
          intro bits' fi' le' hb' hl'
          refine x_iincp_6 dW_laws_119 rfl rfl ?_
          refine x_goto (tgt := 35) dW_laws_122 (by decide) ?_
          -- at 35: .iload 6
          rw [nI_1]
          exact ih (i + 1) I2 bits' fi' le' _ (by omega) hF3 hb' hl'
        have mid : ∀ bits' : Int32, (w = 0 → bits' = bs (i + 1) (lwBit (cE I0))) →
            X mW_laws G (8, 0, 0) S1 I2 L 83 [.ref 0, .int w, .int (allB (cE I0)), .int bits', .int fi, .int le, .int (nI i), .int (lawK (cE I0) i w)] [] Post := by
          intro bits' hb'
          have take : lwL (cE I0) w i (fi, le) → X mW_laws G (8, 0, 0) S1 I2 L 111 [.ref 0, .int w, .int (allB (cE I0)), .int bits', .int fi, .int le, .int (nI i), .int (lawK (cE I0) i w)] [] Post := by
            intro hl'
            refine x_iload dW_laws_111 rfl ?_
            refine x_istore_4 dW_laws_113 rfl rfl ?_
            refine x_iload dW_laws_115 rfl ?_
            refine x_istore_5 dW_laws_117 rfl rfl ?_
            -- at 119: .iinc 6 1
            exact next _ _ _ hb' (by rw [lwF, ← hl, if_pos hl'])
          have skip : ¬ lwL (cE I0) w i (fi, le) → X mW_laws G (8, 0, 0) S1 I2 L 119 [.ref 0, .int w, .int (allB (cE I0)), .int bits', .int fi, .int le, .int (nI i), .int (lawK (cE I0) i w)] [] Post := fun z =>
            next _ _ _ hb' (by rw [lwF, ← hl, if_neg z])
          refine x_iload dW_laws_83 rfl ?_
          refine x_iconst (v := -1) dW_laws_85 rfl ?_
          -- at 86: .if_icmp .eq 25
          refine x_icmp_eq (tgt := 111) dW_laws_86 (by decide) (fun c4 => ?_) (fun c4 => ?_)
          · exact take (Or.inl c4)
          · refine x_iload_n dW_laws_89 rfl ?_
            refine x_iconst (v := 2) dW_laws_90 rfl ?_
            -- at 91: .if_icmp .ne 13
            refine x_icmp_ne (tgt := 104) dW_laws_91 (by decide) (fun c5 => ?_) (fun c5 => ?_)
            · refine x_iload dW_laws_104 rfl ?_
              refine x_iload dW_laws_106 rfl ?_
              -- at 108: .if_icmp .le 11
              refine x_icmp_le (tgt := 119) dW_laws_108 (by decide) (fun c6 => ?_) (fun c6 => ?_)
              · exact skip (fun z => z.elim c4 (fun y => y.elim (fun x => c5 x.1) (fun x => absurd x.2 (Int32.not_lt.mpr c6))))
              · exact take (Or.inr (Or.inr ⟨c5, Int32.not_le.mp c6⟩))
            · refine x_iload dW_laws_94 rfl ?_
              refine x_iload dW_laws_96 rfl ?_
              -- at 98: .if_icmp .ge 21
              refine x_icmp_ge (tgt := 119) dW_laws_98 (by decide) (fun c6 => ?_) (fun c6 => ?_)
              · exact skip (fun z => z.elim c4 (fun y => y.elim (fun x => absurd x.2 (Int32.not_lt.mpr c6)) (fun x => x.1 c5)))
              · refine x_goto (tgt := 111) dW_laws_101 (by decide) ?_
                -- at 111: .iload 6
                exact take (Or.inr (Or.inl ⟨c5, Int32.not_le.mp c6⟩))
        refine x_if_ne (tgt := 83) dW_laws_67 (by decide) (fun c3 => ?_) (fun c3 => ?_)
        · exact mid bits (fun z => absurd z c3)
        · refine x_iload dW_laws_70 rfl ?_
          refine x_iload_n dW_laws_72 rfl ?_
          -- at 73: .if_icmp .ne 10
          refine x_icmp_ne (tgt := 83) dW_laws_73 (by decide) (fun c7 => ?_) (fun c7 => ?_)
          · rw [c3] at c7
            exact mid bits (fun z => by rw [bs, lwBit, if_neg (by simpa using c7)]; exact hb z)
          · rw [c3] at c7
            refine x_iload_n dW_laws_76 rfl ?_
            refine x_iconst (v := 1) dW_laws_77 rfl ?_
            refine x_iload dW_laws_78 rfl ?_
            refine x_ishl dW_laws_80 ?_
            refine x_ior dW_laws_81 ?_
            refine x_istoren_3 dW_laws_82 rfl rfl ?_
            -- at 83: .iload 4
            refine mid _ (fun z => ?_)
            rw [bs, lwBit, if_pos (by simpa using c7), hb z]
            rfl
    exact loop (tN (cE I0)) 0 I0 0 (-1) 0 _ (by omega) (fun _ _ => rfl) (fun _ => rfl) rfl
  · have a1 : ¬ inR w 0 2 := a1
    refine x_if_ne (tgt := 12) dW_laws_6 (by decide) (fun h => absurd (by decide) h) (fun _ => ?_)
    rw [lawsS, if_pos a1] at h1
    refine x_bipush (v := -2) dW_laws_9 rfl ?_
    -- at 11: .ireturn
    refine x_ireturn dW_laws_11 rfl rfl ?_
    exact h1 I0 (fun _ _ => rfl) rfl
/-- what keeps a SHEET from telling -/
def wRef (E : IM) (s : Int32) : Int32 := if ¬ inR s 0 3 then -2 else if E 26 (cl s) = -1 then -11 else if E 27 (cl s) = E 29 3 then 0 else -2
/-- a call that answers 'bad', if that isn't 0, else anything, and the state stays -/
def wSp (args : List Value) (bad : IM → Int32) : SpT := fun as S I L Post => as = .ref 0 :: args ∧ S = S1 ∧ cOk I ∧ ∀ (v : Int32) (I' : IM), (∀ k, 59 ≤ k → I' k = I k) → cE I' = cE I → (¬ bad (cE I) = 0 → v = bad (cE I)) → Post (some (.int v)) S1 I' L
def sp_Sheets_isMissing : SpT := fun as S I L Post => ∃ s : Nat, as = [.ref 55, .int (nI s)] ∧ S = S1 ∧ s < 4 ∧ bPost (I 56 s = -1) S I L Post
set_option maxHeartbeats 4000000 in
set_option maxRecDepth 100000 in
theorem c_Sheets_isMissing : Con mSheets_isMissing 2 0 0 sp_Sheets_isMissing := by
  refine con_of_X rfl fun G as S I L Post hs => ?_
  obtain ⟨s, rfl, rfl, hs, h1, h2⟩ := hs
  refine ⟨0, Nat.le_of_ble_eq_true rfl, ?_⟩
  show X mSheets_isMissing G _ S1 I L 0 [.ref 55, .int (nI s)] [] Post
  refine x_aload_n dSheets_isMissing_0 rfl ?_
  refine x_getR fl_Sheets_9 rfl dSheets_isMissing_1 rfl rfl rfl ?_
  refine x_iload_n dSheets_isMissing_4 rfl ?_
  refine x_ialdJ dSheets_isMissing_5 rfl rfl rfl (by omega) ?_
  refine x_iconst (v := -1) dSheets_isMissing_6 rfl ?_
  -- at 7: .if_icmp .ne 7
  refine x_icmp_ne (tgt := 14) dSheets_isMissing_7 (by decide) (fun c1 => ?_) (fun c1 => ?_)
  · refine x_iconst (v := 0) dSheets_isMissing_14 rfl ?_
    -- at 15: .ireturn
    refine x_ireturn dSheets_isMissing_15 rfl rfl ?_
    exact h2 c1
  · refine x_iconst (v := 1) dSheets_isMissing_10 rfl ?_
    refine x_goto (tgt := 15) dSheets_isMissing_11 (by decide) ?_
    -- at 15: .ireturn
    refine x_ireturn dSheets_isMissing_15 rfl rfl ?_
    exact h1 c1
def sp_Sheets_bitsAt : SpT := fun as S I L Post => ∃ s i : Nat, as = [.ref 55, .int (nI s), .int (nI i)] ∧ S = S1 ∧ s < 4 ∧ i < 40 ∧ ∀ v : Int32, Post (some (.int v)) S1 I L
set_option maxHeartbeats 4000000 in
set_option maxRecDepth 100000 in
theorem c_Sheets_bitsAt : Con mSheets_bitsAt 2 0 0 sp_Sheets_bitsAt := by
  refine con_of_X rfl fun G as S I L Post hs => ?_
  obtain ⟨s, i, rfl, rfl, hs, hi, h1⟩ := hs
  refine ⟨1, Nat.le_of_ble_eq_true rfl, ?_⟩
  show X mSheets_bitsAt G _ S1 I L 0 [.ref 55, .int (nI s), .int (nI i), .null] [] Post
  refine x_aload_n dSheets_bitsAt_0 rfl ?_
  refine x_getR fl_Sheets_18 rfl dSheets_bitsAt_1 rfl rfl rfl ?_
  refine x_iload_n dSheets_bitsAt_4 rfl ?_
  refine x_bipush (v := 40) dSheets_bitsAt_5 rfl ?_
  refine x_imul dSheets_bitsAt_7 ?_
  refine x_iload_n dSheets_bitsAt_8 rfl ?_
  refine x_iadd dSheets_bitsAt_9 ?_
  refine x_ialdJ (j := s * 40 + i) dSheets_bitsAt_10 rfl rfl (by first | rfl | (simp only [← nI_add, ← pk_mul]; rfl)) (by omega) ?_
  refine x_istoren_3 dSheets_bitsAt_11 rfl rfl ?_
  refine x_aload_n dSheets_bitsAt_12 rfl ?_
  refine x_getR fl_Sheets_9 rfl dSheets_bitsAt_13 rfl rfl rfl ?_
  refine x_iload_n dSheets_bitsAt_16 rfl ?_
  refine x_ialdJ (j := s) dSheets_bitsAt_17 rfl rfl (by first | rfl | (simp only [← nI_add, ← pk_mul]; rfl)) (by omega) ?_
  -- at 18: .ifCond .ne 11
  refine x_if_ne (tgt := 29) dSheets_bitsAt_18 (by decide) (fun c1 => ?_) (fun c1 => ?_)
  · refine x_iload_n dSheets_bitsAt_29 rfl ?_
    -- at 30: .ireturn
    refine x_ireturn dSheets_bitsAt_30 rfl rfl ?_
    exact h1 _
  · refine x_iload_n dSheets_bitsAt_21 rfl ?_
    refine x_sipush (v := 255) dSheets_bitsAt_22 rfl ?_
    refine x_iand dSheets_bitsAt_25 ?_
    refine x_goto (tgt := 30) dSheets_bitsAt_26 (by decide) ?_
    -- at 30: .ireturn
    refine x_ireturn dSheets_bitsAt_30 rfl rfl ?_
    exact h1 _
def sp_W_firstHeardByOthers : SpT := fun as S I L Post => ∃ s m : Nat, as = [.ref 0, .int (nI s)] ∧ S = S1 ∧ s < 4 ∧ I 18 4 = nI m ∧ m ≤ 10 ∧ ∀ v : Int32, Post (some (.int v)) S1 I L
set_option maxHeartbeats 4000000 in
set_option maxRecDepth 100000 in
theorem c_W_firstHeardByOthers : Con mW_firstHeardByOthers 3 0 0 sp_W_firstHeardByOthers := by
  refine con_of_X rfl fun G as S I L Post hs => ?_
  obtain ⟨s, m, rfl, rfl, hs, hm, hm10, h1⟩ := hs
  refine ⟨1, Nat.le_of_ble_eq_true rfl, ?_⟩
  show X mW_firstHeardByOthers G _ S1 I L 0 [.ref 0, .int (nI s), .null] [] Post
  refine x_iconst (v := 0) dW_firstHeardByOthers_0 rfl ?_
  refine x_istoren_2 dW_firstHeardByOthers_1 rfl rfl ?_
  -- at 2: .iload_n 2
  have loop : ∀ (k i : Nat), i + k = m → X mW_firstHeardByOthers G (3, 0, 0) S1 I L 2 [.ref 0, .int (nI s), .int (nI i)] [] Post := by
    intro k
    induction k with
    | zero =>
      intro i hi
      obtain rfl : i = m := by omega
      refine x_iload_n dW_firstHeardByOthers_2 rfl ?_
      refine x_aload_n dW_firstHeardByOthers_3 rfl ?_
      refine x_getR fl_W_33 rfl dW_firstHeardByOthers_4 rfl rfl rfl ?_
      refine x_getI fl_W_125 rfl dW_firstHeardByOthers_7 rfl rfl ?_
      -- at 10: .if_icmp .ge 32
      rw [hm]
      refine x_icmp_ge (tgt := 42) dW_firstHeardByOthers_10 (by decide) (fun _ => ?_) (fun h => absurd (Int32.le_refl _) h)
      refine x_iconst (v := -1) dW_firstHeardByOthers_42 rfl ?_
      -- at 43: .ireturn
      refine x_ireturn dW_firstHeardByOthers_43 rfl rfl ?_
      exact h1 _
    | succ k ih =>
      intro i hi
      refine x_iload_n dW_firstHeardByOthers_2 rfl ?_
      refine x_aload_n dW_firstHeardByOthers_3 rfl ?_
      refine x_getR fl_W_33 rfl dW_firstHeardByOthers_4 rfl rfl rfl ?_
      refine x_getI fl_W_125 rfl dW_firstHeardByOthers_7 rfl rfl ?_
      -- at 10: .if_icmp .ge 32
      rw [hm]
      refine x_icmp_ge (tgt := 42) dW_firstHeardByOthers_10 (by decide) (fun h => absurd h (nI_ge (b := m) (by omega) (by omega))) (fun _ => ?_)
      refine x_aload_n dW_firstHeardByOthers_13 rfl ?_
      refine x_getR fl_W_56 rfl dW_firstHeardByOthers_14 rfl rfl rfl ?_
      refine x_getR fl_W_211 rfl dW_firstHeardByOthers_17 rfl rfl rfl ?_
      refine x_iload_n dW_firstHeardByOthers_20 rfl ?_
      refine x_ialdJ dW_firstHeardByOthers_21 rfl rfl rfl (by omega) ?_
      refine x_aload_n dW_firstHeardByOthers_22 rfl ?_
      refine x_getR fl_W_70 rfl dW_firstHeardByOthers_23 rfl rfl rfl ?_
      refine x_iload_n dW_firstHeardByOthers_26 rfl ?_
      refine x_iload_n dW_firstHeardByOthers_27 rfl ?_
      -- at 28: .invokevirtual 364
      refine x_callV_2 c_Sheets_bitsAt ok_Sheets_bitsAt ml_W_364 dW_firstHeardByOthers_28 rfl rfl rfl rfl rfl ?_
      refine ⟨s, i, rfl, rfl, hs, by omega, fun v => ?_⟩
      refine x_icmp_eq (tgt := 36) dW_firstHeardByOthers_31 (by decide) (fun c1 => ?_) (fun c1 => ?_)
      · refine x_iincp_2 dW_firstHeardByOthers_36 rfl rfl ?_
        refine x_goto (tgt := 2) dW_firstHeardByOthers_39 (by decide) ?_
        -- at 2: .iload_n 2
        rw [nI_1]
        exact ih (i + 1) (by omega)
      · refine x_iload_n dW_firstHeardByOthers_34 rfl ?_
        -- at 35: .ireturn
        refine x_ireturn dW_firstHeardByOthers_35 rfl rfl ?_
        exact h1 _
  exact loop m 0 (by omega)
def sp_W_witnessRefusal : SpT := fun as S I L Post => ∃ s : Int32, as = [.ref 0, .int s] ∧ S = S1 ∧ Post (some (.int (wRef (cE I) s))) S1 I L
set_option maxHeartbeats 4000000 in
set_option maxRecDepth 100000 in
theorem c_W_witnessRefusal : Con mW_witnessRefusal 3 0 0 sp_W_witnessRefusal := by
  refine con_of_X rfl fun G as S I L Post hs => ?_
  obtain ⟨s, rfl, rfl, h1⟩ := hs
  refine ⟨0, Nat.le_of_ble_eq_true rfl, ?_⟩
  show X mW_witnessRefusal G _ S1 I L 0 [.ref 0, .int s] [] Post
  refine x_iload_n dW_witnessRefusal_0 rfl ?_
  refine x_iconst (v := 0) dW_witnessRefusal_1 rfl ?_
  refine x_iconst (v := 3) dW_witnessRefusal_2 rfl ?_
  -- at 3: .invokestatic 101
  refine x_callS_3 c_W_within ok_W_within ml_W_101 dW_witnessRefusal_3 rfl rfl ?_
  refine ⟨_, _, _, rfl, fun a1 => ?_, fun a1 => ?_⟩
  · have a1 : inR s 0 3 := a1
    refine x_if_ne (tgt := 12) dW_witnessRefusal_6 (by decide) (fun _ => ?_) (fun h => absurd h (by decide))
    rw [wRef, if_neg (not_not_intro a1)] at h1
    obtain ⟨i, hi, rfl⟩ := inR_of (n := 3) (by decide) a1
    rw [cl_nI (by omega)] at h1
    refine x_aload_n dW_witnessRefusal_12 rfl ?_
    refine x_getR fl_W_70 rfl dW_witnessRefusal_13 rfl rfl rfl ?_
    refine x_iload_n dW_witnessRefusal_16 rfl ?_
    -- at 17: .invokevirtual 335
    refine x_callV_1 c_Sheets_isMissing ok_Sheets_isMissing ml_W_335 dW_witnessRefusal_17 rfl rfl rfl rfl rfl ?_
    refine ⟨i, rfl, rfl, by omega, fun a2 => ?_, fun a2 => ?_⟩
    · have a2 : cE I 26 i = -1 := a2
      refine x_if_eq (tgt := 26) dW_witnessRefusal_20 (by decide) (fun h => absurd h (by decide)) (fun _ => ?_)
      rw [if_pos a2] at h1
      refine x_bipush (v := -11) dW_witnessRefusal_23 rfl ?_
      -- at 25: .ireturn
      refine x_ireturn dW_witnessRefusal_25 rfl rfl ?_
      exact h1
    · have a2 : ¬ cE I 26 i = -1 := a2
      refine x_if_eq (tgt := 26) dW_witnessRefusal_20 (by decide) (fun _ => ?_) (fun h => absurd (by decide) h)
      rw [if_neg a2] at h1
      refine x_aload_n dW_witnessRefusal_26 rfl ?_
      refine x_getR fl_W_70 rfl dW_witnessRefusal_27 rfl rfl rfl ?_
      refine x_getR fl_W_338 rfl dW_witnessRefusal_30 rfl rfl rfl ?_
      refine x_iload_n dW_witnessRefusal_33 rfl ?_
      refine x_ialdJ dW_witnessRefusal_34 rfl rfl rfl (by omega) ?_
      refine x_aload_n dW_witnessRefusal_35 rfl ?_
      refine x_getR fl_W_33 rfl dW_witnessRefusal_36 rfl rfl rfl ?_
      refine x_getI fl_W_125 rfl dW_witnessRefusal_39 rfl rfl ?_
      -- at 42: .if_icmp .ne 7
      refine x_icmp_ne (tgt := 49) dW_witnessRefusal_42 (by decide) (fun c1 => ?_) (fun c1 => ?_)
      · have c1 : ¬ cE I 27 i = cE I 29 3 := c1
        rw [if_neg c1] at h1
        refine x_bipush (v := -2) dW_witnessRefusal_49 rfl ?_
        -- at 51: .ireturn
        refine x_ireturn dW_witnessRefusal_51 rfl rfl ?_
        exact h1
      · have c1 : cE I 27 i = cE I 29 3 := c1
        rw [if_pos c1] at h1
        refine x_iconst (v := 0) dW_witnessRefusal_45 rfl ?_
        refine x_goto (tgt := 51) dW_witnessRefusal_46 (by decide) ?_
        -- at 51: .ireturn
        refine x_ireturn dW_witnessRefusal_51 rfl rfl ?_
        exact h1
  · have a1 : ¬ inR s 0 3 := a1
    refine x_if_ne (tgt := 12) dW_witnessRefusal_6 (by decide) (fun h => absurd (by decide) h) (fun _ => ?_)
    rw [wRef, if_pos a1] at h1
    refine x_bipush (v := -2) dW_witnessRefusal_9 rfl ?_
    -- at 11: .ireturn
    refine x_ireturn dW_witnessRefusal_11 rfl rfl ?_
    exact h1
theorem wRef_0 {E : IM} {s : Int32} (h : wRef E s = 0) : ∃ i, i < 4 ∧ s = nI i := by
  unfold wRef at h
  by_cases a : inR s 0 3
  · obtain ⟨i, hi, e⟩ := inR_of (n := 3) (by decide) a
    exact ⟨i, by omega, e⟩
  · rw [if_pos a] at h
    exact absurd h (by decide)
def sp_W_witness : SpT := fun as S I L Post => ∃ s : Int32, wSp [.int s] (fun E => wRef E s) as S I L Post
set_option maxHeartbeats 4000000 in
set_option maxRecDepth 100000 in
theorem c_W_witness : Con mW_witness 7 0 0 sp_W_witness := by
  refine con_of_X rfl fun G as S I L Post hs => ?_
  obtain ⟨s, rfl, rfl, hok, h1⟩ := hs
  dsimp only at h1
  refine ⟨1, Nat.le_of_ble_eq_true rfl, ?_⟩
  show X mW_witness G _ S1 I L 0 [.ref 0, .int s, .null] [] Post
  obtain ⟨b1, b2, -⟩ := hok.say
  obtain ⟨l1, l2⟩ := hok.law
  refine x_aload_n dW_witness_0 rfl ?_
  refine x_iload_n dW_witness_1 rfl ?_
  -- at 2: .invokevirtual 302
  refine x_callV_1 c_W_witnessRefusal ok_W_witnessRefusal ml_W_302 dW_witness_2 rfl rfl rfl rfl rfl ?_
  refine ⟨s, rfl, rfl, ?_⟩
  refine x_istoren_2 dW_witness_5 rfl rfl ?_
  refine x_iload_n dW_witness_6 rfl ?_
  -- at 7: .ifCond .eq 5
  refine x_if_eq (tgt := 12) dW_witness_7 (by decide) (fun c1 => ?_) (fun c1 => ?_)
  · obtain ⟨i, hi, rfl⟩ := wRef_0 c1
    refine x_aload_n dW_witness_12 rfl ?_
    refine x_getR fl_W_56 rfl dW_witness_13 rfl rfl rfl ?_
    refine x_aload_n dW_witness_16 rfl ?_
    refine x_getR fl_W_47 rfl dW_witness_17 rfl rfl rfl ?_
    refine x_getI fl_W_127 rfl dW_witness_20 rfl rfl ?_
    -- at 23: .invokevirtual 205
    rw [l1]
    refine x_callV_1 cE_listen ok_Ledger_listen ml_W_205 dW_witness_23 rfl rfl rfl rfl rfl ?_
    refine ⟨_, rfl, rfl, hok, l2, fun I1 hF _ _ _ => ?_⟩
    refine x_aload_n dW_witness_26 rfl ?_
    refine x_iload_n dW_witness_27 rfl ?_
    -- at 28: .invokevirtual 305
    refine x_callV_1 c_W_firstHeardByOthers ok_W_firstHeardByOthers ml_W_305 dW_witness_28 rfl rfl rfl rfl rfl ?_
    refine ⟨i, sN (cE I), rfl, rfl, hi, by rw [hF 18 (by decide)]; exact b1, b2, fun v => ?_⟩
    refine x_ireturn dW_witness_31 rfl rfl ?_
    exact h1 v I1 (kstay hF) (cE_k hF) (fun z => absurd c1 z)
  · refine x_iload_n dW_witness_10 rfl ?_
    -- at 11: .ireturn
    refine x_ireturn dW_witness_11 rfl rfl ?_
    exact h1 _ I (fun _ _ => rfl) rfl (fun _ => rfl)
def alBad (E : IM) (p s : Int32) : Int32 := if ¬ inR p 0 (E 29 1 - 1) then -5 else wRef E s
def sp_W_alibi : SpT := fun as S I L Post => ∃ p s : Int32, wSp [.int p, .int s] (fun E => alBad E p s) as S I L Post
abbrev aScr : List Nat := [33, 34, 35, 36, 37]
set_option maxHeartbeats 4000000 in
set_option maxRecDepth 100000 in
theorem c_W_alibi : Con mW_alibi 7 0 0 sp_W_alibi := by
  refine con_of_X rfl fun G as S I L Post hs => ?_
  obtain ⟨p0, s0, rfl, rfl, hok, h1⟩ := hs
  dsimp only at h1
  refine ⟨4, Nat.le_of_ble_eq_true rfl, ?_⟩
  show X mW_alibi G _ S1 I L 0 [.ref 0, .int p0, .int s0, .null, .null, .null, .null] [] Post
  obtain ⟨b1, b2, hsv⟩ := hok.say
  have hpp := hok.ppl
  obtain ⟨c1, c2, -⟩ := hok.ppl
  obtain ⟨l1, l2⟩ := hok.law
  refine x_aload_n dW_alibi_0 rfl ?_
  refine x_getR fl_W_19 rfl dW_alibi_1 rfl rfl rfl ?_
  refine x_iload_n dW_alibi_4 rfl ?_
  -- at 5: .invokevirtual 143
  refine x_callV_1 c_Folk_has ok_Folk_has ml_W_143 dW_alibi_5 rfl rfl rfl rfl rfl ?_
  refine ⟨_, rfl, rfl, fun a1 => ?_, fun a1 => ?_⟩
  · have a1 : inR p0 0 (cE I 29 1 - 1) := a1
    refine x_if_ne (tgt := 14) dW_alibi_8 (by decide) (fun _ => ?_) (fun h => absurd h (by decide))
    rw [alBad, if_neg (not_not_intro a1)] at h1
    rw [show cE I 29 1 = nI (pN (cE I)) from c1] at a1
    obtain ⟨p, hp, rfl⟩ := has_nat (by omega) a1
    refine x_aload_n dW_alibi_14 rfl ?_
    refine x_iload_n dW_alibi_15 rfl ?_
    -- at 16: .invokevirtual 302
    refine x_callV_1 c_W_witnessRefusal ok_W_witnessRefusal ml_W_302 dW_alibi_16 rfl rfl rfl rfl rfl ?_
    refine ⟨s0, rfl, rfl, ?_⟩
    refine x_istoren_3 dW_alibi_19 rfl rfl ?_
    refine x_iload_n dW_alibi_20 rfl ?_
    -- at 21: .ifCond .eq 5
    refine x_if_eq (tgt := 26) dW_alibi_21 (by decide) (fun d1 => ?_) (fun d1 => ?_)
    · obtain ⟨s, hs, rfl⟩ := wRef_0 d1
      rw [d1] at h1
      rw [d1]
      refine x_aload_n dW_alibi_26 rfl ?_
      refine x_getR fl_W_56 rfl dW_alibi_27 rfl rfl rfl ?_
      refine x_aload_n dW_alibi_30 rfl ?_
      refine x_getR fl_W_47 rfl dW_alibi_31 rfl rfl rfl ?_
      refine x_getI fl_W_127 rfl dW_alibi_34 rfl rfl ?_
      -- at 37: .invokevirtual 205
      rw [l1]
      refine x_callV_1 cE_listen ok_Ledger_listen ml_W_205 dW_alibi_37 rfl rfl rfl rfl rfl ?_
      refine ⟨_, rfl, rfl, hok, l2, fun I0 hF0 hlw _ _ => ?_⟩
      have hF0' : Fr kScr I I0 := hF0
      refine x_aload_n dW_alibi_40 rfl ?_
      refine x_getR fl_W_19 rfl dW_alibi_41 rfl rfl rfl ?_
      refine x_getR fl_W_146 rfl dW_alibi_44 rfl rfl rfl ?_
      refine x_iload_n dW_alibi_47 rfl ?_
      refine x_ialdJ dW_alibi_48 rfl rfl rfl (by omega) ?_
      refine x_istore_4 dW_alibi_49 rfl rfl ?_
      refine x_iconst (v := 0) dW_alibi_51 rfl ?_
      refine x_istore_5 dW_alibi_52 rfl rfl ?_
      refine x_iconst (v := 0) dW_alibi_54 rfl ?_
      refine x_istore_6 dW_alibi_55 rfl rfl ?_
      -- at 57: .iload 6
      have e12 : I0 12 = I 12 := hF0 12 (by decide)
      have loop : ∀ (k i : Nat) (I' : IM) (bits : Int32), i + k = 6 → Fr (12 :: kScr) I I' → (∃ x, I' 12 = up1 (I 12) p x) → I' 35 5 = nI (wN (cE I)) →
          X mW_alibi G (7, 0, 0) S1 I' L 57 [.ref 0, .int (nI p), .int (nI s), .int 0, .int (I0 12 p), .int bits, .int (nI i)] [] Post := by
        intro k
        induction k with
        | zero =>
          intro i I' bits hi hF hx hl
          obtain rfl : i = 6 := by omega
          refine x_iload dW_alibi_57 rfl ?_
          refine x_bipush (v := 6) dW_alibi_59 rfl ?_
          -- at 61: .if_icmp .ge 46
          refine x_icmp_ge (tgt := 107) dW_alibi_61 (by decide) (fun _ => ?_) (fun h => absurd (by decide) h)
          refine x_aload_n dW_alibi_107 rfl ?_
          refine x_getR fl_W_19 rfl dW_alibi_108 rfl rfl rfl ?_
          refine x_getR fl_W_146 rfl dW_alibi_111 rfl rfl rfl ?_
          refine x_iload_n dW_alibi_114 rfl ?_
          refine x_iload dW_alibi_115 rfl ?_
          refine x_iastJ dW_alibi_117 rfl rfl rfl (by omega) ?_
          refine x_iload dW_alibi_118 rfl ?_
          -- at 120: .ireturn
          refine x_ireturn dW_alibi_120 rfl rfl ?_
          obtain ⟨x, hx⟩ := hx
          have hF2 : Fr kScr I (up2 I' 12 p (I0 12 p)) := fun j hj => by
            by_cases z : j = 12
            · subst z
              rw [up2_s, hx, e12]
              funext q
              by_cases y : q = p
              · subst y; simp [up1]
              · simp [up1, y]
            · rw [up2_n _ _ _ z]
              exact hF j (by simp [z]; simpa using hj)
          exact h1 _ _ (kstay hF2) (cE_k hF2) (fun z => absurd rfl z)
        | succ k ih =>
          intro i I' bits hi hF hx hl
          obtain ⟨x, hx⟩ := hx
          refine x_iload dW_alibi_57 rfl ?_
          refine x_bipush (v := 6) dW_alibi_59 rfl ?_
          -- at 61: .if_icmp .ge 46
          refine x_icmp_ge (tgt := 107) dW_alibi_61 (by decide) (fun h => absurd h (nI_ge (b := 6) (by omega) (by omega))) (fun _ => ?_)
          refine x_aload_n dW_alibi_64 rfl ?_
          refine x_getR fl_W_19 rfl dW_alibi_65 rfl rfl rfl ?_
          refine x_getR fl_W_146 rfl dW_alibi_68 rfl rfl rfl ?_
          refine x_iload_n dW_alibi_71 rfl ?_
          refine x_iload dW_alibi_72 rfl ?_
          refine x_iastJ dW_alibi_74 rfl rfl rfl (by omega) ?_
          refine x_aload_n dW_alibi_75 rfl ?_
          refine x_getR fl_W_56 rfl dW_alibi_76 rfl rfl rfl ?_
          refine x_iload_n dW_alibi_79 rfl ?_
          -- at 80: .invokevirtual 308
          have hF1 : Fr (12 :: kScr) I (up2 I' 12 p (nI i)) := hF.up (by decide) _ _
          have h12 : up2 I' 12 p (nI i) 12 = up1 (I 12) p (nI i) := by
            rw [up2_s, hx]
            funext q
            by_cases y : q = p
            · subst y; simp [up1]
            · simp [up1, y]
          have hl1 : up2 I' 12 p (nI i) 35 5 = nI (wN (cE I)) := by simp only [up2_n, up2_s, ne_eq, Nat.reduceEqDiff, not_false_eq_true, hl]
          generalize up2 I' 12 p (nI i) = I1 at hF1 h12 hl1 ⊢
          have eV1 : cV I1 = mvV (cV I) p (nI i) := cV_of_mv hF1 (by decide) h12
          have hsv1 : ∀ s, s < sN (cE I) → SayV (mvV (cV I) p (nI i)) s := hsv
          have hpp1 : PplOk I1 (pN (cE I)) := by
            refine ⟨by rw [hF1 4 (by decide)]; exact hpp.1, c2, fun j hj => ?_⟩
            obtain ⟨a1, a2, a3, a4⟩ := hpp.2.2 j hj
            rw [eV1]
            refine ⟨a1, a2, a3, ?_⟩
            unfold mvV
            rw [up2_s, up1]
            split
            · exact Or.inr ⟨i, by omega, rfl⟩
            · exact a4
          have hT1 : TxtC I1 (PE (cE I)) (wN (cE I)) := (hok.txt l2).fr (hF1 _ (by decide)) (hF1 _ (by decide))
          refine x_callV_1 c_Ledger_listenBy ok_Ledger_listenBy ml_W_308 dW_alibi_80 rfl rfl rfl rfl rfl ?_
          refine ⟨p, sN (cE I), pN (cE I), PE (cE I), rfl, rfl, by rw [hF1 18 (by decide)]; exact b1, b2, hp, by rw [eV1]; exact hsv1, hpp1.lis2 hl1 hT1, fun I2 hF2 _ => ?_⟩
          have hF02 : Fr (12 :: kScr) I I2 := hF1.tr (hF2.wk (by decide))
          have hx2 : ∃ x, I2 12 = up1 (I 12) p x := ⟨nI i, by rw [hF2 12 (by decide)]; exact h12⟩
          have hl2 : I2 35 5 = nI (wN (cE I)) := by rw [hF2 35 (by decide)]; exact hl1
          refine x_aload_n dW_alibi_83 rfl ?_
          refine x_iload_n dW_alibi_84 rfl ?_
          -- at 85: .invokevirtual 305
          refine x_callV_1 c_W_firstHeardByOthers ok_W_firstHeardByOthers ml_W_305 dW_alibi_85 rfl rfl rfl rfl rfl ?_
          refine ⟨s, sN (cE I), rfl, rfl, hs, by rw [hF02 18 (by decide)]; exact b1, b2, fun v => ?_⟩
          refine x_iconst (v := -1) dW_alibi_88 rfl ?_
          -- at 89: .if_icmp .ne 12
          refine x_icmp_ne (tgt := 101) dW_alibi_89 (by decide) (fun g1 => ?_) (fun g1 => ?_)
          · refine x_iincp_6 dW_alibi_101 rfl rfl ?_
            refine x_goto (tgt := 57) dW_alibi_104 (by decide) ?_
            -- at 57: .iload 6
            rw [nI_1]
            exact ih (i + 1) I2 _ (by omega) hF02 hx2 hl2
          · refine x_iload dW_alibi_92 rfl ?_
            refine x_iconst (v := 1) dW_alibi_94 rfl ?_
            refine x_iload dW_alibi_95 rfl ?_
            refine x_ishl dW_alibi_97 ?_
            refine x_ior dW_alibi_98 ?_
            refine x_istore_5 dW_alibi_99 rfl rfl ?_
            refine x_iincp_6 dW_alibi_101 rfl rfl ?_
            refine x_goto (tgt := 57) dW_alibi_104 (by decide) ?_
            -- at 57: .iload 6
            rw [nI_1]
            exact ih (i + 1) I2 _ (by omega) hF02 hx2 hl2
      have e0 : (6 : Nat) = 0 + 6 := rfl
      refine loop 6 0 I0 0 rfl (hF0.wk (by decide)) ⟨I 12 p, ?_⟩ hlw
      rw [e12]
      funext q
      by_cases y : q = p
      · subst y; simp [up1]
      · simp [up1, y]
    · refine x_iload_n dW_alibi_24 rfl ?_
      -- at 25: .ireturn
      refine x_ireturn dW_alibi_25 rfl rfl ?_
      exact h1 _ I (fun _ _ => rfl) rfl (fun _ => rfl)
  · have a1 : ¬ inR p0 0 (cE I 29 1 - 1) := a1
    refine x_if_ne (tgt := 14) dW_alibi_8 (by decide) (fun h => absurd (by decide) h) (fun _ => ?_)
    rw [alBad, if_pos a1] at h1
    refine x_bipush (v := -5) dW_alibi_11 rfl ?_
    -- at 13: .ireturn
    refine x_ireturn dW_alibi_13 rfl rfl ?_
    exact h1 _ I (fun _ _ => rfl) rfl (fun _ => rfl)
end
section
-- 45.wd
/-! the class's calls: drawn, odds -/
theorem CDr_eq {V E : IM} {n m : Nat} (h : VEq V E n m) (P : Nat → List Int32) (a : Int64) {s : Nat} (hs : s < m) : CDr V P n a s = CDr E P n a s :=
  bs_congr n (fun p hp => by unfold dF; rw [hear_eq h P hs hp])
def CDE (E : IM) (seed : Int32) : Nat → Int32 := CDr E (PE E) (pN E) (seed + 1).toInt64
def RD (E : IM) (seed : Int32) : Nat → Nat → Int32 := RE E (PE E) (CDE E seed) (-1) (sN E)
def TD (E : IM) (seed : Int32) : Nat → Int32 := TE E (PE E) (CDE E seed) (-1) (sN E)
def OwesD (E : IM) (seed : Int32) (I' : IM) : Prop := OwesN E (DD E (PE E) (CDE E seed)) (pN E) (qN E) (-1) (sN E) I'
theorem OwesD.tot {E I' : IM} {seed : Int32} {p : Nat} (h : OwesD E seed I') (hp : p < pN E) : I' 40 p = TD E seed p := (h p hp).2.2.2
theorem OwesD.rows {I I' : IM} {seed : Int32} (h : OwesD (cE I) seed I') (hok : cOk I) (hF : Fr kScr I I') : Rows I' (pN (cE I)) (RD (cE I) seed) := ⟨by rw [hF 4 (by decide)]; exact hok.1.1, hok.1.2.1, fun p hp => (h p hp).1⟩
abbrev HrdE (I0 I : IM) : Prop := HrdD (cV I0) (PE (cE I0)) (pN (cE I0)) (sN (cE I0)) I
theorem Hrd.toD {V : IM} {P : Nat → List Int32} {n m : Nat} {I : IM} (h : Hrd V P n m I) : HrdD V P n m I := ⟨fun s hs p hp => (h s hs).1 p hp, fun s hs => ⟨clF V P s, (h s hs).2⟩⟩
def spE_draw : SpT := fun as S I L Post => ∃ (seed : Int32) (I0 : IM), as = [.ref 35, .int seed] ∧ S = S1 ∧ cOk I0 ∧ Fr kScr I0 I ∧ I 35 5 = nI (wN (cE I0)) ∧ HrdE I0 I ∧
  ∀ I' : IM, Fr kScr I0 I' → I' 35 5 = nI (wN (cE I0)) → HrdE I0 I' → OwesD (cE I0) seed I' → Post none S1 I' L
theorem cE_draw : Con mLedger_draw 7 0 0 spE_draw := c_Ledger_draw.imp fun as S I L Post hs => by
  obtain ⟨seed, I0, rfl, rfl, hok, hF, hl, hh, h1⟩ := hs
  obtain ⟨b1, b2, b3⟩ := hok.say
  obtain ⟨c1, c2, c3⟩ := hok.ppl
  obtain ⟨-, l2⟩ := hok.law
  refine ⟨seed, wN (cE I0), sN (cE I0), pN (cE I0), qN (cE I0), PE (cE I0), rfl, rfl, by rw [hF 18 (by decide)]; exact b1, b2, fun s hs => ?_, ⟨by rw [hF 4 (by decide)]; exact c1, c2, fun x hx => ?_⟩, hl, (hok.txt l2).fr (hF _ (by decide)) (hF _ (by decide)), (hok.vow).fr (hF _ (by decide)) (hF _ (by decide)), ?_, fun I' hF2 hd ho => ?_⟩
  · rw [cV_k hF]
    exact b3 s hs
  · rw [cV_k hF]
    exact c3 x hx
  · rw [cV_k hF]
    exact hh
  · rw [cV_k hF] at hd ho
    refine h1 I' (hF.tr (hF2.wk (by decide))) ?_ hd (owes_eq (cVE I0) (Nat.le_refl _) (fun p hp s hs => by unfold DD; rw [share_eq (cVE I0) _ hs, CDr_eq (cVE I0) _ _ hs]; rfl) ho)
    rw [hF2 35 (by decide)]
    exact hl
abbrev drwC (seed w : Int32) : Prop := inR seed 0 99999 ∧ inR w 0 2
def drawnS (E : IM) (seed w : Int32) : Int32 := if ¬ drwC seed w then -2 else outE E (PE E) (RD E seed) (TD E seed) w
def sp_W_drawn : SpT := fun as S I L Post => ∃ seed w : Int32, cSp [.int seed, .int w] (fun E => .int (drawnS E seed w)) (fun E => E) as S I L Post
set_option maxHeartbeats 4000000 in
set_option maxRecDepth 100000 in
theorem c_W_drawn : Con mW_drawn 8 0 0 sp_W_drawn := by
  refine con_of_X rfl fun G as S I L Post hs => ?_
  obtain ⟨seed, w, rfl, rfl, hok, h1⟩ := hs
  dsimp only at h1
  refine ⟨0, Nat.le_of_ble_eq_true rfl, ?_⟩
  show X mW_drawn G _ S1 I L 0 [.ref 0, .int seed, .int w] [] Post
  obtain ⟨v1, v2, -⟩ := hok.vow
  obtain ⟨l1, l2⟩ := hok.law
  have bad : ¬ drwC seed w → X mW_drawn G (8, 0, 0) S1 I L 20 [.ref 0, .int seed, .int w] [] Post := by
    intro hc
    rw [drawnS, if_pos hc] at h1
    refine x_bipush (v := -2) dW_drawn_20 rfl ?_
    -- at 22: .ireturn
    refine x_ireturn dW_drawn_22 rfl rfl ?_
    exact h1 I (fun _ _ => rfl) rfl
  refine x_iload_n dW_drawn_0 rfl ?_
  refine x_iconst (v := 0) dW_drawn_1 rfl ?_
  refine x_ldcw dW_drawn_2 cn_W_311 ?_
  -- at 5: .invokestatic 101
  refine x_callS_3 c_W_within ok_W_within ml_W_101 dW_drawn_5 rfl rfl ?_
  refine ⟨_, _, _, rfl, fun a1 => ?_, fun a1 => ?_⟩
  · refine x_if_eq (tgt := 20) dW_drawn_8 (by decide) (fun h => absurd h (by decide)) (fun _ => ?_)
    refine x_iload_n dW_drawn_11 rfl ?_
    refine x_iconst (v := 0) dW_drawn_12 rfl ?_
    refine x_iconst (v := 2) dW_drawn_13 rfl ?_
    -- at 14: .invokestatic 101
    refine x_callS_3 c_W_within ok_W_within ml_W_101 dW_drawn_14 rfl rfl ?_
    refine ⟨_, _, _, rfl, fun a2 => ?_, fun a2 => ?_⟩
    · refine x_if_ne (tgt := 23) dW_drawn_17 (by decide) (fun _ => ?_) (fun h => absurd h (by decide))
      rw [drawnS, if_neg (not_not_intro (show drwC seed w from ⟨a1, a2⟩))] at h1
      refine x_aload_n dW_drawn_23 rfl ?_
      refine x_getR fl_W_56 rfl dW_drawn_24 rfl rfl rfl ?_
      refine x_aload_n dW_drawn_27 rfl ?_
      refine x_getR fl_W_47 rfl dW_drawn_28 rfl rfl rfl ?_
      refine x_getI fl_W_127 rfl dW_drawn_31 rfl rfl ?_
      -- at 34: .invokevirtual 205
      rw [l1]
      refine x_callV_1 cE_listen ok_Ledger_listen ml_W_205 dW_drawn_34 rfl rfl rfl rfl rfl ?_
      refine ⟨_, rfl, rfl, hok, l2, fun I1 hF1 hl1 hh _ => ?_⟩
      refine x_aload_n dW_drawn_37 rfl ?_
      refine x_getR fl_W_56 rfl dW_drawn_38 rfl rfl rfl ?_
      refine x_iload_n dW_drawn_41 rfl ?_
      -- at 42: .invokevirtual 312
      refine x_callV_1 cE_draw ok_Ledger_draw ml_W_312 dW_drawn_42 rfl rfl rfl rfl rfl ?_
      refine ⟨seed, I, rfl, rfl, hok, hF1, hl1, hh.toD, fun I2 hF2 hl2 _ ho => ?_⟩
      refine x_aload_n dW_drawn_45 rfl ?_
      refine x_getR fl_W_56 rfl dW_drawn_46 rfl rfl rfl ?_
      refine x_iload_n dW_drawn_49 rfl ?_
      -- at 50: .invokevirtual 238
      refine x_callV_1 c_Ledger_outcome ok_Ledger_outcome ml_W_238 dW_drawn_50 rfl rfl rfl rfl rfl ?_
      refine ⟨_, qN (cE I), wN (cE I), w, _, PE (cE I), rfl, rfl, ho.rows hok hF2, by rw [hF2 13 (by decide)]; exact v1, v2, hl2, (hok.txt l2).fr (hF2 _ (by decide)) (hF2 _ (by decide)), fun I3 hF3 => ?_⟩
      rw [cV_k hF2, out_eq (cVE I) (PE (cE I)) v2 (R' := RD (cE I) seed) (T' := TD (cE I) seed) (fun _ _ _ _ => rfl) (fun p hp => ho.tot hp)]
      have hF4 : Fr kScr I I3 := hF2.tr (hF3.wk (by decide))
      refine x_ireturn dW_drawn_53 rfl rfl ?_
      exact h1 I3 (kstay hF4) (cE_k hF4)
    · refine x_if_ne (tgt := 23) dW_drawn_17 (by decide) (fun h => absurd (by decide) h) (fun _ => ?_)
      exact bad (fun z => a2 z.2)
  · refine x_if_eq (tgt := 20) dW_drawn_8 (by decide) (fun _ => ?_) (fun h => absurd (by decide) h)
    exact bad (fun z => a1 z.1)
def sp_W_commonDivisor : SpT := fun as S I L Post => ∃ a b : Nat, as = [.int (nI a), .int (nI b)] ∧ a ≤ 20 ∧ 1 ≤ b ∧ b ≤ 20 ∧ Post (some (.int (nI (Nat.gcd a b)))) S I L
set_option maxHeartbeats 4000000 in
set_option maxRecDepth 100000 in
theorem c_W_commonDivisor : Con mW_commonDivisor 3 0 0 sp_W_commonDivisor := by
  refine con_of_X rfl fun G as S I L Post hs => ?_
  obtain ⟨a, b, rfl, ha, hb1, hb, h1⟩ := hs
  refine ⟨4, Nat.le_of_ble_eq_true rfl, ?_⟩
  show X mW_commonDivisor G _ S I L 0 [.int (nI a), .int (nI b), .null, .null, .null, .null] [] Post
  refine x_iload_n dW_commonDivisor_0 rfl ?_
  refine x_istoren_2 dW_commonDivisor_1 rfl rfl ?_
  refine x_iload_n dW_commonDivisor_2 rfl ?_
  refine x_istoren_3 dW_commonDivisor_3 rfl rfl ?_
  refine x_iconst (v := 0) dW_commonDivisor_4 rfl ?_
  refine x_istore_4 dW_commonDivisor_5 rfl rfl ?_
  -- at 7: .iload 4
  have hg0 : 0 < Nat.gcd a b := Nat.gcd_pos_of_pos_right a hb1
  have hg1 : Nat.gcd a b ≤ b := Nat.gcd_le_right a hb1
  have fin : ∀ (x y i : Nat) (a5 : Value), x = Nat.gcd a b → X mW_commonDivisor G (3, 0, 0) S I L 34 [.int (nI a), .int (nI b), .int (nI x), .int (nI y), .int (nI i), a5] [] Post := by
    intro x y i a5 hx
    subst hx
    refine x_iconst (v := 1) dW_commonDivisor_34 rfl ?_
    refine x_iload_n dW_commonDivisor_35 rfl ?_
    -- at 36: .invokestatic 266
    refine x_mmax dW_commonDivisor_36 ml_W_266 st_max it_Math co_max rfl rfl ?_
    refine x_eqi (y := nI (Nat.gcd a b)) (imax1n hg0 (by omega)) ?_
    refine x_ireturn dW_commonDivisor_39 rfl rfl ?_
    exact h1
  have loop : ∀ (k x y i : Nat) (a5 : Value), y ≤ k → i + k ≤ 20 → x ≤ 20 → Nat.gcd y x = Nat.gcd a b → X mW_commonDivisor G (3, 0, 0) S I L 7 [.int (nI a), .int (nI b), .int (nI x), .int (nI y), .int (nI i), a5] [] Post := by
    intro k
    induction k with
    | zero =>
      intro x y i a5 hy hi hx hg
      obtain rfl : y = 0 := by omega
      refine x_iload dW_commonDivisor_7 rfl ?_
      refine x_bipush (v := 32) dW_commonDivisor_9 rfl ?_
      -- at 11: .if_icmp .ge 23
      refine x_icmp_ge (tgt := 34) dW_commonDivisor_11 (by decide) (fun h => absurd h (nI_ge (b := 32) (by omega) (by omega))) (fun _ => ?_)
      refine x_iload_n dW_commonDivisor_14 rfl ?_
      -- at 15: .ifCond .le 19
      refine x_if_le (tgt := 34) dW_commonDivisor_15 (by decide) (fun _ => ?_) (fun h => absurd (show nI 0 ≤ (0 : Int32) from Int32.le_refl _) h)
      exact fin x 0 i a5 (by rw [← hg, Nat.gcd_zero_left])
    | succ k ih =>
      intro x y i a5 hy hi hx hg
      refine x_iload dW_commonDivisor_7 rfl ?_
      refine x_bipush (v := 32) dW_commonDivisor_9 rfl ?_
      -- at 11: .if_icmp .ge 23
      refine x_icmp_ge (tgt := 34) dW_commonDivisor_11 (by decide) (fun h => absurd h (nI_ge (b := 32) (by omega) (by omega))) (fun _ => ?_)
      refine x_iload_n dW_commonDivisor_14 rfl ?_
      -- at 15: .ifCond .le 19
      by_cases h0 : y = 0
      · subst h0
        refine x_if_le (tgt := 34) dW_commonDivisor_15 (by decide) (fun _ => ?_) (fun h => absurd (show nI 0 ≤ (0 : Int32) from Int32.le_refl _) h)
        exact fin x 0 i a5 (by rw [← hg, Nat.gcd_zero_left])
      · have hne : ¬ nI y = (0 : Int32) := fun z => h0 ((nI_eq (b := 0) (by omega) (by omega)).mp z)
        refine x_if_le (tgt := 34) dW_commonDivisor_15 (by decide) (fun h => absurd h (nI_ge (a := 0) (by omega) (by omega))) (fun _ => ?_)
        refine x_iload_n dW_commonDivisor_18 rfl ?_
        refine x_iload_n dW_commonDivisor_19 rfl ?_
        refine x_irem dW_commonDivisor_20 hne ?_
        -- at 21: .istore 5
        refine x_eqi (y := nI (x % y)) (pk_rem (by omega) (by omega) (by omega)) ?_
        refine x_istore_5 dW_commonDivisor_21 rfl rfl ?_
        refine x_iload_n dW_commonDivisor_23 rfl ?_
        refine x_istoren_2 dW_commonDivisor_24 rfl rfl ?_
        refine x_iload dW_commonDivisor_25 rfl ?_
        refine x_istoren_3 dW_commonDivisor_27 rfl rfl ?_
        refine x_iincp_4 dW_commonDivisor_28 rfl rfl ?_
        refine x_goto (tgt := 7) dW_commonDivisor_31 (by decide) ?_
        -- at 7: .iload 4
        rw [nI_1]
        have hlt : x % y < y := Nat.mod_lt _ (by omega)
        refine ih y (x % y) (i + 1) _ (by omega) (by omega) (by omega) ?_
        rw [← hg]
        exact (Nat.gcd_rec y x).symm
  exact loop 20 b a 0 _ ha (by omega) hb rfl
def odN (E : IM) (q : Nat) (seed : Int32) (k : Nat) : Nat := match k with
  | 0 => 0
  | j + 1 => if keepsV E (pN E) (RD E (imin (seed + nI j) 99999)) q = true then odN E q seed j + 1 else odN E q seed j
theorem odN_le (E : IM) (q : Nat) (seed : Int32) : ∀ k, odN E q seed k ≤ k := by
  intro k
  induction k with
  | zero => exact Nat.le_refl _
  | succ j ih =>
    rw [odN]
    split <;> omega
abbrev oddC (E : IM) (q seed many part : Int32) : Prop := inR q 0 (E 29 2 - 1) ∧ inR seed 0 99999 ∧ inR many 1 20 ∧ inR part 0 1
def lowV (n m : Nat) (part : Int32) : Int64 := if part = 0 then (nI (n / Nat.gcd n m)).toInt64 else (nI (m / Nat.gcd n m)).toInt64
def oddsS (E : IM) (q seed many part : Int32) : Int64 := if ¬ oddC E q seed many part then -4611686018427387904 else lowV (odN E (cl q) seed (cl many)) (cl many) part
def sp_W_odds : SpT := fun as S I L Post => ∃ q seed many part : Int32, cSp [.int q, .int seed, .int many, .int part] (fun E => .long (oddsS E q seed many part)) (fun E => E) as S I L Post
set_option maxHeartbeats 4000000 in
set_option maxRecDepth 100000 in
theorem c_W_odds : Con mW_odds 8 0 0 sp_W_odds := by
  refine con_of_X rfl fun G as S I0 L Post hs => ?_
  obtain ⟨q0, seed, many, part, rfl, rfl, hok, h1⟩ := hs
  dsimp only at h1
  refine ⟨2, Nat.le_of_ble_eq_true rfl, ?_⟩
  show X mW_odds G _ S1 I0 L 0 [.ref 0, .int q0, .int seed, .int many, .int part, .null, .null] [] Post
  obtain ⟨v1, v2, -⟩ := hok.vow
  obtain ⟨l1, l2⟩ := hok.law
  have bad : ¬ oddC (cE I0) q0 seed many part → X mW_odds G (8, 0, 0) S1 I0 L 42 [.ref 0, .int q0, .int seed, .int many, .int part, .null, .null] [] Post := by
    intro hc
    rw [oddsS, if_pos hc] at h1
    refine x_ldc2 dW_odds_42 cn_W_287 ?_
    -- at 45: .lreturn
    refine x_lreturn dW_odds_45 rfl ?_
    exact h1 I0 (fun _ _ => rfl) rfl
  refine x_aload_n dW_odds_0 rfl ?_
  refine x_getR fl_W_26 rfl dW_odds_1 rfl rfl rfl ?_
  refine x_iload_n dW_odds_4 rfl ?_
  -- at 5: .invokevirtual 174
  refine x_callV_1 c_Vows_has ok_Vows_has ml_W_174 dW_odds_5 rfl rfl rfl rfl rfl ?_
  refine ⟨_, rfl, rfl, fun a1 => ?_, fun a1 => ?_⟩
  · refine x_if_eq (tgt := 42) dW_odds_8 (by decide) (fun h => absurd h (by decide)) (fun _ => ?_)
    refine x_iload_n dW_odds_11 rfl ?_
    refine x_iconst (v := 0) dW_odds_12 rfl ?_
    refine x_ldcw dW_odds_13 cn_W_311 ?_
    -- at 16: .invokestatic 101
    refine x_callS_3 c_W_within ok_W_within ml_W_101 dW_odds_16 rfl rfl ?_
    refine ⟨_, _, _, rfl, fun a2 => ?_, fun a2 => ?_⟩
    · refine x_if_eq (tgt := 42) dW_odds_19 (by decide) (fun h => absurd h (by decide)) (fun _ => ?_)
      refine x_iload_n dW_odds_22 rfl ?_
      refine x_iconst (v := 1) dW_odds_23 rfl ?_
      refine x_bipush (v := 20) dW_odds_24 rfl ?_
      -- at 26: .invokestatic 101
      refine x_callS_3 c_W_within ok_W_within ml_W_101 dW_odds_26 rfl rfl ?_
      refine ⟨_, _, _, rfl, fun a3 => ?_, fun a3 => ?_⟩
      · refine x_if_eq (tgt := 42) dW_odds_29 (by decide) (fun h => absurd h (by decide)) (fun _ => ?_)
        refine x_iload dW_odds_32 rfl ?_
        refine x_iconst (v := 0) dW_odds_34 rfl ?_
        refine x_iconst (v := 1) dW_odds_35 rfl ?_
        -- at 36: .invokestatic 101
        refine x_callS_3 c_W_within ok_W_within ml_W_101 dW_odds_36 rfl rfl ?_
        refine ⟨_, _, _, rfl, fun a4 => ?_, fun a4 => ?_⟩
        · refine x_if_ne (tgt := 46) dW_odds_39 (by decide) (fun _ => ?_) (fun h => absurd h (by decide))
          have a1 : inR q0 0 (cE I0 29 2 - 1) := a1
          have a3 : inR many 1 20 := a3
          rw [oddsS, if_neg (not_not_intro (show oddC (cE I0) q0 seed many part from ⟨a1, a2, a3, a4⟩))] at h1
          rw [show cE I0 29 2 = nI (qN (cE I0)) from v1] at a1
          obtain ⟨q, hq, rfl⟩ := has_nat (by omega) a1
          have hm : ∃ m, 1 ≤ m ∧ m ≤ 20 ∧ many = nI m := by
            obtain ⟨m, hm, e⟩ := inR_of (n := 20) (by decide) (show inR many 0 20 from ⟨Int32.le_trans (by decide) a3.1, a3.2⟩)
            refine ⟨m, ?_, hm, e⟩
            by_cases h0 : m = 0
            · subst h0
              subst e
              exact absurd a3.1 (by decide)
            · omega
          obtain ⟨m, hm1, hm20, rfl⟩ := hm
          rw [cl_nI (by omega), cl_nI (by omega)] at h1
          refine x_aload_n dW_odds_46 rfl ?_
          refine x_getR fl_W_56 rfl dW_odds_47 rfl rfl rfl ?_
          refine x_aload_n dW_odds_50 rfl ?_
          refine x_getR fl_W_47 rfl dW_odds_51 rfl rfl rfl ?_
          refine x_getI fl_W_127 rfl dW_odds_54 rfl rfl ?_
          -- at 57: .invokevirtual 205
          rw [l1]
          refine x_callV_1 cE_listen ok_Ledger_listen ml_W_205 dW_odds_57 rfl rfl rfl rfl rfl ?_
          refine ⟨_, rfl, rfl, hok, l2, fun I1 hF1 hl1 hh _ => ?_⟩
          refine x_iconst (v := 0) dW_odds_60 rfl ?_
          refine x_istore_5 dW_odds_61 rfl rfl ?_
          refine x_iconst (v := 0) dW_odds_63 rfl ?_
          refine x_istore_6 dW_odds_64 rfl rfl ?_
          -- at 66: .iload 6
          have loop : ∀ (k i : Nat) (I : IM), i + k = m → Fr kScr I0 I → I 35 5 = nI (wN (cE I0)) → HrdE I0 I →
              X mW_odds G (8, 0, 0) S1 I L 66 [.ref 0, .int (nI q), .int seed, .int (nI m), .int part, .int (nI (odN (cE I0) q seed i)), .int (nI i)] [] Post := by
            intro k
            induction k with
            | zero =>
              intro i I hi hF hl hh
              obtain rfl : i = m := by omega
              have hle := odN_le (cE I0) q seed i
              have hg0 : 0 < Nat.gcd (odN (cE I0) q seed i) i := Nat.gcd_pos_of_pos_right _ hm1
              have hg1 : Nat.gcd (odN (cE I0) q seed i) i ≤ i := Nat.gcd_le_right _ hm1
              have hgne : ¬ nI (Nat.gcd (odN (cE I0) q seed i) i) = (0 : Int32) := fun z => absurd ((nI_eq (b := 0) (by omega) (by omega)).mp z) (by omega)
              refine x_iload dW_odds_66 rfl ?_
              refine x_iload_n dW_odds_68 rfl ?_
              -- at 69: .if_icmp .ge 40
              refine x_icmp_ge (tgt := 109) dW_odds_69 (by decide) (fun _ => ?_) (fun h => absurd (Int32.le_refl _) h)
              refine x_iload dW_odds_109 rfl ?_
              refine x_iload_n dW_odds_111 rfl ?_
              -- at 112: .invokestatic 318
              refine x_callS_2 c_W_commonDivisor ok_W_commonDivisor ml_W_318 dW_odds_112 rfl rfl ?_
              refine ⟨odN (cE I0) q seed i, i, rfl, by omega, hm1, hm20, ?_⟩
              refine x_istore_6 dW_odds_115 rfl rfl ?_
              refine x_iload dW_odds_117 rfl ?_
              -- at 119: .ifCond .ne 12
              refine x_if_ne (tgt := 131) dW_odds_119 (by decide) (fun c3 => ?_) (fun c3 => ?_)
              · rw [lowV, if_neg c3] at h1
                refine x_iload_n dW_odds_131 rfl ?_
                refine x_iload dW_odds_132 rfl ?_
                refine x_idiv dW_odds_134 hgne ?_
                -- at 135: .i2l
                refine x_eqi (y := nI (i / Nat.gcd (odN (cE I0) q seed i) i)) (pk_div (by omega) (by omega) (by omega)) ?_
                refine x_i2l dW_odds_135 ?_
                -- at 136: .lreturn
                refine x_lreturn dW_odds_136 rfl ?_
                exact h1 I (kstay hF) (cE_k hF)
              · rw [lowV, if_pos c3] at h1
                refine x_iload dW_odds_122 rfl ?_
                refine x_iload dW_odds_124 rfl ?_
                refine x_idiv dW_odds_126 hgne ?_
                -- at 127: .i2l
                refine x_eqi (y := nI (odN (cE I0) q seed i / Nat.gcd (odN (cE I0) q seed i) i)) (pk_div (by omega) (by omega) (by omega)) ?_
                refine x_i2l dW_odds_127 ?_
                refine x_goto (tgt := 136) dW_odds_128 (by decide) ?_
                -- at 136: .lreturn
                refine x_lreturn dW_odds_136 rfl ?_
                exact h1 I (kstay hF) (cE_k hF)
            | succ k ih =>
              intro i I hi hF hl hh
              refine x_iload dW_odds_66 rfl ?_
              refine x_iload_n dW_odds_68 rfl ?_
              -- at 69: .if_icmp .ge 40
              refine x_icmp_ge (tgt := 109) dW_odds_69 (by decide) (fun h => absurd h (nI_ge (b := m) (by omega) (by omega))) (fun _ => ?_)
              refine x_aload_n dW_odds_72 rfl ?_
              refine x_getR fl_W_56 rfl dW_odds_73 rfl rfl rfl ?_
              refine x_iload_n dW_odds_76 rfl ?_
              refine x_iload dW_odds_77 rfl ?_
              refine x_iadd dW_odds_79 ?_
              refine x_ldcw dW_odds_80 cn_W_311 ?_
              -- at 83: .invokestatic 315
              refine x_mmin dW_odds_83 ml_W_315 st_min it_Math co_min rfl rfl ?_
              refine x_eqi (y := imin (seed + nI i) 99999) rfl ?_
              refine x_callV_1 cE_draw ok_Ledger_draw ml_W_312 dW_odds_86 rfl rfl rfl rfl rfl ?_
              refine ⟨_, I0, rfl, rfl, hok, hF, hl, hh, fun I2 hF2 hl2 hh2 ho => ?_⟩
              refine x_aload_n dW_odds_89 rfl ?_
              refine x_getR fl_W_56 rfl dW_odds_90 rfl rfl rfl ?_
              refine x_iload_n dW_odds_93 rfl ?_
              -- at 94: .invokevirtual 248
              refine x_callV_1 c_Ledger_keeps ok_Ledger_keeps ml_W_248 dW_odds_94 rfl rfl rfl rfl rfl ?_
              have ek : keepsV (cV I2) (pN (cE I0)) (RD (cE I0) (imin (seed + nI i) 99999)) q = keepsV (cE I0) (pN (cE I0)) (RD (cE I0) (imin (seed + nI i) 99999)) q := by
                rw [cV_k hF2]
                exact keeps_eq (cVE I0) _ (fun _ _ => rfl)
              refine ⟨q, _, _, rfl, rfl, by omega, ho.rows hok hF2, fun g => ?_, fun g => ?_⟩
              · rw [ek] at g
                refine x_if_eq (tgt := 103) dW_odds_97 (by decide) (fun h => absurd h (by decide)) (fun _ => ?_)
                refine x_iincp_5 dW_odds_100 rfl rfl ?_
                refine x_iincp_6 dW_odds_103 rfl rfl ?_
                refine x_goto (tgt := 66) dW_odds_106 (by decide) ?_
                -- at 66: .iload 6
                rw [nI_1, nI_1]
                have h3 := ih (i + 1) I2 (by omega) hF2 hl2 hh2
                rw [odN, if_pos g] at h3
                exact h3
              · rw [ek] at g
                refine x_if_eq (tgt := 103) dW_odds_97 (by decide) (fun _ => ?_) (fun h => absurd (by decide) h)
                refine x_iincp_6 dW_odds_103 rfl rfl ?_
                refine x_goto (tgt := 66) dW_odds_106 (by decide) ?_
                -- at 66: .iload 6
                rw [nI_1]
                have h3 := ih (i + 1) I2 (by omega) hF2 hl2 hh2
                rw [odN, if_neg g] at h3
                exact h3
          exact loop m 0 I1 (by omega) hF1 hl1 hh.toD
        · refine x_if_ne (tgt := 46) dW_odds_39 (by decide) (fun h => absurd (by decide) h) (fun _ => ?_)
          exact bad (fun z => a4 z.2.2.2)
      · refine x_if_eq (tgt := 42) dW_odds_29 (by decide) (fun _ => ?_) (fun h => absurd (by decide) h)
        exact bad (fun z => a3 z.2.2.1)
    · refine x_if_eq (tgt := 42) dW_odds_19 (by decide) (fun _ => ?_) (fun h => absurd (by decide) h)
      exact bad (fun z => a2 z.2.1)
  · refine x_if_eq (tgt := 42) dW_odds_8 (by decide) (fun _ => ?_) (fun h => absurd (by decide) h)
    exact bad (fun z => a1 z.1)
end
section
-- 46.we
/-! the class's calls: image, back -/
theorem cpy_full {f g : Nat → Int32} {n : Nat} (h : ∀ j, n ≤ j → f j = 0 ∧ g j = 0) : va_cpy f g 0 0 n = f := by
  funext j
  by_cases hj : j < n
  · exact sb_cpy0 hj
  · rw [pk_cpy_out (Or.inr (by omega)), (h j (by omega)).1, (h j (by omega)).2]
theorem mk_cpy {f g : Nat → Int32} {n m : Nat} (h : m ≤ n) : mk m (va_cpy f g 0 0 n) = mk m f := by
  funext j
  unfold mk
  by_cases hj : j < m
  · rw [if_pos hj, if_pos hj, sb_cpy0 (by omega)]
  · rw [if_neg hj, if_neg hj]
def tbU (I : IM) (d0 d1 d2 s0 s1 s2 : Nat) : IM := up2 (upr (upr I d1 (va_cpy (I s1) (I d1) 0 0 36)) d2 (va_cpy (I s2) (I d2) 0 0 6)) d0 2 (I s0 2)
def sbU (I : IM) (d0 d1 d2 d3 d4 s0 s1 s2 s3 s4 : Nat) : IM := up2 (upr (upr (upr (upr I d1 (va_cpy (I s1) (I d1) 0 0 11)) d2 (va_cpy (I s2) (I d2) 0 0 11)) d3 (va_cpy (I s3) (I d3) 0 0 11)) d4 (va_cpy (I s4) (I d4) 0 0 11)) d0 4 (I s0 4)
def sp_Town_become : SpT := fun as S I L Post => S = S1 ∧ ((as = [.ref 46, .ref 1] ∧ Post none S1 (tbU I 46 47 48 1 2 3) L) ∨ (as = [.ref 1, .ref 46] ∧ Post none S1 (tbU I 1 2 3 46 47 48) L))
set_option maxHeartbeats 4000000 in
set_option maxRecDepth 100000 in
theorem c_Town_become : Con mTown_become 2 0 0 sp_Town_become := by
  refine con_of_X rfl fun G as S I L Post hs => ?_
  obtain ⟨rfl, ⟨rfl, h1⟩ | ⟨rfl, h1⟩⟩ := hs
  · refine ⟨0, Nat.le_of_ble_eq_true rfl, ?_⟩
    show X mTown_become G _ S1 I L 0 [.ref 46, .ref 1] [] Post
    refine x_aload_n dTown_become_0 rfl ?_
    refine x_getR fl_Town_9 rfl dTown_become_1 rfl rfl rfl ?_
    refine x_iconst (v := 0) dTown_become_4 rfl ?_
    refine x_aload_n dTown_become_5 rfl ?_
    refine x_getR fl_Town_9 rfl dTown_become_6 rfl rfl rfl ?_
    refine x_iconst (v := 0) dTown_become_9 rfl ?_
    refine x_bipush (v := 36) dTown_become_10 rfl ?_
    -- at 12: .invokestatic 28
    refine x_acopy dTown_become_12 ml_Town_28 na_ac st_ac it_System rfl rfl rfl rfl rfl rfl (by decide) (by decide) (by decide) (by decide) (by decide) ?_
    refine x_aload_n dTown_become_15 rfl ?_
    refine x_getR fl_Town_15 rfl dTown_become_16 rfl rfl rfl ?_
    refine x_iconst (v := 0) dTown_become_19 rfl ?_
    refine x_aload_n dTown_become_20 rfl ?_
    refine x_getR fl_Town_15 rfl dTown_become_21 rfl rfl rfl ?_
    refine x_iconst (v := 0) dTown_become_24 rfl ?_
    refine x_bipush (v := 6) dTown_become_25 rfl ?_
    -- at 27: .invokestatic 28
    refine x_acopy dTown_become_27 ml_Town_28 na_ac st_ac it_System rfl rfl rfl rfl rfl rfl (by decide) (by decide) (by decide) (by decide) (by decide) ?_
    simp only [up2_n, up2_s, ne_eq, Nat.reduceEqDiff, not_false_eq_true, upr_n]
    refine x_aload_n dTown_become_30 rfl ?_
    refine x_aload_n dTown_become_31 rfl ?_
    refine x_getI fl_Town_18 rfl dTown_become_32 rfl rfl ?_
    refine x_putI fl_Town_18 rfl dTown_become_35 (by decide) rfl rfl rfl rfl ?_
    -- at 38: .return_
    simp only [up2_n, up2_s, ne_eq, Nat.reduceEqDiff, not_false_eq_true, upr_n]
    refine x_return dTown_become_38 rfl ?_
    exact h1
  · refine ⟨0, Nat.le_of_ble_eq_true rfl, ?_⟩
    show X mTown_become G _ S1 I L 0 [.ref 1, .ref 46] [] Post
    refine x_aload_n dTown_become_0 rfl ?_
    refine x_getR fl_Town_9 rfl dTown_become_1 rfl rfl rfl ?_
    refine x_iconst (v := 0) dTown_become_4 rfl ?_
    refine x_aload_n dTown_become_5 rfl ?_
    refine x_getR fl_Town_9 rfl dTown_become_6 rfl rfl rfl ?_
    refine x_iconst (v := 0) dTown_become_9 rfl ?_
    refine x_bipush (v := 36) dTown_become_10 rfl ?_
    -- at 12: .invokestatic 28
    refine x_acopy dTown_become_12 ml_Town_28 na_ac st_ac it_System rfl rfl rfl rfl rfl rfl (by decide) (by decide) (by decide) (by decide) (by decide) ?_
    refine x_aload_n dTown_become_15 rfl ?_
    refine x_getR fl_Town_15 rfl dTown_become_16 rfl rfl rfl ?_
    refine x_iconst (v := 0) dTown_become_19 rfl ?_
    refine x_aload_n dTown_become_20 rfl ?_
    refine x_getR fl_Town_15 rfl dTown_become_21 rfl rfl rfl ?_
    refine x_iconst (v := 0) dTown_become_24 rfl ?_
    refine x_bipush (v := 6) dTown_become_25 rfl ?_
    -- at 27: .invokestatic 28
    refine x_acopy dTown_become_27 ml_Town_28 na_ac st_ac it_System rfl rfl rfl rfl rfl rfl (by decide) (by decide) (by decide) (by decide) (by decide) ?_
    simp only [up2_n, up2_s, ne_eq, Nat.reduceEqDiff, not_false_eq_true, upr_n]
    refine x_aload_n dTown_become_30 rfl ?_
    refine x_aload_n dTown_become_31 rfl ?_
    refine x_getI fl_Town_18 rfl dTown_become_32 rfl rfl ?_
    refine x_putI fl_Town_18 rfl dTown_become_35 (by decide) rfl rfl rfl rfl ?_
    -- at 38: .return_
    simp only [up2_n, up2_s, ne_eq, Nat.reduceEqDiff, not_false_eq_true, upr_n]
    refine x_return dTown_become_38 rfl ?_
    exact h1
def sp_Sayings_become : SpT := fun as S I L Post => S = S1 ∧ ((as = [.ref 49, .ref 18] ∧ Post none S1 (sbU I 49 50 51 52 53 18 19 20 21 22) L) ∨ (as = [.ref 18, .ref 49] ∧ Post none S1 (sbU I 18 19 20 21 22 49 50 51 52 53) L))
set_option maxHeartbeats 4000000 in
set_option maxRecDepth 100000 in
theorem c_Sayings_become : Con mSayings_become 2 0 0 sp_Sayings_become := by
  refine con_of_X rfl fun G as S I L Post hs => ?_
  obtain ⟨rfl, ⟨rfl, h1⟩ | ⟨rfl, h1⟩⟩ := hs
  · refine ⟨0, Nat.le_of_ble_eq_true rfl, ?_⟩
    show X mSayings_become G _ S1 I L 0 [.ref 49, .ref 18] [] Post
    refine x_aload_n dSayings_become_0 rfl ?_
    refine x_getR fl_Sayings_9 rfl dSayings_become_1 rfl rfl rfl ?_
    refine x_iconst (v := 0) dSayings_become_4 rfl ?_
    refine x_aload_n dSayings_become_5 rfl ?_
    refine x_getR fl_Sayings_9 rfl dSayings_become_6 rfl rfl rfl ?_
    refine x_iconst (v := 0) dSayings_become_9 rfl ?_
    refine x_bipush (v := 11) dSayings_become_10 rfl ?_
    -- at 12: .invokestatic 32
    refine x_acopy dSayings_become_12 ml_Sayings_32 na_ac st_ac it_System rfl rfl rfl rfl rfl rfl (by decide) (by decide) (by decide) (by decide) (by decide) ?_
    refine x_aload_n dSayings_become_15 rfl ?_
    refine x_getR fl_Sayings_15 rfl dSayings_become_16 rfl rfl rfl ?_
    refine x_iconst (v := 0) dSayings_become_19 rfl ?_
    refine x_aload_n dSayings_become_20 rfl ?_
    refine x_getR fl_Sayings_15 rfl dSayings_become_21 rfl rfl rfl ?_
    refine x_iconst (v := 0) dSayings_become_24 rfl ?_
    refine x_bipush (v := 11) dSayings_become_25 rfl ?_
    -- at 27: .invokestatic 32
    refine x_acopy dSayings_become_27 ml_Sayings_32 na_ac st_ac it_System rfl rfl rfl rfl rfl rfl (by decide) (by decide) (by decide) (by decide) (by decide) ?_
    simp only [up2_n, up2_s, ne_eq, Nat.reduceEqDiff, not_false_eq_true, upr_n]
    refine x_aload_n dSayings_become_30 rfl ?_
    refine x_getR fl_Sayings_18 rfl dSayings_become_31 rfl rfl rfl ?_
    refine x_iconst (v := 0) dSayings_become_34 rfl ?_
    refine x_aload_n dSayings_become_35 rfl ?_
    refine x_getR fl_Sayings_18 rfl dSayings_become_36 rfl rfl rfl ?_
    refine x_iconst (v := 0) dSayings_become_39 rfl ?_
    refine x_bipush (v := 11) dSayings_become_40 rfl ?_
    -- at 42: .invokestatic 32
    refine x_acopy dSayings_become_42 ml_Sayings_32 na_ac st_ac it_System rfl rfl rfl rfl rfl rfl (by decide) (by decide) (by decide) (by decide) (by decide) ?_
    simp only [up2_n, up2_s, ne_eq, Nat.reduceEqDiff, not_false_eq_true, upr_n]
    refine x_aload_n dSayings_become_45 rfl ?_
    refine x_getR fl_Sayings_21 rfl dSayings_become_46 rfl rfl rfl ?_
    refine x_iconst (v := 0) dSayings_become_49 rfl ?_
    refine x_aload_n dSayings_become_50 rfl ?_
    refine x_getR fl_Sayings_21 rfl dSayings_become_51 rfl rfl rfl ?_
    refine x_iconst (v := 0) dSayings_become_54 rfl ?_
    refine x_bipush (v := 11) dSayings_become_55 rfl ?_
    -- at 57: .invokestatic 32
    refine x_acopy dSayings_become_57 ml_Sayings_32 na_ac st_ac it_System rfl rfl rfl rfl rfl rfl (by decide) (by decide) (by decide) (by decide) (by decide) ?_
    simp only [up2_n, up2_s, ne_eq, Nat.reduceEqDiff, not_false_eq_true, upr_n]
    refine x_aload_n dSayings_become_60 rfl ?_
    refine x_aload_n dSayings_become_61 rfl ?_
    refine x_getI fl_Sayings_24 rfl dSayings_become_62 rfl rfl ?_
    refine x_putI fl_Sayings_24 rfl dSayings_become_65 (by decide) rfl rfl rfl rfl ?_
    -- at 68: .return_
    simp only [up2_n, up2_s, ne_eq, Nat.reduceEqDiff, not_false_eq_true, upr_n]
    refine x_return dSayings_become_68 rfl ?_
    exact h1
  · refine ⟨0, Nat.le_of_ble_eq_true rfl, ?_⟩
    show X mSayings_become G _ S1 I L 0 [.ref 18, .ref 49] [] Post
    refine x_aload_n dSayings_become_0 rfl ?_
    refine x_getR fl_Sayings_9 rfl dSayings_become_1 rfl rfl rfl ?_
    refine x_iconst (v := 0) dSayings_become_4 rfl ?_
    refine x_aload_n dSayings_become_5 rfl ?_
    refine x_getR fl_Sayings_9 rfl dSayings_become_6 rfl rfl rfl ?_
    refine x_iconst (v := 0) dSayings_become_9 rfl ?_
    refine x_bipush (v := 11) dSayings_become_10 rfl ?_
    -- at 12: .invokestatic 32
    refine x_acopy dSayings_become_12 ml_Sayings_32 na_ac st_ac it_System rfl rfl rfl rfl rfl rfl (by decide) (by decide) (by decide) (by decide) (by decide) ?_
    refine x_aload_n dSayings_become_15 rfl ?_
    refine x_getR fl_Sayings_15 rfl dSayings_become_16 rfl rfl rfl ?_
    refine x_iconst (v := 0) dSayings_become_19 rfl ?_
    refine x_aload_n dSayings_become_20 rfl ?_
    refine x_getR fl_Sayings_15 rfl dSayings_become_21 rfl rfl rfl ?_
    refine x_iconst (v := 0) dSayings_become_24 rfl ?_
    refine x_bipush (v := 11) dSayings_become_25 rfl ?_
    -- at 27: .invokestatic 32
    refine x_acopy dSayings_become_27 ml_Sayings_32 na_ac st_ac it_System rfl rfl rfl rfl rfl rfl (by decide) (by decide) (by decide) (by decide) (by decide) ?_
    simp only [up2_n, up2_s, ne_eq, Nat.reduceEqDiff, not_false_eq_true, upr_n]
    refine x_aload_n dSayings_become_30 rfl ?_
    refine x_getR fl_Sayings_18 rfl dSayings_become_31 rfl rfl rfl ?_
    refine x_iconst (v := 0) dSayings_become_34 rfl ?_
    refine x_aload_n dSayings_become_35 rfl ?_
    refine x_getR fl_Sayings_18 rfl dSayings_become_36 rfl rfl rfl ?_
    refine x_iconst (v := 0) dSayings_become_39 rfl ?_
    refine x_bipush (v := 11) dSayings_become_40 rfl ?_
    -- at 42: .invokestatic 32
    refine x_acopy dSayings_become_42 ml_Sayings_32 na_ac st_ac it_System rfl rfl rfl rfl rfl rfl (by decide) (by decide) (by decide) (by decide) (by decide) ?_
    simp only [up2_n, up2_s, ne_eq, Nat.reduceEqDiff, not_false_eq_true, upr_n]
    refine x_aload_n dSayings_become_45 rfl ?_
    refine x_getR fl_Sayings_21 rfl dSayings_become_46 rfl rfl rfl ?_
    refine x_iconst (v := 0) dSayings_become_49 rfl ?_
    refine x_aload_n dSayings_become_50 rfl ?_
    refine x_getR fl_Sayings_21 rfl dSayings_become_51 rfl rfl rfl ?_
    refine x_iconst (v := 0) dSayings_become_54 rfl ?_
    refine x_bipush (v := 11) dSayings_become_55 rfl ?_
    -- at 57: .invokestatic 32
    refine x_acopy dSayings_become_57 ml_Sayings_32 na_ac st_ac it_System rfl rfl rfl rfl rfl rfl (by decide) (by decide) (by decide) (by decide) (by decide) ?_
    simp only [up2_n, up2_s, ne_eq, Nat.reduceEqDiff, not_false_eq_true, upr_n]
    refine x_aload_n dSayings_become_60 rfl ?_
    refine x_aload_n dSayings_become_61 rfl ?_
    refine x_getI fl_Sayings_24 rfl dSayings_become_62 rfl rfl ?_
    refine x_putI fl_Sayings_24 rfl dSayings_become_65 (by decide) rfl rfl rfl rfl ?_
    -- at 68: .return_
    simp only [up2_n, up2_s, ne_eq, Nat.reduceEqDiff, not_false_eq_true, upr_n]
    refine x_return dSayings_become_68 rfl ?_
    exact h1
def keepU (I : IM) (n : Nat) : IM := up2 (up2 (upr (up2 (sbU (tbU I 46 47 48 1 2 3) 49 50 51 52 53 18 19 20 21 22) 45 3 (nI n)) 54 (va_cpy (I 12) (I 54) 0 0 n)) 45 4 (I 30 3)) 45 5 1
def sp_Image_keep : SpT := fun as S I L Post => ∃ n : Nat, as = [.ref 45, .ref 1, .ref 4, .ref 18, .ref 30] ∧ S = S1 ∧ I 4 8 = nI n ∧ n ≤ 8 ∧ Post none S1 (keepU I n) L
set_option maxHeartbeats 4000000 in
set_option maxRecDepth 100000 in
theorem c_Image_keep : Con mImage_keep 3 0 0 sp_Image_keep := by
  refine con_of_X rfl fun G as S I L Post hs => ?_
  obtain ⟨n, rfl, rfl, hn, h8, h1⟩ := hs
  have ec : (nI n).toNatClampNeg = n := nI_clamp (by omega)
  have e0 : ¬ nI n < (0 : Int32) := Int32.not_lt.mpr (nI_le (a := 0) (by omega) (by omega))
  refine ⟨0, Nat.le_of_ble_eq_true rfl, ?_⟩
  show X mImage_keep G _ S1 I L 0 [.ref 45, .ref 1, .ref 4, .ref 18, .ref 30] [] Post
  refine x_aload_n dImage_keep_0 rfl ?_
  refine x_getR fl_Image_12 rfl dImage_keep_1 rfl rfl rfl ?_
  refine x_aload_n dImage_keep_4 rfl ?_
  -- at 5: .invokevirtual 40
  refine x_callV_1 c_Town_become ok_Town_become ml_Image_40 dImage_keep_5 rfl rfl rfl rfl rfl ?_
  refine ⟨rfl, Or.inl ⟨rfl, ?_⟩⟩
  refine x_aload_n dImage_keep_8 rfl ?_
  refine x_getR fl_Image_21 rfl dImage_keep_9 rfl rfl rfl ?_
  refine x_aload_n dImage_keep_12 rfl ?_
  -- at 13: .invokevirtual 44
  refine x_callV_1 c_Sayings_become ok_Sayings_become ml_Image_44 dImage_keep_13 rfl rfl rfl rfl rfl ?_
  refine ⟨rfl, Or.inl ⟨rfl, ?_⟩⟩
  refine x_aload_n dImage_keep_16 rfl ?_
  refine x_aload_n dImage_keep_17 rfl ?_
  refine x_getI fl_Image_47 rfl dImage_keep_18 rfl rfl ?_
  -- at 21: .putfield 29
  have em : sbU (tbU I 46 47 48 1 2 3) 49 50 51 52 53 18 19 20 21 22 4 8 = nI n := by
    unfold sbU tbU
    simp only [up2_n, up2_s, ne_eq, Nat.reduceEqDiff, not_false_eq_true, upr_n]
    exact hn
  rw [em]
  refine x_putI fl_Image_29 rfl dImage_keep_21 (by decide) rfl rfl rfl rfl ?_
  refine x_aload_n dImage_keep_24 rfl ?_
  refine x_getR fl_Image_52 rfl dImage_keep_25 rfl rfl rfl ?_
  refine x_iconst (v := 0) dImage_keep_28 rfl ?_
  refine x_aload_n dImage_keep_29 rfl ?_
  refine x_getR fl_Image_25 rfl dImage_keep_30 rfl rfl rfl ?_
  refine x_iconst (v := 0) dImage_keep_33 rfl ?_
  refine x_aload_n dImage_keep_34 rfl ?_
  refine x_getI fl_Image_29 rfl dImage_keep_35 rfl rfl ?_
  -- at 38: .invokestatic 53
  simp only [up2_n, up2_s, ne_eq, Nat.reduceEqDiff, not_false_eq_true, up1, if_true]
  refine x_acopy dImage_keep_38 ml_Image_53 na_ac st_ac it_System rfl rfl rfl rfl rfl rfl (by decide) (by decide) e0 (by rw [ec]; show 0 + n ≤ 8; omega) (by rw [ec]; show 0 + n ≤ 8; omega) ?_
  refine x_aload_n dImage_keep_41 rfl ?_
  refine x_aload dImage_keep_42 rfl ?_
  refine x_getI fl_Image_59 rfl dImage_keep_44 rfl rfl ?_
  refine x_putI fl_Image_33 rfl dImage_keep_47 (by decide) rfl rfl rfl rfl ?_
  refine x_aload_n dImage_keep_50 rfl ?_
  refine x_iconst (v := 1) dImage_keep_51 rfl ?_
  refine x_putI fl_Image_36 rfl dImage_keep_52 (by decide) rfl rfl rfl rfl ?_
  -- at 55: .return_
  have e12 : sbU (tbU I 46 47 48 1 2 3) 49 50 51 52 53 18 19 20 21 22 12 = I 12 := by
    unfold sbU tbU
    simp only [up2_n, up2_s, ne_eq, Nat.reduceEqDiff, not_false_eq_true, upr_n]
  have e54 : sbU (tbU I 46 47 48 1 2 3) 49 50 51 52 53 18 19 20 21 22 54 = I 54 := by
    unfold sbU tbU
    simp only [up2_n, up2_s, ne_eq, Nat.reduceEqDiff, not_false_eq_true, upr_n]
  have e30 : sbU (tbU I 46 47 48 1 2 3) 49 50 51 52 53 18 19 20 21 22 30 = I 30 := by
    unfold sbU tbU
    simp only [up2_n, up2_s, ne_eq, Nat.reduceEqDiff, not_false_eq_true, upr_n]
  simp only [up2_n, up2_s, ne_eq, Nat.reduceEqDiff, not_false_eq_true, upr_n, e12, e54, e30, ec]
  refine x_return dImage_keep_55 rfl ?_
  exact h1
def gbU (I : IM) (n : Nat) : IM := up2 (upr (sbU (tbU I 1 2 3 46 47 48) 18 19 20 21 22 49 50 51 52 53) 12 (va_cpy (I 54) (I 12) 0 0 n)) 30 3 (I 45 4)
def sp_Image_giveBack : SpT := fun as S I L Post => ∃ n : Nat, as = [.ref 45, .ref 1, .ref 4, .ref 18, .ref 30] ∧ S = S1 ∧ I 45 3 = nI n ∧ n ≤ 8 ∧ Post none S1 (gbU I n) L
set_option maxHeartbeats 4000000 in
set_option maxRecDepth 100000 in
theorem c_Image_giveBack : Con mImage_giveBack 3 0 0 sp_Image_giveBack := by
  refine con_of_X rfl fun G as S I L Post hs => ?_
  obtain ⟨n, rfl, rfl, hn, h8, h1⟩ := hs
  have ec : (nI n).toNatClampNeg = n := nI_clamp (by omega)
  have e0 : ¬ nI n < (0 : Int32) := Int32.not_lt.mpr (nI_le (a := 0) (by omega) (by omega))
  refine ⟨0, Nat.le_of_ble_eq_true rfl, ?_⟩
  show X mImage_giveBack G _ S1 I L 0 [.ref 45, .ref 1, .ref 4, .ref 18, .ref 30] [] Post
  refine x_aload_n dImage_giveBack_0 rfl ?_
  refine x_aload_n dImage_giveBack_1 rfl ?_
  refine x_getR fl_Image_12 rfl dImage_giveBack_2 rfl rfl rfl ?_
  -- at 5: .invokevirtual 40
  refine x_callV_1 c_Town_become ok_Town_become ml_Image_40 dImage_giveBack_5 rfl rfl rfl rfl rfl ?_
  refine ⟨rfl, Or.inr ⟨rfl, ?_⟩⟩
  refine x_aload_n dImage_giveBack_8 rfl ?_
  refine x_aload_n dImage_giveBack_9 rfl ?_
  refine x_getR fl_Image_21 rfl dImage_giveBack_10 rfl rfl rfl ?_
  -- at 13: .invokevirtual 44
  refine x_callV_1 c_Sayings_become ok_Sayings_become ml_Image_44 dImage_giveBack_13 rfl rfl rfl rfl rfl ?_
  refine ⟨rfl, Or.inr ⟨rfl, ?_⟩⟩
  refine x_aload_n dImage_giveBack_16 rfl ?_
  refine x_getR fl_Image_25 rfl dImage_giveBack_17 rfl rfl rfl ?_
  refine x_iconst (v := 0) dImage_giveBack_20 rfl ?_
  refine x_aload_n dImage_giveBack_21 rfl ?_
  refine x_getR fl_Image_52 rfl dImage_giveBack_22 rfl rfl rfl ?_
  refine x_iconst (v := 0) dImage_giveBack_25 rfl ?_
  refine x_aload_n dImage_giveBack_26 rfl ?_
  refine x_getI fl_Image_29 rfl dImage_giveBack_27 rfl rfl ?_
  -- at 30: .invokestatic 53
  have em : sbU (tbU I 1 2 3 46 47 48) 18 19 20 21 22 49 50 51 52 53 45 3 = nI n := by
    unfold sbU tbU
    simp only [up2_n, up2_s, ne_eq, Nat.reduceEqDiff, not_false_eq_true, upr_n]
    exact hn
  rw [em]
  refine x_acopy dImage_giveBack_30 ml_Image_53 na_ac st_ac it_System rfl rfl rfl rfl rfl rfl (by decide) (by decide) e0 (by rw [ec]; show 0 + n ≤ 8; omega) (by rw [ec]; show 0 + n ≤ 8; omega) ?_
  refine x_aload dImage_giveBack_33 rfl ?_
  refine x_aload_n dImage_giveBack_35 rfl ?_
  refine x_getI fl_Image_33 rfl dImage_giveBack_36 rfl rfl ?_
  refine x_putI fl_Image_59 rfl dImage_giveBack_39 (by decide) rfl rfl rfl rfl ?_
  -- at 42: .return_
  have e12 : sbU (tbU I 1 2 3 46 47 48) 18 19 20 21 22 49 50 51 52 53 12 = I 12 := by
    unfold sbU tbU
    simp only [up2_n, up2_s, ne_eq, Nat.reduceEqDiff, not_false_eq_true, upr_n]
  have e54 : sbU (tbU I 1 2 3 46 47 48) 18 19 20 21 22 49 50 51 52 53 54 = I 54 := by
    unfold sbU tbU
    simp only [up2_n, up2_s, ne_eq, Nat.reduceEqDiff, not_false_eq_true, upr_n]
  have e45 : sbU (tbU I 1 2 3 46 47 48) 18 19 20 21 22 49 50 51 52 53 45 = I 45 := by
    unfold sbU tbU
    simp only [up2_n, up2_s, ne_eq, Nat.reduceEqDiff, not_false_eq_true, upr_n]
  simp only [up2_n, up2_s, ne_eq, Nat.reduceEqDiff, not_false_eq_true, upr_n, e12, e54, e45, ec]
  refine x_return dImage_giveBack_42 rfl ?_
  exact h1
/-- all that an image keeps; as in it -/
def imageU (E : IM) : IM := fun a => match a with
  | 19 => E 0 | 20 => E 1 | 21 => E 9 | 22 => E 14 | 23 => E 15 | 24 => E 16 | 25 => E 17
  | 29 => fun j => match j with
    | 7 => 1 | 8 => E 29 0 | 9 => E 29 1 | 10 => E 29 3 | 11 => E 29 5 | j => E 29 j
  | a => E a
def backU0 (E : IM) : IM := fun a => match a with
  | 0 => E 19 | 1 => E 20 | 9 => fun j => if j < cl (E 29 9) then E 21 j else E 9 j | 14 => E 22 | 15 => E 23 | 16 => E 24 | 17 => E 25
  | 29 => fun j => match j with
    | 0 => E 29 8 | 3 => E 29 10 | 5 => E 29 11 | j => E 29 j
  | a => E a
def backU (E : IM) : IM := if ¬ E 29 7 = 0 then backU0 E else E
def backS (E : IM) : Int32 := if ¬ E 29 7 = 0 then E 29 10 else -3
theorem keep_cE (I : IM) (hok : cOk I) : cE (keepU I (pN (cE I))) = imageU (cE I) := by
  have hn : I 4 8 = nI (pN (cE I)) := hok.1.1
  have h8 := hok.1.2.1
  have hm : I 18 4 = nI (sN (cE I)) := hok.2.2.1.1
  have h10 := hok.2.2.1.2.1
  have hz := hok.2.2.2.2.2.2.2.2
  have en : pN (cE I) = cl (I 4 8) := rfl
  have es : sN (cE I) = cl (I 18 4) := rfl
  generalize pN (cE I) = n at hn h8 en ⊢
  generalize sN (cE I) = m at hm h10 es
  generalize hJ : keepU I n = J
  have ho : ∀ k, k ∉ [45, 46, 47, 48, 49, 50, 51, 52, 53, 54] → J k = I k := by
    intro k hk
    simp only [List.mem_cons, List.not_mem_nil, or_false, not_or] at hk
    subst hJ
    unfold keepU sbU tbU
    rw [up2_n _ _ _ (by omega), up2_n _ _ _ (by omega), upr_n _ _ (by omega), up2_n _ _ _ (by omega), up2_n _ _ _ (by omega), upr_n _ _ (by omega), upr_n _ _ (by omega), upr_n _ _ (by omega), upr_n _ _ (by omega), up2_n _ _ _ (by omega), upr_n _ _ (by omega), upr_n _ _ (by omega)]
  have e47 : J 47 = va_cpy (I 2) (I 47) 0 0 36 := by subst hJ; unfold keepU sbU tbU; simp only [up2_n, up2_s, ne_eq, Nat.reduceEqDiff, not_false_eq_true, upr_n, upr_s]
  have e48 : J 48 = va_cpy (I 3) (I 48) 0 0 6 := by subst hJ; unfold keepU sbU tbU; simp only [up2_n, up2_s, ne_eq, Nat.reduceEqDiff, not_false_eq_true, upr_n, upr_s]
  have e50 : J 50 = va_cpy (I 19) (I 50) 0 0 11 := by subst hJ; unfold keepU sbU tbU; simp only [up2_n, up2_s, ne_eq, Nat.reduceEqDiff, not_false_eq_true, upr_n, upr_s]
  have e51 : J 51 = va_cpy (I 20) (I 51) 0 0 11 := by subst hJ; unfold keepU sbU tbU; simp only [up2_n, up2_s, ne_eq, Nat.reduceEqDiff, not_false_eq_true, upr_n, upr_s]
  have e52 : J 52 = va_cpy (I 21) (I 52) 0 0 11 := by subst hJ; unfold keepU sbU tbU; simp only [up2_n, up2_s, ne_eq, Nat.reduceEqDiff, not_false_eq_true, upr_n, upr_s]
  have e53 : J 53 = va_cpy (I 22) (I 53) 0 0 11 := by subst hJ; unfold keepU sbU tbU; simp only [up2_n, up2_s, ne_eq, Nat.reduceEqDiff, not_false_eq_true, upr_n, upr_s]
  have e54 : J 54 = va_cpy (I 12) (I 54) 0 0 n := by subst hJ; unfold keepU; simp only [up2_n, up2_s, ne_eq, Nat.reduceEqDiff, not_false_eq_true, upr_n, upr_s]
  have hs7 : J 45 5 = 1 := by subst hJ; unfold keepU; simp only [up2_n, up2_s, ne_eq, Nat.reduceEqDiff, not_false_eq_true, upr_n, upr_s]; simp [up1]
  have hs8 : J 46 2 = I 1 2 := by subst hJ; unfold keepU sbU tbU; simp only [up2_n, up2_s, ne_eq, Nat.reduceEqDiff, not_false_eq_true, upr_n, upr_s]; simp [up1]
  have hs9 : J 45 3 = nI n := by subst hJ; unfold keepU; simp only [up2_n, up2_s, ne_eq, Nat.reduceEqDiff, not_false_eq_true, upr_n, upr_s]; simp [up1]
  have hs10 : J 49 4 = I 18 4 := by subst hJ; unfold keepU sbU tbU; simp only [up2_n, up2_s, ne_eq, Nat.reduceEqDiff, not_false_eq_true, upr_n, upr_s]; simp [up1]
  have hs11 : J 45 4 = I 30 3 := by subst hJ; unfold keepU; simp only [up2_n, up2_s, ne_eq, Nat.reduceEqDiff, not_false_eq_true, upr_n, upr_s]; simp [up1]
  have k22 : ∀ a b : Nat, J a = va_cpy (I b) (I a) 0 0 11 → mk (cl (J 49 4)) (J a) = mk (cl (I 18 4)) (I b) := fun a b e => by
    rw [hs10, e, ← es]
    exact mk_cpy (by omega)
  funext a
  match a with
  | 0 => exact ho 2 (by decide)
  | 1 => exact ho 3 (by decide)
  | 2 => exact ho 5 (by decide)
  | 3 => exact ho 6 (by decide)
  | 4 => exact ho 7 (by decide)
  | 5 => exact ho 8 (by decide)
  | 6 => exact ho 9 (by decide)
  | 7 => exact ho 10 (by decide)
  | 8 => exact ho 11 (by decide)
  | 9 => show mk (cl (J 4 8)) (J 12) = mk (cl (I 4 8)) (I 12); rw [ho 4 (by decide), ho 12 (by decide)]
  | 10 => exact ho 14 (by decide)
  | 11 => exact ho 15 (by decide)
  | 12 => exact ho 16 (by decide)
  | 13 => exact ho 17 (by decide)
  | 14 => show mk (cl (J 18 4)) (J 19) = mk (cl (I 18 4)) (I 19); rw [ho 18 (by decide), ho 19 (by decide)]
  | 15 => show mk (cl (J 18 4)) (J 20) = mk (cl (I 18 4)) (I 20); rw [ho 18 (by decide), ho 20 (by decide)]
  | 16 => show mk (cl (J 18 4)) (J 21) = mk (cl (I 18 4)) (I 21); rw [ho 18 (by decide), ho 21 (by decide)]
  | 17 => show mk (cl (J 18 4)) (J 22) = mk (cl (I 18 4)) (I 22); rw [ho 18 (by decide), ho 22 (by decide)]
  | 18 => show mk (cl (J 23 1)) (J 24) = mk (cl (I 23 1)) (I 24); rw [ho 23 (by decide), ho 24 (by decide)]
  | 19 => exact e47.trans (cpy_full (fun j hj => (hz j).1 hj))
  | 20 => exact e48.trans (cpy_full (fun j hj => (hz j).2 hj))
  | 21 => exact (show mk (cl (J 45 3)) (J 54) = mk (cl (I 4 8)) (I 12) by rw [hs9, e54, ← en, cl_nI (by omega)]; exact mk_cpy (Nat.le_refl _))
  | 22 => exact k22 50 19 e50
  | 23 => exact k22 51 20 e51
  | 24 => exact k22 52 21 e52
  | 25 => exact k22 53 22 e53
  | 26 => exact ho 56 (by decide)
  | 27 => exact ho 57 (by decide)
  | 28 => exact ho 58 (by decide)
  | 29 =>
    funext j
    match j with
    | 0 => exact congrFun (ho 1 (by decide)) 2
    | 1 => exact congrFun (ho 4 (by decide)) 8
    | 2 => exact congrFun (ho 13 (by decide)) 4
    | 3 => exact congrFun (ho 18 (by decide)) 4
    | 4 => exact congrFun (ho 30 (by decide)) 2
    | 5 => exact congrFun (ho 30 (by decide)) 3
    | 6 => exact congrFun (ho 23 (by decide)) 1
    | 7 => exact hs7
    | 8 => exact hs8
    | 9 => exact hs9.trans hn.symm
    | 10 => exact hs10
    | 11 => exact hs11
    | n + 12 => rfl
  | 30 => show mk (4 * cl (J 30 2)) (J 32) = mk (4 * cl (I 30 2)) (I 32); rw [ho 30 (by decide), ho 32 (by decide)]
  | 31 => show (fun j => if j / 200 < cl (J 30 2) ∧ j % 200 < cl (J 32 (4 * (j / 200) + 3)) then enc (J 31 (160 * (j / 200) + j % 200)) else 0) = (fun j => if j / 200 < cl (I 30 2) ∧ j % 200 < cl (I 32 (4 * (j / 200) + 3)) then enc (I 31 (160 * (j / 200) + j % 200)) else 0); rw [ho 30 (by decide), ho 32 (by decide), ho 31 (by decide)]
  | n + 32 => rfl
theorem back_cE (I : IM) (hok : cOk I) (n : Nat) (hn : I 45 3 = nI n) (hnp : n ≤ pN (cE I)) (h10 : cl (I 49 4) ≤ 10) : cE (gbU I n) = backU0 (cE I) := by
  have hpn : I 4 8 = nI (pN (cE I)) := hok.1.1
  have h8 := hok.1.2.1
  have hz := hok.2.2.2.2.2.2.2.2
  have ep : pN (cE I) = cl (I 4 8) := rfl
  generalize pN (cE I) = p at hpn h8 ep hnp
  generalize hJ : gbU I n = J
  have ho : ∀ k, k ∉ [1, 2, 3, 12, 18, 19, 20, 21, 22, 30] → J k = I k := by
    intro k hk
    simp only [List.mem_cons, List.not_mem_nil, or_false, not_or] at hk
    subst hJ
    unfold gbU sbU tbU
    rw [up2_n _ _ _ (by omega), upr_n _ _ (by omega), up2_n _ _ _ (by omega), upr_n _ _ (by omega), upr_n _ _ (by omega), upr_n _ _ (by omega), upr_n _ _ (by omega), up2_n _ _ _ (by omega), upr_n _ _ (by omega), upr_n _ _ (by omega)]
  have e2 : J 2 = va_cpy (I 47) (I 2) 0 0 36 := by subst hJ; unfold gbU sbU tbU; simp only [up2_n, up2_s, ne_eq, Nat.reduceEqDiff, not_false_eq_true, upr_n, upr_s]
  have e3 : J 3 = va_cpy (I 48) (I 3) 0 0 6 := by subst hJ; unfold gbU sbU tbU; simp only [up2_n, up2_s, ne_eq, Nat.reduceEqDiff, not_false_eq_true, upr_n, upr_s]
  have e19 : J 19 = va_cpy (I 50) (I 19) 0 0 11 := by subst hJ; unfold gbU sbU tbU; simp only [up2_n, up2_s, ne_eq, Nat.reduceEqDiff, not_false_eq_true, upr_n, upr_s]
  have e20 : J 20 = va_cpy (I 51) (I 20) 0 0 11 := by subst hJ; unfold gbU sbU tbU; simp only [up2_n, up2_s, ne_eq, Nat.reduceEqDiff, not_false_eq_true, upr_n, upr_s]
  have e21 : J 21 = va_cpy (I 52) (I 21) 0 0 11 := by subst hJ; unfold gbU sbU tbU; simp only [up2_n, up2_s, ne_eq, Nat.reduceEqDiff, not_false_eq_true, upr_n, upr_s]
  have e22 : J 22 = va_cpy (I 53) (I 22) 0 0 11 := by subst hJ; unfold gbU sbU tbU; simp only [up2_n, up2_s, ne_eq, Nat.reduceEqDiff, not_false_eq_true, upr_n, upr_s]
  have e12 : J 12 = va_cpy (I 54) (I 12) 0 0 n := by subst hJ; unfold gbU; simp only [up2_n, up2_s, ne_eq, Nat.reduceEqDiff, not_false_eq_true, upr_n, upr_s]
  have e4 : J 4 = I 4 := ho 4 (by decide)
  have h30 : ∀ j, j ≠ 3 → J 30 j = I 30 j := by
    intro j hj
    subst hJ
    unfold gbU sbU tbU
    simp only [up2_n, up2_s, ne_eq, Nat.reduceEqDiff, not_false_eq_true, upr_n, upr_s]
    simp [up1, hj]
  have hs0 : J 1 2 = I 46 2 := by subst hJ; unfold gbU sbU tbU; simp only [up2_n, up2_s, ne_eq, Nat.reduceEqDiff, not_false_eq_true, upr_n, upr_s]; simp [up1]
  have hs3 : J 18 4 = I 49 4 := by subst hJ; unfold gbU sbU tbU; simp only [up2_n, up2_s, ne_eq, Nat.reduceEqDiff, not_false_eq_true, upr_n, upr_s]; simp [up1]
  have hs4 : J 30 2 = I 30 2 := h30 2 (by decide)
  have hs5 : J 30 3 = I 45 4 := by subst hJ; unfold gbU; simp only [up2_n, up2_s, ne_eq, Nat.reduceEqDiff, not_false_eq_true, upr_n, upr_s]; simp [up1]
  have hs1 : J 4 8 = I 4 8 := by rw [e4]
  have k22 : ∀ a b : Nat, J a = va_cpy (I b) (I a) 0 0 11 → mk (cl (J 18 4)) (J a) = mk (cl (I 49 4)) (I b) := fun a b e => by
    rw [hs3, e]
    exact mk_cpy (by omega)
  funext a
  match a with
  | 0 => exact e2.trans (cpy_full (fun j hj => ((hz j).1 hj).symm))
  | 1 => exact e3.trans (cpy_full (fun j hj => ((hz j).2 hj).symm))
  | 2 => exact ho 5 (by decide)
  | 3 => exact ho 6 (by decide)
  | 4 => exact ho 7 (by decide)
  | 5 => exact ho 8 (by decide)
  | 6 => exact ho 9 (by decide)
  | 7 => exact ho 10 (by decide)
  | 8 => exact ho 11 (by decide)
  | 9 => exact (show mk (cl (J 4 8)) (J 12) = (fun j => if j < cl (I 45 3) then mk (cl (I 45 3)) (I 54) j else mk (cl (I 4 8)) (I 12) j) by
      rw [hs1, e12, hn, cl_nI (by omega), ← ep]
      funext j
      by_cases hj : j < n
      · rw [if_pos hj, mk_lt (by omega), mk_lt hj, sb_cpy0 hj]
      · rw [if_neg hj]
        unfold mk
        by_cases h2 : j < p
        · rw [if_pos h2, if_pos h2, pk_cpy_out (Or.inr (by omega))]
        · rw [if_neg h2, if_neg h2])
  | 10 => exact ho 14 (by decide)
  | 11 => exact ho 15 (by decide)
  | 12 => exact ho 16 (by decide)
  | 13 => exact ho 17 (by decide)
  | 14 => exact k22 19 50 e19
  | 15 => exact k22 20 51 e20
  | 16 => exact k22 21 52 e21
  | 17 => exact k22 22 53 e22
  | 18 => show mk (cl (J 23 1)) (J 24) = mk (cl (I 23 1)) (I 24); rw [ho 23 (by decide), ho 24 (by decide)]
  | 19 => exact ho 47 (by decide)
  | 20 => exact ho 48 (by decide)
  | 21 => show mk (cl (J 45 3)) (J 54) = mk (cl (I 45 3)) (I 54); rw [ho 45 (by decide), ho 54 (by decide)]
  | 22 => show mk (cl (J 49 4)) (J 50) = mk (cl (I 49 4)) (I 50); rw [ho 49 (by decide), ho 50 (by decide)]
  | 23 => show mk (cl (J 49 4)) (J 51) = mk (cl (I 49 4)) (I 51); rw [ho 49 (by decide), ho 51 (by decide)]
  | 24 => show mk (cl (J 49 4)) (J 52) = mk (cl (I 49 4)) (I 52); rw [ho 49 (by decide), ho 52 (by decide)]
  | 25 => show mk (cl (J 49 4)) (J 53) = mk (cl (I 49 4)) (I 53); rw [ho 49 (by decide), ho 53 (by decide)]
  | 26 => exact ho 56 (by decide)
  | 27 => exact ho 57 (by decide)
  | 28 => exact ho 58 (by decide)
  | 29 =>
    funext j
    match j with
    | 0 => exact hs0
    | 1 => exact hs1
    | 2 => exact congrFun (ho 13 (by decide)) 4
    | 3 => exact hs3
    | 4 => exact hs4
    | 5 => exact hs5
    | 6 => exact congrFun (ho 23 (by decide)) 1
    | 7 => exact congrFun (ho 45 (by decide)) 5
    | 8 => exact congrFun (ho 46 (by decide)) 2
    | 9 => exact congrFun (ho 45 (by decide)) 3
    | 10 => exact congrFun (ho 49 (by decide)) 4
    | 11 => exact congrFun (ho 45 (by decide)) 4
    | n + 12 => rfl
  | 30 => exact (show mk (4 * cl (J 30 2)) (J 32) = mk (4 * cl (I 30 2)) (I 32) by rw [hs4, ho 32 (by decide)])
  | 31 => exact (show (fun j => if j / 200 < cl (J 30 2) ∧ j % 200 < cl (J 32 (4 * (j / 200) + 3)) then enc (J 31 (160 * (j / 200) + j % 200)) else 0) = (fun j => if j / 200 < cl (I 30 2) ∧ j % 200 < cl (I 32 (4 * (j / 200) + 3)) then enc (I 31 (160 * (j / 200) + j % 200)) else 0) by rw [hs4, ho 31 (by decide), ho 32 (by decide)])
  | n + 32 => rfl
def sp_W_image : SpT := cSp [] (fun E => .int (E 29 3)) imageU
set_option maxHeartbeats 4000000 in
set_option maxRecDepth 100000 in
theorem c_W_image : Con mW_image 4 0 0 sp_W_image := by
  refine con_of_X rfl fun G as S I L Post hs => ?_
  obtain ⟨rfl, rfl, hok, h1⟩ := hs
  dsimp only at h1
  refine ⟨0, Nat.le_of_ble_eq_true rfl, ?_⟩
  show X mW_image G _ S1 I L 0 [.ref 0] [] Post
  refine x_aload_n dW_image_0 rfl ?_
  refine x_getR fl_W_63 rfl dW_image_1 rfl rfl rfl ?_
  refine x_aload_n dW_image_4 rfl ?_
  refine x_getR fl_W_12 rfl dW_image_5 rfl rfl rfl ?_
  refine x_aload_n dW_image_8 rfl ?_
  refine x_getR fl_W_19 rfl dW_image_9 rfl rfl rfl ?_
  refine x_aload_n dW_image_12 rfl ?_
  refine x_getR fl_W_33 rfl dW_image_13 rfl rfl rfl ?_
  refine x_aload_n dW_image_16 rfl ?_
  refine x_getR fl_W_47 rfl dW_image_17 rfl rfl rfl ?_
  -- at 20: .invokevirtual 321
  refine x_callV_4 c_Image_keep ok_Image_keep ml_W_321 dW_image_20 rfl rfl rfl rfl rfl ?_
  refine ⟨pN (cE I), rfl, rfl, hok.1.1, hok.1.2.1, ?_⟩
  refine x_aload_n dW_image_23 rfl ?_
  refine x_getR fl_W_33 rfl dW_image_24 rfl rfl rfl ?_
  refine x_getI fl_W_125 rfl dW_image_27 rfl rfl ?_
  -- at 30: .ireturn
  have e : keepU I (pN (cE I)) 18 4 = I 18 4 := by
    unfold keepU sbU tbU
    simp only [up2_n, up2_s, ne_eq, Nat.reduceEqDiff, not_false_eq_true, upr_n]
  rw [e]
  refine x_ireturn dW_image_30 rfl rfl ?_
  exact h1 _ (fun k hk => by unfold keepU sbU tbU; rw [up2_n _ _ _ (by omega), up2_n _ _ _ (by omega), upr_n _ _ (by omega), up2_n _ _ _ (by omega), up2_n _ _ _ (by omega), upr_n _ _ (by omega), upr_n _ _ (by omega), upr_n _ _ (by omega), upr_n _ _ (by omega), up2_n _ _ _ (by omega), upr_n _ _ (by omega), upr_n _ _ (by omega)]) (keep_cE I hok)
def sp_W_back : SpT := cSp [] (fun E => .int (backS E)) backU
set_option maxHeartbeats 4000000 in
set_option maxRecDepth 100000 in
theorem c_W_back : Con mW_back 4 0 0 sp_W_back := by
  refine con_of_X rfl fun G as S I L Post hs => ?_
  obtain ⟨rfl, rfl, hok, h1⟩ := hs
  dsimp only at h1
  refine ⟨0, Nat.le_of_ble_eq_true rfl, ?_⟩
  show X mW_back G _ S1 I L 0 [.ref 0] [] Post
  obtain ⟨-, ⟨n, hnp, hn, -⟩, ⟨m, hm, em, -⟩, -⟩ := hok.2.2.2.2.2.2.1
  have h8 := hok.1.2.1
  refine x_aload_n dW_back_0 rfl ?_
  refine x_getR fl_W_63 rfl dW_back_1 rfl rfl rfl ?_
  refine x_getI fl_W_325 rfl dW_back_4 rfl rfl ?_
  -- at 7: .ifCond .ne 6
  refine x_if_ne (tgt := 13) dW_back_7 (by decide) (fun c1 => ?_) (fun c1 => ?_)
  · rw [backS, backU, if_pos (show ¬ cE I 29 7 = 0 from c1), if_pos (show ¬ cE I 29 7 = 0 from c1)] at h1
    refine x_aload_n dW_back_13 rfl ?_
    refine x_getR fl_W_63 rfl dW_back_14 rfl rfl rfl ?_
    refine x_aload_n dW_back_17 rfl ?_
    refine x_getR fl_W_12 rfl dW_back_18 rfl rfl rfl ?_
    refine x_aload_n dW_back_21 rfl ?_
    refine x_getR fl_W_19 rfl dW_back_22 rfl rfl rfl ?_
    refine x_aload_n dW_back_25 rfl ?_
    refine x_getR fl_W_33 rfl dW_back_26 rfl rfl rfl ?_
    refine x_aload_n dW_back_29 rfl ?_
    refine x_getR fl_W_47 rfl dW_back_30 rfl rfl rfl ?_
    -- at 33: .invokevirtual 329
    refine x_callV_4 c_Image_giveBack ok_Image_giveBack ml_W_329 dW_back_33 rfl rfl rfl rfl rfl ?_
    refine ⟨n, rfl, rfl, hn, by omega, ?_⟩
    refine x_aload_n dW_back_36 rfl ?_
    refine x_getR fl_W_33 rfl dW_back_37 rfl rfl rfl ?_
    refine x_getI fl_W_125 rfl dW_back_40 rfl rfl ?_
    -- at 43: .ireturn
    have e : gbU I n 18 4 = I 49 4 := by
      unfold gbU sbU tbU
      simp only [up2_n, up2_s, ne_eq, Nat.reduceEqDiff, not_false_eq_true, upr_n]
      simp [up1]
    rw [e]
    refine x_ireturn dW_back_43 rfl rfl ?_
    have em : I 49 4 = nI m := em
    exact h1 _ (fun k hk => by unfold gbU sbU tbU; rw [up2_n _ _ _ (by omega), upr_n _ _ (by omega), up2_n _ _ _ (by omega), upr_n _ _ (by omega), upr_n _ _ (by omega), upr_n _ _ (by omega), upr_n _ _ (by omega), up2_n _ _ _ (by omega), upr_n _ _ (by omega), upr_n _ _ (by omega)]) (back_cE I hok n hn hnp (by rw [em, cl_nI (by omega)]; exact hm))
  · rw [backS, backU, if_neg (show ¬ ¬ cE I 29 7 = 0 from fun z => z c1), if_neg (show ¬ ¬ cE I 29 7 = 0 from fun z => z c1)] at h1
    refine x_bipush (v := -3) dW_back_10 rfl ?_
    -- at 12: .ireturn
    refine x_ireturn dW_back_12 rfl rfl ?_
    exact h1 I (fun _ _ => rfl) rfl
end
section
-- 47.wf
/-! the class's calls: the host -/
def zer40 (f : Nat → Int32) (s : Nat) : Nat → Int32 := fun j => if s * 40 ≤ j ∧ j < s * 40 + 40 then 0 else f j
def shU (E : IM) (s : Nat) (k n : Int32) : IM := upr (up2 (up2 E 26 s k) 27 s n) 28 (zer40 (E 28) s)
def cshU (I : IM) (s : Nat) (k n : Int32) : IM := upr (up2 (up2 I 56 s k) 57 s n) 58 (zer40 (I 58) s)
def sp_Sheets_become : SpT := fun as S I L Post => ∃ (s : Nat) (k n : Int32), as = [.ref 55, .int (nI s), .int k, .int n] ∧ S = S1 ∧ s < 4 ∧ Post none S1 (cshU I s k n) L
set_option maxHeartbeats 4000000 in
set_option maxRecDepth 100000 in
theorem c_Sheets_become : Con mSheets_become 2 0 0 sp_Sheets_become := by
  refine con_of_X rfl fun G as S I L Post hs => ?_
  obtain ⟨s, k0, n, rfl, rfl, hs, h1⟩ := hs
  refine ⟨1, Nat.le_of_ble_eq_true rfl, ?_⟩
  show X mSheets_become G _ S1 I L 0 [.ref 55, .int (nI s), .int k0, .int n, .null] [] Post
  refine x_aload_n dSheets_become_0 rfl ?_
  refine x_getR fl_Sheets_9 rfl dSheets_become_1 rfl rfl rfl ?_
  refine x_iload_n dSheets_become_4 rfl ?_
  refine x_iload_n dSheets_become_5 rfl ?_
  refine x_iastJ (j := s) dSheets_become_6 rfl rfl (by first | rfl | (simp only [← nI_add, ← pk_mul]; rfl)) (by omega) ?_
  refine x_aload_n dSheets_become_7 rfl ?_
  refine x_getR fl_Sheets_15 rfl dSheets_become_8 rfl rfl rfl ?_
  refine x_iload_n dSheets_become_11 rfl ?_
  refine x_iload_n dSheets_become_12 rfl ?_
  refine x_iastJ (j := s) dSheets_become_13 rfl rfl (by first | rfl | (simp only [← nI_add, ← pk_mul]; rfl)) (by omega) ?_
  refine x_iconst (v := 0) dSheets_become_14 rfl ?_
  refine x_istore_4 dSheets_become_15 rfl rfl ?_
  -- at 17: .iload 4
  have loop : ∀ (k i : Nat) (I' : IM), i + k = 40 → I' = upr (up2 (up2 I 56 s k0) 57 s n) 58 (fun j => if s * 40 ≤ j ∧ j < s * 40 + i then 0 else I 58 j) →
      X mSheets_become G (2, 0, 0) S1 I' L 17 [.ref 55, .int (nI s), .int k0, .int n, .int (nI i)] [] Post := by
    intro k
    induction k with
    | zero =>
      intro i I' hi hI
      obtain rfl : i = 40 := by omega
      refine x_iload dSheets_become_17 rfl ?_
      refine x_bipush (v := 40) dSheets_become_19 rfl ?_
      -- at 21: .if_icmp .ge 22
      refine x_icmp_ge (tgt := 43) dSheets_become_21 (by decide) (fun _ => ?_) (fun h => absurd (Int32.le_refl _) h)
      refine x_return dSheets_become_43 rfl ?_
      rw [hI]
      exact h1
    | succ k ih =>
      intro i I' hi hI
      refine x_iload dSheets_become_17 rfl ?_
      refine x_bipush (v := 40) dSheets_become_19 rfl ?_
      -- at 21: .if_icmp .ge 22
      refine x_icmp_ge (tgt := 43) dSheets_become_21 (by decide) (fun h => absurd h (nI_ge (b := 40) (by omega) (by omega))) (fun _ => ?_)
      refine x_aload_n dSheets_become_24 rfl ?_
      refine x_getR fl_Sheets_18 rfl dSheets_become_25 rfl rfl rfl ?_
      refine x_iload_n dSheets_become_28 rfl ?_
      refine x_bipush (v := 40) dSheets_become_29 rfl ?_
      refine x_imul dSheets_become_31 ?_
      refine x_iload dSheets_become_32 rfl ?_
      refine x_iadd dSheets_become_34 ?_
      refine x_iconst (v := 0) dSheets_become_35 rfl ?_
      refine x_iastJ (j := s * 40 + i) dSheets_become_36 rfl rfl (by first | rfl | (simp only [← nI_add, ← pk_mul]; rfl)) (by omega) ?_
      -- at 37: .iinc 4 1
      refine x_iincp_4 dSheets_become_37 rfl rfl ?_
      refine x_goto (tgt := 17) dSheets_become_40 (by decide) ?_
      -- at 17: .iload 4
      rw [nI_1]
      refine ih (i + 1) _ (by omega) ?_
      rw [hI]
      funext a
      by_cases h : a = 58
      · subst h
        rw [up2_s, upr_s, upr_s]
        funext j
        unfold up1
        dsimp only
        by_cases hj : j = s * 40 + i
        · rw [if_pos hj, if_pos ⟨by omega, by omega⟩]
        · rw [if_neg hj]
          by_cases h2 : s * 40 ≤ j ∧ j < s * 40 + i
          · rw [if_pos h2, if_pos ⟨h2.1, by omega⟩]
          · rw [if_neg h2, if_neg (fun z => h2 ⟨z.1, by omega⟩)]
      · rw [up2_n _ _ _ h, upr_n _ _ h, upr_n _ _ h]
  refine loop 40 0 _ rfl ?_
  funext a
  by_cases h : a = 58
  · subst h
    rw [upr_s]
    simp only [up2_n, up2_s, ne_eq, Nat.reduceEqDiff, not_false_eq_true]
    funext j
    rw [if_neg (fun z => by omega)]
  · rw [upr_n _ _ h]
abbrev shC (s k n : Int32) : Prop := inR s 0 3 ∧ inR k (-1) 2 ∧ (k = -1 ∨ n ≤ 40)
def sheetS (s k n : Int32) : Int32 := if ¬ shC s k n then -2 else if ¬ k = -1 ∧ n < 0 then -14 else 1
def sheetU (E : IM) (s k n : Int32) : IM := if ¬ shC s k n then E else if ¬ k = -1 ∧ n < 0 then E else shU E (cl s) k (if k = -1 then 0 else n)
theorem cE_shU (I : IM) (s : Nat) (k n : Int32) : cE (cshU I s k n) = shU (cE I) s k n := by
  unfold cshU shU
  rw [cE_28, cE_u27, cE_u26]
  rfl
def sp_W_sheet : SpT := fun as S I L Post => ∃ s k n : Int32, cSp [.int s, .int k, .int n] (fun _ => .int (sheetS s k n)) (fun E => sheetU E s k n) as S I L Post
set_option maxHeartbeats 4000000 in
set_option maxRecDepth 100000 in
theorem c_W_sheet : Con mW_sheet 3 0 0 sp_W_sheet := by
  refine con_of_X rfl fun G as S I L Post hs => ?_
  obtain ⟨s, k, n, rfl, rfl, hok, h1⟩ := hs
  dsimp only at h1
  refine ⟨0, Nat.le_of_ble_eq_true rfl, ?_⟩
  show X mW_sheet G _ S1 I L 0 [.ref 0, .int s, .int k, .int n] [] Post
  have bad : ¬ shC s k n → Post (some (.int (-2))) S1 I L := by
    intro hc
    rw [sheetS, sheetU, if_pos hc, if_pos hc] at h1
    exact h1 I (fun _ _ => rfl) rfl
  refine x_iload_n dW_sheet_0 rfl ?_
  refine x_iconst (v := 0) dW_sheet_1 rfl ?_
  refine x_iconst (v := 3) dW_sheet_2 rfl ?_
  -- at 3: .invokestatic 101
  refine x_callS_3 c_W_within ok_W_within ml_W_101 dW_sheet_3 rfl rfl ?_
  refine ⟨_, _, _, rfl, fun a1 => ?_, fun a1 => ?_⟩
  · have a1 : inR s 0 3 := a1
    refine x_if_eq (tgt := 18) dW_sheet_6 (by decide) (fun h => absurd h (by decide)) (fun _ => ?_)
    refine x_iload_n dW_sheet_9 rfl ?_
    refine x_iconst (v := -1) dW_sheet_10 rfl ?_
    refine x_iconst (v := 2) dW_sheet_11 rfl ?_
    -- at 12: .invokestatic 101
    refine x_callS_3 c_W_within ok_W_within ml_W_101 dW_sheet_12 rfl rfl ?_
    refine ⟨_, _, _, rfl, fun a2 => ?_, fun a2 => ?_⟩
    · refine x_if_ne (tgt := 21) dW_sheet_15 (by decide) (fun _ => ?_) (fun h => absurd h (by decide))
      obtain ⟨i, hi, rfl⟩ := inR_of (n := 3) (by decide) a1
      have fin : ∀ n' : Int32, shC (nI i) k n → ¬ (¬ k = -1 ∧ n < 0) → n' = (if k = -1 then 0 else n) → X mW_sheet G (3, 0, 0) S1 I L 63 [.ref 0, .int (nI i), .int k, .int n] [.int n', .int k, .int (nI i), .ref 55] Post := by
        intro n' hc hc2 hn'
        rw [sheetS, sheetU, if_neg (not_not_intro hc), if_neg (not_not_intro hc), if_neg hc2, if_neg hc2, cl_nI (by omega)] at h1
        refine x_callV_3 c_Sheets_become ok_Sheets_become ml_W_332 dW_sheet_63 rfl rfl rfl rfl rfl ?_
        refine ⟨i, k, n', rfl, rfl, by omega, ?_⟩
        refine x_iconst (v := 1) dW_sheet_66 rfl ?_
        -- at 67: .ireturn
        refine x_ireturn dW_sheet_67 rfl rfl ?_
        refine h1 _ (fun j hj => by unfold cshU; rw [upr_n _ _ (by omega), up2_n _ _ _ (by omega), up2_n _ _ _ (by omega)]) ?_
        rw [cE_shU, hn']
      refine x_iload_n dW_sheet_21 rfl ?_
      refine x_iconst (v := -1) dW_sheet_22 rfl ?_
      -- at 23: .if_icmp .eq 12
      refine x_icmp_eq (tgt := 35) dW_sheet_23 (by decide) (fun c1 => ?_) (fun c1 => ?_)
      · have hc : shC (nI i) k n := ⟨a1, a2, Or.inl c1⟩
        refine x_iload_n dW_sheet_35 rfl ?_
        refine x_iconst (v := -1) dW_sheet_36 rfl ?_
        -- at 37: .if_icmp .eq 10
        refine x_icmp_eq (tgt := 47) dW_sheet_37 (by decide) (fun _ => ?_) (fun h => absurd c1 h)
        refine x_aload_n dW_sheet_47 rfl ?_
        refine x_getR fl_W_70 rfl dW_sheet_48 rfl rfl rfl ?_
        refine x_iload_n dW_sheet_51 rfl ?_
        refine x_iload_n dW_sheet_52 rfl ?_
        refine x_iload_n dW_sheet_53 rfl ?_
        refine x_iconst (v := -1) dW_sheet_54 rfl ?_
        -- at 55: .if_icmp .ne 7
        refine x_icmp_ne (tgt := 62) dW_sheet_55 (by decide) (fun h => absurd c1 h) (fun _ => ?_)
        refine x_iconst (v := 0) dW_sheet_58 rfl ?_
        refine x_goto (tgt := 63) dW_sheet_59 (by decide) ?_
        -- at 63: .invokevirtual 332
        exact fin 0 hc (fun z => z.1 c1) (by rw [if_pos c1])
      · refine x_iload_n dW_sheet_26 rfl ?_
        refine x_bipush (v := 40) dW_sheet_27 rfl ?_
        -- at 29: .if_icmp .le 6
        refine x_icmp_le (tgt := 35) dW_sheet_29 (by decide) (fun c2 => ?_) (fun c2 => ?_)
        · have hc : shC (nI i) k n := ⟨a1, a2, Or.inr c2⟩
          refine x_iload_n dW_sheet_35 rfl ?_
          refine x_iconst (v := -1) dW_sheet_36 rfl ?_
          -- at 37: .if_icmp .eq 10
          refine x_icmp_eq (tgt := 47) dW_sheet_37 (by decide) (fun h => absurd h c1) (fun _ => ?_)
          refine x_iload_n dW_sheet_40 rfl ?_
          -- at 41: .ifCond .ge 6
          refine x_if_ge (tgt := 47) dW_sheet_41 (by decide) (fun c3 => ?_) (fun c3 => ?_)
          · refine x_aload_n dW_sheet_47 rfl ?_
            refine x_getR fl_W_70 rfl dW_sheet_48 rfl rfl rfl ?_
            refine x_iload_n dW_sheet_51 rfl ?_
            refine x_iload_n dW_sheet_52 rfl ?_
            refine x_iload_n dW_sheet_53 rfl ?_
            refine x_iconst (v := -1) dW_sheet_54 rfl ?_
            -- at 55: .if_icmp .ne 7
            refine x_icmp_ne (tgt := 62) dW_sheet_55 (by decide) (fun _ => ?_) (fun h => absurd h c1)
            refine x_iload_n dW_sheet_62 rfl ?_
            -- at 63: .invokevirtual 332
            exact fin n hc (fun z => absurd z.2 (Int32.not_lt.mpr c3)) (by rw [if_neg c1])
          · rw [sheetS, sheetU, if_neg (not_not_intro hc), if_neg (not_not_intro hc), if_pos ⟨c1, Int32.not_le.mp c3⟩, if_pos ⟨c1, Int32.not_le.mp c3⟩] at h1
            refine x_bipush (v := -14) dW_sheet_44 rfl ?_
            -- at 46: .ireturn
            refine x_ireturn dW_sheet_46 rfl rfl ?_
            exact h1 I (fun _ _ => rfl) rfl
        · refine x_bipush (v := -2) dW_sheet_32 rfl ?_
          -- at 34: .ireturn
          refine x_ireturn dW_sheet_34 rfl rfl ?_
          exact bad (fun z => z.2.2.elim c1 c2)
    · refine x_if_ne (tgt := 21) dW_sheet_15 (by decide) (fun h => absurd (by decide) h) (fun _ => ?_)
      refine x_bipush (v := -2) dW_sheet_18 rfl ?_
      -- at 20: .ireturn
      refine x_ireturn dW_sheet_20 rfl rfl ?_
      exact bad (fun z => a2 z.2.1)
  · refine x_if_eq (tgt := 18) dW_sheet_6 (by decide) (fun _ => ?_) (fun h => absurd (by decide) h)
    refine x_bipush (v := -2) dW_sheet_18 rfl ?_
    -- at 20: .ireturn
    refine x_ireturn dW_sheet_20 rfl rfl ?_
    exact bad (fun z => a1 z.1)
def shV (k v : Int32) : Int32 := if k = 0 then v.toInt8.toInt32 else if k = 1 then v.toInt16.toInt32 else v
def sp_Sheets_set : SpT := fun as S I L Post => ∃ (s i : Nat) (v : Int32), as = [.ref 55, .int (nI s), .int (nI i), .int v] ∧ S = S1 ∧ s < 4 ∧ i < 40 ∧ Post none S1 (up2 I 58 (s * 40 + i) (shV (I 56 s) v)) L
set_option maxHeartbeats 4000000 in
set_option maxRecDepth 100000 in
theorem c_Sheets_set : Con mSheets_set 2 0 0 sp_Sheets_set := by
  refine con_of_X rfl fun G as S I L Post hs => ?_
  obtain ⟨s, i, v, rfl, rfl, hs, hi, h1⟩ := hs
  refine ⟨0, Nat.le_of_ble_eq_true rfl, ?_⟩
  show X mSheets_set G _ S1 I L 0 [.ref 55, .int (nI s), .int (nI i), .int v] [] Post
  have fin : ∀ x : Int32, x = shV (I 56 s) v → X mSheets_set G (2, 0, 0) S1 I L 40 [.ref 55, .int (nI s), .int (nI i), .int v] [.int x, .int (nI s * 40 + nI i), .ref 58] Post := by
    intro x hx
    refine x_iastJ (j := s * 40 + i) dSheets_set_40 rfl rfl (by first | rfl | (simp only [← nI_add, ← pk_mul]; rfl)) (by omega) ?_
    -- at 41: .return_
    refine x_return dSheets_set_41 rfl ?_
    rw [hx]
    exact h1
  refine x_aload_n dSheets_set_0 rfl ?_
  refine x_getR fl_Sheets_18 rfl dSheets_set_1 rfl rfl rfl ?_
  refine x_iload_n dSheets_set_4 rfl ?_
  refine x_bipush (v := 40) dSheets_set_5 rfl ?_
  refine x_imul dSheets_set_7 ?_
  refine x_iload_n dSheets_set_8 rfl ?_
  refine x_iadd dSheets_set_9 ?_
  refine x_aload_n dSheets_set_10 rfl ?_
  refine x_getR fl_Sheets_9 rfl dSheets_set_11 rfl rfl rfl ?_
  refine x_iload_n dSheets_set_14 rfl ?_
  refine x_ialdJ dSheets_set_15 rfl rfl rfl (by omega) ?_
  -- at 16: .ifCond .ne 8
  refine x_if_ne (tgt := 24) dSheets_set_16 (by decide) (fun c1 => ?_) (fun c1 => ?_)
  · refine x_aload_n dSheets_set_24 rfl ?_
    refine x_getR fl_Sheets_9 rfl dSheets_set_25 rfl rfl rfl ?_
    refine x_iload_n dSheets_set_28 rfl ?_
    refine x_ialdJ dSheets_set_29 rfl rfl rfl (by omega) ?_
    refine x_iconst (v := 1) dSheets_set_30 rfl ?_
    -- at 31: .if_icmp .ne 8
    refine x_icmp_ne (tgt := 39) dSheets_set_31 (by decide) (fun c2 => ?_) (fun c2 => ?_)
    · refine x_iload_n dSheets_set_39 rfl ?_
      -- at 40: .iastore
      exact fin _ (by rw [shV, if_neg c1, if_neg c2])
    · refine x_iload_n dSheets_set_34 rfl ?_
      refine x_i2s dSheets_set_35 ?_
      refine x_goto (tgt := 40) dSheets_set_36 (by decide) ?_
      -- at 40: .iastore
      exact fin _ (by rw [shV, if_neg c1, if_pos c2])
  · refine x_iload_n dSheets_set_19 rfl ?_
    refine x_i2b dSheets_set_20 ?_
    refine x_goto (tgt := 40) dSheets_set_21 (by decide) ?_
    -- at 40: .iastore
    exact fin _ (by rw [shV, if_pos c1])
def cellBad (E : IM) (s i : Int32) : Int32 := if ¬ inR s 0 3 then -2 else if E 26 (cl s) = -1 then -11 else if ¬ inR i 0 (E 27 (cl s) - 1) then -12 else 1
def cellU (E : IM) (s i v : Int32) : IM := if cellBad E s i = 1 then up2 E 28 (cl s * 40 + cl i) (shV (E 26 (cl s)) v) else E
theorem sz_nat {E : IM} (h : Inv E) {s : Nat} (hs : s < 4) : ∃ n, n ≤ 40 ∧ E 27 s = nI n := by
  obtain ⟨k, hk, e⟩ := (h.2.2.2.2.2.2.2.1 s hs).2.1
  exact ⟨k, by omega, e⟩
def sp_W_cell : SpT := fun as S I L Post => ∃ s i v : Int32, cSp [.int s, .int i, .int v] (fun E => .int (cellBad E s i)) (fun E => cellU E s i v) as S I L Post
set_option maxHeartbeats 4000000 in
set_option maxRecDepth 100000 in
theorem c_W_cell : Con mW_cell 3 0 0 sp_W_cell := by
  refine con_of_X rfl fun G as S I L Post hs => ?_
  obtain ⟨s, i, v, rfl, rfl, hok, h1⟩ := hs
  dsimp only at h1
  refine ⟨0, Nat.le_of_ble_eq_true rfl, ?_⟩
  show X mW_cell G _ S1 I L 0 [.ref 0, .int s, .int i, .int v] [] Post
  rw [cellU] at h1
  refine x_iload_n dW_cell_0 rfl ?_
  refine x_iconst (v := 0) dW_cell_1 rfl ?_
  refine x_iconst (v := 3) dW_cell_2 rfl ?_
  -- at 3: .invokestatic 101
  refine x_callS_3 c_W_within ok_W_within ml_W_101 dW_cell_3 rfl rfl ?_
  refine ⟨_, _, _, rfl, fun a1 => ?_, fun a1 => ?_⟩
  · have a1 : inR s 0 3 := a1
    refine x_if_ne (tgt := 12) dW_cell_6 (by decide) (fun _ => ?_) (fun h => absurd h (by decide))
    rw [cellBad, if_neg (not_not_intro a1)] at h1
    obtain ⟨j, hj, rfl⟩ := inR_of (n := 3) (by decide) a1
    obtain ⟨n, hn, en⟩ := sz_nat hok (s := j) (by omega)
    have en : I 57 j = nI n := en
    rw [cl_nI (by omega), show cE I 27 j = nI n from en] at h1
    refine x_aload_n dW_cell_12 rfl ?_
    refine x_getR fl_W_70 rfl dW_cell_13 rfl rfl rfl ?_
    refine x_iload_n dW_cell_16 rfl ?_
    -- at 17: .invokevirtual 335
    refine x_callV_1 c_Sheets_isMissing ok_Sheets_isMissing ml_W_335 dW_cell_17 rfl rfl rfl rfl rfl ?_
    refine ⟨j, rfl, rfl, by omega, fun a2 => ?_, fun a2 => ?_⟩
    · have a2 : cE I 26 j = -1 := a2
      refine x_if_eq (tgt := 26) dW_cell_20 (by decide) (fun h => absurd h (by decide)) (fun _ => ?_)
      rw [if_pos a2] at h1
      refine x_bipush (v := -11) dW_cell_23 rfl ?_
      -- at 25: .ireturn
      refine x_ireturn dW_cell_25 rfl rfl ?_
      exact h1 I (fun _ _ => rfl) rfl
    · have a2 : ¬ cE I 26 j = -1 := a2
      refine x_if_eq (tgt := 26) dW_cell_20 (by decide) (fun _ => ?_) (fun h => absurd (by decide) h)
      rw [if_neg a2] at h1
      refine x_iload_n dW_cell_26 rfl ?_
      refine x_iconst (v := 0) dW_cell_27 rfl ?_
      refine x_aload_n dW_cell_28 rfl ?_
      refine x_getR fl_W_70 rfl dW_cell_29 rfl rfl rfl ?_
      refine x_getR fl_W_338 rfl dW_cell_32 rfl rfl rfl ?_
      refine x_iload_n dW_cell_35 rfl ?_
      refine x_ialdJ dW_cell_36 rfl rfl rfl (by omega) ?_
      -- at 37: .iconst 1
      rw [en]
      refine x_iconst (v := 1) dW_cell_37 rfl ?_
      refine x_isub dW_cell_38 ?_
      -- at 39: .invokestatic 101
      refine x_callS_3 c_W_within ok_W_within ml_W_101 dW_cell_39 rfl rfl ?_
      refine ⟨_, _, _, rfl, fun a3 => ?_, fun a3 => ?_⟩
      · have a3 : inR i 0 (nI n - 1) := a3
        refine x_if_ne (tgt := 48) dW_cell_42 (by decide) (fun _ => ?_) (fun h => absurd h (by decide))
        rw [if_neg (not_not_intro a3), if_pos rfl] at h1
        obtain ⟨q, hq, rfl⟩ := has_nat (by omega) a3
        rw [cl_nI (by omega)] at h1
        refine x_aload_n dW_cell_48 rfl ?_
        refine x_getR fl_W_70 rfl dW_cell_49 rfl rfl rfl ?_
        refine x_iload_n dW_cell_52 rfl ?_
        refine x_iload_n dW_cell_53 rfl ?_
        refine x_iload_n dW_cell_54 rfl ?_
        -- at 55: .invokevirtual 340
        refine x_callV_3 c_Sheets_set ok_Sheets_set ml_W_340 dW_cell_55 rfl rfl rfl rfl rfl ?_
        refine ⟨j, q, v, rfl, rfl, by omega, by omega, ?_⟩
        refine x_iconst (v := 1) dW_cell_58 rfl ?_
        -- at 59: .ireturn
        refine x_ireturn dW_cell_59 rfl rfl ?_
        exact h1 _ (fun k hk => up2_n _ _ _ (by omega)) (cE_u28 I _ _)
      · have a3 : ¬ inR i 0 (nI n - 1) := a3
        refine x_if_ne (tgt := 48) dW_cell_42 (by decide) (fun h => absurd (by decide) h) (fun _ => ?_)
        rw [if_pos a3] at h1
        refine x_bipush (v := -12) dW_cell_45 rfl ?_
        -- at 47: .ireturn
        refine x_ireturn dW_cell_47 rfl rfl ?_
        exact h1 I (fun _ _ => rfl) rfl
  · have a1 : ¬ inR s 0 3 := a1
    refine x_if_ne (tgt := 12) dW_cell_6 (by decide) (fun h => absurd (by decide) h) (fun _ => ?_)
    rw [cellBad, if_pos a1] at h1
    refine x_bipush (v := -2) dW_cell_9 rfl ?_
    -- at 11: .ireturn
    refine x_ireturn dW_cell_11 rfl rfl ?_
    exact h1 I (fun _ _ => rfl) rfl
abbrev cpC (E : IM) (s i o j n : Int32) : Prop := 0 ≤ n ∧ inR i 0 (E 27 (cl s) - n) ∧ inR j 0 (E 27 (cl o) - n)
def copyS (E : IM) (s i o j n : Int32) : Int32 := if ¬ (inR s 0 3 ∧ inR o 0 3) then -2 else if E 26 (cl s) = -1 ∨ E 26 (cl o) = -1 then -11 else if ¬ E 26 (cl s) = E 26 (cl o) then -13 else if ¬ cpC E s i o j n then -12 else n
def cpU (E : IM) (s i o j n : Int32) : IM := upr E 28 (va_cpy (E 28) (E 28) (cl s * 40 + cl i) (cl o * 40 + cl j) (cl n))
def copyU (E : IM) (s i o j n : Int32) : IM := if ¬ (inR s 0 3 ∧ inR o 0 3) then E else if E 26 (cl s) = -1 ∨ E 26 (cl o) = -1 then E else if ¬ E 26 (cl s) = E 26 (cl o) then E else if ¬ cpC E s i o j n then E else cpU E s i o j n
/-- three numbers that fit a SHEET -/
theorem cp_nat {z i n : Int32} {Z : Nat} (hz : z = nI Z) (hZ : Z ≤ 40) (hn : 0 ≤ n) (h : inR i 0 (z - n)) : ∃ a b, i = nI a ∧ n = nI b ∧ a + b ≤ Z := by
  subst hz
  have h1 := Int32.le_iff_toInt_le.mp hn
  have h2 := Int32.le_iff_toInt_le.mp h.1
  have h3 := Int32.le_iff_toInt_le.mp h.2
  have hl := n.toInt_lt
  have e : (nI Z - n).toInt = (Z : Int) - n.toInt := by
    rw [Int32.toInt_sub, nI_toInt (by omega)]
    exact Int.bmod_eq_of_le (by simp at h1; omega) (by simp at h1; omega)
  rw [e] at h3
  simp at h1 h2
  obtain ⟨a, ha, ea⟩ := nI_of2 (x := i) (M := nI 40) (n := 40) rfl (Int32.not_lt.mpr h.1) (Int32.le_iff_toInt_le.mpr (by rw [nI_toInt (by omega)]; omega))
  obtain ⟨b, hb, eb⟩ := nI_of2 (x := n) (M := nI 40) (n := 40) rfl (Int32.not_lt.mpr hn) (Int32.le_iff_toInt_le.mpr (by rw [nI_toInt (by omega)]; omega))
  refine ⟨a, b, ea, eb, ?_⟩
  rw [ea, eb, nI_toInt (by omega), nI_toInt (by omega)] at h3
  omega
def sp_W_copy : SpT := fun as S I L Post => ∃ s i o j n : Int32, cSp [.int s, .int i, .int o, .int j, .int n] (fun E => .int (copyS E s i o j n)) (fun E => copyU E s i o j n) as S I L Post
set_option maxHeartbeats 4000000 in
set_option maxRecDepth 100000 in
theorem c_W_copy : Con mW_copy 3 0 0 sp_W_copy := by
  refine con_of_X rfl fun G as S I L Post hs => ?_
  obtain ⟨s, i, o, j, n, rfl, rfl, hok, h1⟩ := hs
  dsimp only at h1
  refine ⟨0, Nat.le_of_ble_eq_true rfl, ?_⟩
  show X mW_copy G _ S1 I L 0 [.ref 0, .int s, .int i, .int o, .int j, .int n] [] Post
  have bad : ¬ (inR s 0 3 ∧ inR o 0 3) → X mW_copy G (3, 0, 0) S1 I L 18 [.ref 0, .int s, .int i, .int o, .int j, .int n] [] Post := by
    intro hc
    rw [copyS, copyU, if_pos hc, if_pos hc] at h1
    refine x_bipush (v := -2) dW_copy_18 rfl ?_
    -- at 20: .ireturn
    refine x_ireturn dW_copy_20 rfl rfl ?_
    exact h1 I (fun _ _ => rfl) rfl
  refine x_iload_n dW_copy_0 rfl ?_
  refine x_iconst (v := 0) dW_copy_1 rfl ?_
  refine x_iconst (v := 3) dW_copy_2 rfl ?_
  -- at 3: .invokestatic 101
  refine x_callS_3 c_W_within ok_W_within ml_W_101 dW_copy_3 rfl rfl ?_
  refine ⟨_, _, _, rfl, fun a1 => ?_, fun a1 => ?_⟩
  · have a1 : inR s 0 3 := a1
    refine x_if_eq (tgt := 18) dW_copy_6 (by decide) (fun h => absurd h (by decide)) (fun _ => ?_)
    refine x_iload_n dW_copy_9 rfl ?_
    refine x_iconst (v := 0) dW_copy_10 rfl ?_
    refine x_iconst (v := 3) dW_copy_11 rfl ?_
    -- at 12: .invokestatic 101
    refine x_callS_3 c_W_within ok_W_within ml_W_101 dW_copy_12 rfl rfl ?_
    refine ⟨_, _, _, rfl, fun a2 => ?_, fun a2 => ?_⟩
    · have a2 : inR o 0 3 := a2
      refine x_if_ne (tgt := 21) dW_copy_15 (by decide) (fun _ => ?_) (fun h => absurd h (by decide))
      have hso : inR s 0 3 ∧ inR o 0 3 := ⟨a1, a2⟩
      rw [copyS, copyU, if_neg (not_not_intro hso), if_neg (not_not_intro hso)] at h1
      obtain ⟨p, hp, rfl⟩ := inR_of (n := 3) (by decide) a1
      obtain ⟨q, hq, rfl⟩ := inR_of (n := 3) (by decide) a2
      obtain ⟨zp, hzp, ep⟩ := sz_nat hok (s := p) (by omega)
      obtain ⟨zq, hzq, eq⟩ := sz_nat hok (s := q) (by omega)
      have ep : I 57 p = nI zp := ep
      have eq : I 57 q = nI zq := eq
      unfold cpC cpU at h1
      rw [cl_nI (by omega), cl_nI (by omega), show cE I 27 p = nI zp from ep, show cE I 27 q = nI zq from eq] at h1
      have no : (cE I 26 p = -1 ∨ cE I 26 q = -1) → X mW_copy G (3, 0, 0) S1 I L 43 [.ref 0, .int (nI p), .int i, .int (nI q), .int j, .int n] [] Post := by
        intro hc
        rw [if_pos hc, if_pos hc] at h1
        refine x_bipush (v := -11) dW_copy_43 rfl ?_
        -- at 45: .ireturn
        refine x_ireturn dW_copy_45 rfl rfl ?_
        exact h1 I (fun _ _ => rfl) rfl
      refine x_aload_n dW_copy_21 rfl ?_
      refine x_getR fl_W_70 rfl dW_copy_22 rfl rfl rfl ?_
      refine x_iload_n dW_copy_25 rfl ?_
      -- at 26: .invokevirtual 335
      refine x_callV_1 c_Sheets_isMissing ok_Sheets_isMissing ml_W_335 dW_copy_26 rfl rfl rfl rfl rfl ?_
      refine ⟨p, rfl, rfl, by omega, fun a3 => ?_, fun a3 => ?_⟩
      · refine x_if_ne (tgt := 43) dW_copy_29 (by decide) (fun _ => ?_) (fun h => absurd h (by decide))
        exact no (Or.inl a3)
      · have a3 : ¬ cE I 26 p = -1 := a3
        refine x_if_ne (tgt := 43) dW_copy_29 (by decide) (fun h => absurd (by decide) h) (fun _ => ?_)
        refine x_aload_n dW_copy_32 rfl ?_
        refine x_getR fl_W_70 rfl dW_copy_33 rfl rfl rfl ?_
        refine x_iload_n dW_copy_36 rfl ?_
        -- at 37: .invokevirtual 335
        refine x_callV_1 c_Sheets_isMissing ok_Sheets_isMissing ml_W_335 dW_copy_37 rfl rfl rfl rfl rfl ?_
        refine ⟨q, rfl, rfl, by omega, fun a4 => ?_, fun a4 => ?_⟩
        · refine x_if_eq (tgt := 46) dW_copy_40 (by decide) (fun h => absurd h (by decide)) (fun _ => ?_)
          exact no (Or.inr a4)
        · have a4 : ¬ cE I 26 q = -1 := a4
          refine x_if_eq (tgt := 46) dW_copy_40 (by decide) (fun _ => ?_) (fun h => absurd (by decide) h)
          have hc : ¬ (cE I 26 p = -1 ∨ cE I 26 q = -1) := fun z => z.elim a3 a4
          rw [if_neg hc, if_neg hc] at h1
          refine x_aload_n dW_copy_46 rfl ?_
          refine x_getR fl_W_70 rfl dW_copy_47 rfl rfl rfl ?_
          refine x_getR fl_W_343 rfl dW_copy_50 rfl rfl rfl ?_
          refine x_iload_n dW_copy_53 rfl ?_
          refine x_ialdJ dW_copy_54 rfl rfl rfl (by omega) ?_
          refine x_aload_n dW_copy_55 rfl ?_
          refine x_getR fl_W_70 rfl dW_copy_56 rfl rfl rfl ?_
          refine x_getR fl_W_343 rfl dW_copy_59 rfl rfl rfl ?_
          refine x_iload_n dW_copy_62 rfl ?_
          refine x_ialdJ dW_copy_63 rfl rfl rfl (by omega) ?_
          -- at 64: .if_icmp .eq 6
          refine x_icmp_eq (tgt := 70) dW_copy_64 (by decide) (fun c5 => ?_) (fun c5 => ?_)
          · have c5 : cE I 26 p = cE I 26 q := c5
            rw [if_neg (not_not_intro c5), if_neg (not_not_intro c5)] at h1
            have out : ¬ (0 ≤ n ∧ inR i 0 (nI zp - n) ∧ inR j 0 (nI zq - n)) → X mW_copy G (3, 0, 0) S1 I L 116 [.ref 0, .int (nI p), .int i, .int (nI q), .int j, .int n] [] Post := by
              intro hc
              rw [if_pos hc, if_pos hc] at h1
              refine x_bipush (v := -12) dW_copy_116 rfl ?_
              -- at 118: .ireturn
              refine x_ireturn dW_copy_118 rfl rfl ?_
              exact h1 I (fun _ _ => rfl) rfl
            refine x_iload dW_copy_70 rfl ?_
            -- at 72: .ifCond .lt 44
            refine x_if_lt (tgt := 116) dW_copy_72 (by decide) (fun c6 => ?_) (fun c6 => ?_)
            · exact out (fun z => absurd z.1 (Int32.not_le.mpr c6))
            · have c6 : 0 ≤ n := Int32.not_lt.mp c6
              refine x_iload_n dW_copy_75 rfl ?_
              refine x_iconst (v := 0) dW_copy_76 rfl ?_
              refine x_aload_n dW_copy_77 rfl ?_
              refine x_getR fl_W_70 rfl dW_copy_78 rfl rfl rfl ?_
              refine x_getR fl_W_338 rfl dW_copy_81 rfl rfl rfl ?_
              refine x_iload_n dW_copy_84 rfl ?_
              refine x_ialdJ dW_copy_85 rfl rfl rfl (by omega) ?_
              -- at 86: .iload 5
              rw [ep]
              refine x_iload dW_copy_86 rfl ?_
              refine x_isub dW_copy_88 ?_
              -- at 89: .invokestatic 101
              refine x_callS_3 c_W_within ok_W_within ml_W_101 dW_copy_89 rfl rfl ?_
              refine ⟨_, _, _, rfl, fun a7 => ?_, fun a7 => ?_⟩
              · have a7 : inR i 0 (nI zp - n) := a7
                refine x_if_eq (tgt := 116) dW_copy_92 (by decide) (fun h => absurd h (by decide)) (fun _ => ?_)
                refine x_iload dW_copy_95 rfl ?_
                refine x_iconst (v := 0) dW_copy_97 rfl ?_
                refine x_aload_n dW_copy_98 rfl ?_
                refine x_getR fl_W_70 rfl dW_copy_99 rfl rfl rfl ?_
                refine x_getR fl_W_338 rfl dW_copy_102 rfl rfl rfl ?_
                refine x_iload_n dW_copy_105 rfl ?_
                refine x_ialdJ dW_copy_106 rfl rfl rfl (by omega) ?_
                -- at 107: .iload 5
                rw [eq]
                refine x_iload dW_copy_107 rfl ?_
                refine x_isub dW_copy_109 ?_
                -- at 110: .invokestatic 101
                refine x_callS_3 c_W_within ok_W_within ml_W_101 dW_copy_110 rfl rfl ?_
                refine ⟨_, _, _, rfl, fun a8 => ?_, fun a8 => ?_⟩
                · have a8 : inR j 0 (nI zq - n) := a8
                  refine x_if_ne (tgt := 119) dW_copy_113 (by decide) (fun _ => ?_) (fun h => absurd h (by decide))
                  have hc3 : 0 ≤ n ∧ inR i 0 (nI zp - n) ∧ inR j 0 (nI zq - n) := ⟨c6, a7, a8⟩
                  rw [if_neg (not_not_intro hc3), if_neg (not_not_intro hc3)] at h1
                  obtain ⟨a, b, ea, eb, hab⟩ := cp_nat rfl hzp c6 a7
                  obtain ⟨a', b', ea', eb', hab'⟩ := cp_nat rfl hzq c6 a8
                  have ebb : b' = b := by
                    rw [eb'] at eb
                    exact (nI_eq (by omega) (by omega)).mp eb
                  subst ebb
                  subst ea ea' eb
                  rw [cl_nI (by omega), cl_nI (by omega), cl_nI (by omega)] at h1
                  refine x_aload_n dW_copy_119 rfl ?_
                  refine x_getR fl_W_70 rfl dW_copy_120 rfl rfl rfl ?_
                  refine x_getR fl_W_346 rfl dW_copy_123 rfl rfl rfl ?_
                  refine x_iload_n dW_copy_126 rfl ?_
                  refine x_bipush (v := 40) dW_copy_127 rfl ?_
                  refine x_imul dW_copy_129 ?_
                  refine x_iload_n dW_copy_130 rfl ?_
                  refine x_iadd dW_copy_131 ?_
                  refine x_aload_n dW_copy_132 rfl ?_
                  refine x_getR fl_W_70 rfl dW_copy_133 rfl rfl rfl ?_
                  refine x_getR fl_W_346 rfl dW_copy_136 rfl rfl rfl ?_
                  refine x_iload_n dW_copy_139 rfl ?_
                  refine x_bipush (v := 40) dW_copy_140 rfl ?_
                  refine x_imul dW_copy_142 ?_
                  refine x_iload dW_copy_143 rfl ?_
                  refine x_iadd dW_copy_145 ?_
                  refine x_iload dW_copy_146 rfl ?_
                  -- at 148: .invokestatic 349
                  have es : nI p * 40 + nI a = nI (p * 40 + a) := by rw [← nI_add, ← pk_mul]; rfl
                  have eo : nI q * 40 + nI a' = nI (q * 40 + a') := by rw [← nI_add, ← pk_mul]; rfl
                  have f1 : (nI (p * 40 + a)).toNatClampNeg = p * 40 + a := nI_clamp (by omega)
                  have f2 : (nI (q * 40 + a')).toNatClampNeg = q * 40 + a' := nI_clamp (by omega)
                  have f3 : (nI b').toNatClampNeg = b' := nI_clamp (by omega)
                  have nn : ∀ k, k < 1000 → ¬ nI k < (0 : Int32) := fun k hk => Int32.not_lt.mpr (nI_le (a := 0) (by omega) (by omega))
                  rw [es, eo]
                  refine x_acopy dW_copy_148 ml_W_349 na_ac st_ac it_System rfl rfl rfl rfl rfl rfl (nn _ (by omega)) (nn _ (by omega)) (nn _ (by omega)) (by rw [f1, f3]; show _ ≤ 160; omega) (by rw [f2, f3]; show _ ≤ 160; omega) ?_
                  rw [f1, f2, f3]
                  refine x_iload dW_copy_151 rfl ?_
                  -- at 153: .ireturn
                  refine x_ireturn dW_copy_153 rfl rfl ?_
                  exact h1 _ (fun k hk => upr_n _ _ (by omega)) (cE_28 I _)
                · refine x_if_ne (tgt := 119) dW_copy_113 (by decide) (fun h => absurd (by decide) h) (fun _ => ?_)
                  exact out (fun z => a8 z.2.2)
              · refine x_if_eq (tgt := 116) dW_copy_92 (by decide) (fun _ => ?_) (fun h => absurd (by decide) h)
                exact out (fun z => a7 z.2.1)
          · have c5 : ¬ cE I 26 p = cE I 26 q := c5
            rw [if_pos c5, if_pos c5] at h1
            refine x_bipush (v := -13) dW_copy_67 rfl ?_
            -- at 69: .ireturn
            refine x_ireturn dW_copy_69 rfl rfl ?_
            exact h1 I (fun _ _ => rfl) rfl
    · refine x_if_ne (tgt := 21) dW_copy_15 (by decide) (fun h => absurd (by decide) h) (fun _ => ?_)
      exact bad (fun z => a2 z.2)
  · refine x_if_eq (tgt := 18) dW_copy_6 (by decide) (fun _ => ?_) (fun h => absurd (by decide) h)
    exact bad (fun z => a1 z.1)
end
section
-- 48.inv
/-! what holds of the state, after each call -/
def iA (E : IM) : Prop := E 29 1 = nI (pN E) ∧ pN E ≤ 8 ∧ ∀ p, p < pN E → PersonOk E p
def iB (E : IM) : Prop := E 29 2 = nI (qN E) ∧ qN E ≤ 8 ∧ ∀ q, q < qN E → PromiseOk E q
def iC (E : IM) : Prop := E 29 3 = nI (sN E) ∧ sN E ≤ 10 ∧ ∀ s, s < sN E → SayOk (qN E) (E 14 s) (E 15 s) (E 16 s) (E 17 s)
def iD (E : IM) : Prop := E 29 4 = nI (tN E) ∧ 1 ≤ tN E ∧ tN E ≤ 6 ∧ ∀ t, t < tN E → TextOk E t
def iF (E : IM) : Prop := E 29 5 = nI (wN E) ∧ wN E < tN E
def iG (E : IM) : Prop := E 29 6 = nI (zN E) ∧ zN E ≤ 160 ∧ ∀ i, i < zN E → rng (E 18 i) 256
def iH (E : IM) : Prop := (E 29 7 = 0 ∨ E 29 7 = 1) ∧ (∃ k, k ≤ pN E ∧ E 29 9 = nI k ∧ ∀ p, p < k → rng1 (E 21 p) 6) ∧ (∃ k, k ≤ 10 ∧ E 29 10 = nI k ∧ (∀ s, s < k → SayOk (qN E) (E 22 s) (E 23 s) (E 24 s) (E 25 s))) ∧ (∃ k, k < tN E ∧ E 29 11 = nI k)
def iS (E : IM) : Prop := ∀ s, s < 4 → rng1 (E 26 s) 3 ∧ rng (E 27 s) 41 ∧ (E 26 s = -1 → E 27 s = 0)
def iZ (E : IM) : Prop := ∀ j, (36 ≤ j → E 0 j = 0 ∧ E 19 j = 0) ∧ (6 ≤ j → E 1 j = 0 ∧ E 20 j = 0)
theorem Inv.mk' {E : IM} (a : iA E) (b : iB E) (c : iC E) (d : iD E) (f : iF E) (g : iG E) (h : iH E) (s : iS E) (z : iZ E) : Inv E := ⟨a, b, c, d, f, g, h, s, z⟩
theorem Inv.a {E : IM} (h : Inv E) : iA E := h.1
theorem Inv.b {E : IM} (h : Inv E) : iB E := h.2.1
theorem Inv.c {E : IM} (h : Inv E) : iC E := h.2.2.1
theorem Inv.d {E : IM} (h : Inv E) : iD E := h.2.2.2.1
theorem Inv.f {E : IM} (h : Inv E) : iF E := h.2.2.2.2.1
theorem Inv.g {E : IM} (h : Inv E) : iG E := h.2.2.2.2.2.1
theorem Inv.h {E : IM} (h : Inv E) : iH E := h.2.2.2.2.2.2.1
theorem Inv.s {E : IM} (h : Inv E) : iS E := h.2.2.2.2.2.2.2.1
theorem Inv.z {E : IM} (h : Inv E) : iZ E := h.2.2.2.2.2.2.2.2
theorem iA.to {E E' : IM} (h : iA E) (h1 : E' 29 1 = E 29 1) (hr : ∀ a, 2 ≤ a → a ≤ 9 → E' a = E a) : iA E' := by
  unfold iA pN PersonOk at h ⊢
  rw [h1, hr 2 (by omega) (by omega), hr 3 (by omega) (by omega), hr 4 (by omega) (by omega), hr 5 (by omega) (by omega), hr 6 (by omega) (by omega), hr 7 (by omega) (by omega), hr 8 (by omega) (by omega), hr 9 (by omega) (by omega)]
  exact h
theorem iB.to {E E' : IM} (h : iB E) (h1 : E' 29 2 = E 29 2) (hr : ∀ a, 10 ≤ a → a ≤ 13 → E' a = E a) : iB E' := by
  unfold iB qN PromiseOk at h ⊢
  rw [h1, hr 10 (by omega) (by omega), hr 11 (by omega) (by omega), hr 12 (by omega) (by omega), hr 13 (by omega) (by omega)]
  exact h
theorem iC.to {E E' : IM} (h : iC E) (h1 : E' 29 3 = E 29 3) (h2 : E' 29 2 = E 29 2) (hr : ∀ a, 14 ≤ a → a ≤ 17 → E' a = E a) : iC E' := by
  unfold iC sN qN at h ⊢
  rw [h1, h2, hr 14 (by omega) (by omega), hr 15 (by omega) (by omega), hr 16 (by omega) (by omega), hr 17 (by omega) (by omega)]
  exact h
theorem iD.to {E E' : IM} (h : iD E) (h1 : E' 29 4 = E 29 4) (h30 : E' 30 = E 30) (h31 : E' 31 = E 31) : iD E' := by
  unfold iD tN TextOk sA seg at h ⊢
  rw [h1, h30, h31]
  exact h
theorem iF.to {E E' : IM} (h : iF E) (h1 : E' 29 5 = E 29 5) (h2 : E' 29 4 = E 29 4) : iF E' := by
  unfold iF wN tN at h ⊢
  rw [h1, h2]
  exact h
theorem iG.to {E E' : IM} (h : iG E) (h1 : E' 29 6 = E 29 6) (h2 : E' 18 = E 18) : iG E' := by
  unfold iG zN at h ⊢
  rw [h1, h2]
  exact h
theorem iH.to {E E' : IM} (h : iH E) (h1 : ∀ j, 7 ≤ j → E' 29 j = E 29 j) (h2 : E' 29 1 = E 29 1) (h3 : E' 29 2 = E 29 2) (h4 : E' 29 4 = E 29 4) (hr : ∀ a, 21 ≤ a → a ≤ 25 → E' a = E a) : iH E' := by
  unfold iH pN qN tN at h ⊢
  rw [h1 7 (by omega), h1 9 (by omega), h1 10 (by omega), h1 11 (by omega), h2, h3, h4, hr 21 (by omega) (by omega), hr 22 (by omega) (by omega), hr 23 (by omega) (by omega), hr 24 (by omega) (by omega), hr 25 (by omega) (by omega)]
  exact h
theorem iS.to {E E' : IM} (h : iS E) (h1 : E' 26 = E 26) (h2 : E' 27 = E 27) : iS E' := by
  unfold iS at h ⊢
  rw [h1, h2]
  exact h
theorem iZ.to {E E' : IM} (h : iZ E) (h0 : E' 0 = E 0) (h1 : E' 1 = E 1) (h2 : E' 19 = E 19) (h3 : E' 20 = E 20) : iZ E' := by
  unfold iZ at h ⊢
  rw [h0, h1, h2, h3]
  exact h
theorem SayOk.up {Q Q' : Nat} {a b c d : Int32} (h : SayOk Q a b c d) (hq : Q ≤ Q') : SayOk Q' a b c d := by
  obtain ⟨⟨k, hk, e⟩, h2⟩ := h
  exact ⟨⟨k, by omega, e⟩, h2⟩
theorem up1_s (f : Nat → Int32) (j : Nat) (x : Int32) : up1 f j x j = x := by simp [up1]
theorem up1_n (f : Nat → Int32) {i j : Nat} (x : Int32) (h : i ≠ j) : up1 f j x i = f i := by simp [up1, h]
theorem rng_inR {x M : Int32} {n : Nat} (hM : M.toInt = n) (h : inR x 0 M) : rng x (n + 1) := by
  obtain ⟨k, hk, e⟩ := inR_of hM h
  exact ⟨k, by omega, e⟩
theorem rng1_inR {x : Int32} {n : Nat} (hn : n ≤ 1000) (h : inR x (-1) (nI n - 1)) : rng1 x n := by
  by_cases e : x = -1
  · exact Or.inl e
  · refine Or.inr (has_nat hn ⟨?_, h.2⟩)
    have h1 := Int32.le_iff_toInt_le.mp h.1
    rw [Int32.le_iff_toInt_le]
    have h2 : ¬ x.toInt = -1 := fun z => e (Int32.toInt_inj.mp z)
    simp at h1 ⊢
    omega
/-- a call that writes no row of those that Inv speaks of but by one -/
theorem Inv_far {E : IM} (h : Inv E) (u v d : Int32) : Inv (farU E u v d) := by
  unfold farU
  split
  · exact h
  · split
    · exact h
    · rename_i h1 h2
      have hu : inR u 0 5 := Classical.byContradiction fun z => h1 (Or.inl z)
      have hv : inR v 0 5 := Classical.byContradiction fun z => h1 (Or.inr (Or.inl z))
      obtain ⟨a, ha, rfl⟩ := inR_of (n := 5) (by decide) hu
      obtain ⟨b, hb, rfl⟩ := inR_of (n := 5) (by decide) hv
      rw [cl_nI (by omega), cl_nI (by omega)]
      refine Inv.mk' (h.a.to (by simp only [up2_n, up2_s, ne_eq, Nat.reduceEqDiff, not_false_eq_true]) (fun x _ _ => by rw [up2_n _ _ _ (by omega), up2_n _ _ _ (by omega)])) (h.b.to (by simp only [up2_n, up2_s, ne_eq, Nat.reduceEqDiff, not_false_eq_true]) (fun x _ _ => by rw [up2_n _ _ _ (by omega), up2_n _ _ _ (by omega)])) (h.c.to (by simp only [up2_n, up2_s, ne_eq, Nat.reduceEqDiff, not_false_eq_true]) (by simp only [up2_n, up2_s, ne_eq, Nat.reduceEqDiff, not_false_eq_true]) (fun x _ _ => by rw [up2_n _ _ _ (by omega), up2_n _ _ _ (by omega)])) (h.d.to (by simp only [up2_n, up2_s, ne_eq, Nat.reduceEqDiff, not_false_eq_true]) (by simp only [up2_n, up2_s, ne_eq, Nat.reduceEqDiff, not_false_eq_true]) (by simp only [up2_n, up2_s, ne_eq, Nat.reduceEqDiff, not_false_eq_true])) (h.f.to (by simp only [up2_n, up2_s, ne_eq, Nat.reduceEqDiff, not_false_eq_true]) (by simp only [up2_n, up2_s, ne_eq, Nat.reduceEqDiff, not_false_eq_true])) (h.g.to (by simp only [up2_n, up2_s, ne_eq, Nat.reduceEqDiff, not_false_eq_true]) (by simp only [up2_n, up2_s, ne_eq, Nat.reduceEqDiff, not_false_eq_true])) (h.h.to (fun j _ => by simp only [up2_n, up2_s, ne_eq, Nat.reduceEqDiff, not_false_eq_true]) (by simp only [up2_n, up2_s, ne_eq, Nat.reduceEqDiff, not_false_eq_true]) (by simp only [up2_n, up2_s, ne_eq, Nat.reduceEqDiff, not_false_eq_true]) (by simp only [up2_n, up2_s, ne_eq, Nat.reduceEqDiff, not_false_eq_true]) (fun x _ _ => by rw [up2_n _ _ _ (by omega), up2_n _ _ _ (by omega)])) (h.s.to (by simp only [up2_n, up2_s, ne_eq, Nat.reduceEqDiff, not_false_eq_true]) (by simp only [up2_n, up2_s, ne_eq, Nat.reduceEqDiff, not_false_eq_true])) (fun j => ⟨fun hj => ⟨?_, ?_⟩, fun hj => ⟨?_, ?_⟩⟩)
      · simp only [up2_n, up2_s, ne_eq, Nat.reduceEqDiff, not_false_eq_true]
        rw [up1_n _ _ (by omega), up1_n _ _ (by omega)]
        exact ((h.z j).1 hj).1
      · simp only [up2_n, up2_s, ne_eq, Nat.reduceEqDiff, not_false_eq_true]
        exact ((h.z j).1 hj).2
      · simp only [up2_n, up2_s, ne_eq, Nat.reduceEqDiff, not_false_eq_true]
        exact ((h.z j).2 hj).1
      · simp only [up2_n, up2_s, ne_eq, Nat.reduceEqDiff, not_false_eq_true]
        exact ((h.z j).2 hj).2
theorem Inv_hush {E : IM} (h : Inv E) (t v : Int32) : Inv (hushU E t v) := by
  unfold hushU
  split
  · exact h
  · split
    · exact h
    · rename_i h1 h2
      obtain ⟨a, ha, rfl⟩ := inR_of (n := 5) (by decide) (Classical.not_not.mp h1)
      rw [cl_nI (by omega)]
      refine Inv.mk' (h.a.to (by simp only [up2_n, up2_s, ne_eq, Nat.reduceEqDiff, not_false_eq_true]) (fun x _ _ => by rw [up2_n _ _ _ (by omega)])) (h.b.to (by simp only [up2_n, up2_s, ne_eq, Nat.reduceEqDiff, not_false_eq_true]) (fun x _ _ => by rw [up2_n _ _ _ (by omega)])) (h.c.to (by simp only [up2_n, up2_s, ne_eq, Nat.reduceEqDiff, not_false_eq_true]) (by simp only [up2_n, up2_s, ne_eq, Nat.reduceEqDiff, not_false_eq_true]) (fun x _ _ => by rw [up2_n _ _ _ (by omega)])) (h.d.to (by simp only [up2_n, up2_s, ne_eq, Nat.reduceEqDiff, not_false_eq_true]) (by simp only [up2_n, up2_s, ne_eq, Nat.reduceEqDiff, not_false_eq_true]) (by simp only [up2_n, up2_s, ne_eq, Nat.reduceEqDiff, not_false_eq_true])) (h.f.to (by simp only [up2_n, up2_s, ne_eq, Nat.reduceEqDiff, not_false_eq_true]) (by simp only [up2_n, up2_s, ne_eq, Nat.reduceEqDiff, not_false_eq_true])) (h.g.to (by simp only [up2_n, up2_s, ne_eq, Nat.reduceEqDiff, not_false_eq_true]) (by simp only [up2_n, up2_s, ne_eq, Nat.reduceEqDiff, not_false_eq_true])) (h.h.to (fun j _ => by simp only [up2_n, up2_s, ne_eq, Nat.reduceEqDiff, not_false_eq_true]) (by simp only [up2_n, up2_s, ne_eq, Nat.reduceEqDiff, not_false_eq_true]) (by simp only [up2_n, up2_s, ne_eq, Nat.reduceEqDiff, not_false_eq_true]) (by simp only [up2_n, up2_s, ne_eq, Nat.reduceEqDiff, not_false_eq_true]) (fun x _ _ => by rw [up2_n _ _ _ (by omega)])) (h.s.to (by simp only [up2_n, up2_s, ne_eq, Nat.reduceEqDiff, not_false_eq_true]) (by simp only [up2_n, up2_s, ne_eq, Nat.reduceEqDiff, not_false_eq_true])) (fun j => ⟨fun hj => ⟨?_, ?_⟩, fun hj => ⟨?_, ?_⟩⟩)
      · simp only [up2_n, up2_s, ne_eq, Nat.reduceEqDiff, not_false_eq_true]
        exact ((h.z j).1 hj).1
      · simp only [up2_n, up2_s, ne_eq, Nat.reduceEqDiff, not_false_eq_true]
        exact ((h.z j).1 hj).2
      · simp only [up2_n, up2_s, ne_eq, Nat.reduceEqDiff, not_false_eq_true]
        rw [up1_n _ _ (by omega)]
        exact ((h.z j).2 hj).1
      · simp only [up2_n, up2_s, ne_eq, Nat.reduceEqDiff, not_false_eq_true]
        exact ((h.z j).2 hj).2
theorem Inv_stride {E : IM} (h : Inv E) (v : Int32) : Inv (strideU E v) := by
  unfold strideU
  split
  · exact h
  · have r : ∀ a, a ≠ 29 → up2 E 29 0 v a = E a := fun a ha => up2_n _ _ _ ha
    have q : ∀ j, j ≠ 0 → up2 E 29 0 v 29 j = E 29 j := fun j hj => by rw [up2_s, up1_n _ _ hj]
    exact Inv.mk' (h.a.to (q _ (by omega)) (fun a _ _ => r a (by omega))) (h.b.to (q _ (by omega)) (fun a _ _ => r a (by omega))) (h.c.to (q _ (by omega)) (q _ (by omega)) (fun a _ _ => r a (by omega))) (h.d.to (q _ (by omega)) (r _ (by omega)) (r _ (by omega))) (h.f.to (q _ (by omega)) (q _ (by omega))) (h.g.to (q _ (by omega)) (r _ (by omega))) (h.h.to (fun j _ => q j (by omega)) (q _ (by omega)) (q _ (by omega)) (q _ (by omega)) (fun a _ _ => r a (by omega))) (h.s.to (r _ (by omega)) (r _ (by omega))) (h.z.to (r _ (by omega)) (r _ (by omega)) (r _ (by omega)) (r _ (by omega)))
theorem Inv_force {E : IM} (h : Inv E) (t : Int32) : Inv (forceU E t) := by
  unfold forceU
  split
  · exact h
  · rename_i h1
    obtain ⟨d1, d2, d3, d4⟩ := h.d
    have h1 := Classical.not_not.mp h1
    rw [d1] at h1
    obtain ⟨k, hk, rfl⟩ := has_nat (by omega) h1
    have r : ∀ a, a ≠ 29 → up2 E 29 5 (nI k) a = E a := fun a ha => up2_n _ _ _ ha
    have q : ∀ j, j ≠ 5 → up2 E 29 5 (nI k) 29 j = E 29 j := fun j hj => by rw [up2_s, up1_n _ _ hj]
    have e5 : up2 E 29 5 (nI k) 29 5 = nI k := by rw [up2_s, up1_s]
    refine Inv.mk' (h.a.to (q _ (by omega)) (fun a _ _ => r a (by omega))) (h.b.to (q _ (by omega)) (fun a _ _ => r a (by omega))) (h.c.to (q _ (by omega)) (q _ (by omega)) (fun a _ _ => r a (by omega))) (h.d.to (q _ (by omega)) (r _ (by omega)) (r _ (by omega))) ?_ (h.g.to (q _ (by omega)) (r _ (by omega))) (h.h.to (fun j _ => q j (by omega)) (q _ (by omega)) (q _ (by omega)) (q _ (by omega)) (fun a _ _ => r a (by omega))) (h.s.to (r _ (by omega)) (r _ (by omega))) (h.z.to (r _ (by omega)) (r _ (by omega)) (r _ (by omega)) (r _ (by omega)))
    unfold iF wN tN
    rw [e5, q 4 (by omega), cl_nI (by omega)]
    exact ⟨rfl, hk⟩
theorem nat_of {x : Int32} {lo hi : Int32} {n : Nat} (hlo : 0 ≤ lo) (hM : hi.toInt = n) (h : inR x lo hi) : ∃ k, k ≤ n ∧ x = nI k := inR_of hM ⟨Int32.le_trans hlo h.1, h.2⟩
theorem Inv_person {E : IM} (h : Inv E) (k w ws ld : Int32) : Inv (personU E k w ws ld) := by
  unfold personU
  split
  · exact h
  · split
    · exact h
    · rename_i h1 h2
      obtain ⟨a1, a2, a3⟩ := h.a
      obtain ⟨g1, g2, g3, g4⟩ := Classical.not_not.mp h1
      have h2 := Classical.not_not.mp h2
      rw [a1] at h2
      have h8 : pN E < 8 := (nI_ltI (b := 8) (by omega) (by omega)).mp h2
      obtain ⟨W, hW, rfl⟩ := inR_of (n := 599) (by decide) g2
      obtain ⟨D, hD, eD⟩ := nat_of (n := 999) (by decide) (by decide) g4
      have hD1 : 100 ≤ D := by
        subst eD
        by_cases z : 100 ≤ D
        · exact z
        · exact absurd g4.1 (nI_ge (b := 100) (by omega) (by omega))
      subst eD
      have w1 : nI W / 100 = nI (W / 100) := pk_div (d := 100) (by omega) (by omega) (by omega)
      have w2 : rem (nI W / 10) 10 = nI (W / 10 % 10) := by
        rw [show nI W / 10 = nI (W / 10) from pk_div (d := 10) (by omega) (by omega) (by omega)]
        exact pk_rem (d := 10) (by omega) (by omega) (by omega)
      have w3 : rem (nI W) 10 = nI (W % 10) := pk_rem (d := 10) (by omega) (by omega) (by omega)
      have d1 : nI D / 100 = nI (D / 100) := pk_div (d := 100) (by omega) (by omega) (by omega)
      have d2 : rem (nI D) 100 = nI (D % 100) := pk_rem (d := 100) (by omega) (by omega) (by omega)
      have r : ∀ a, 10 ≤ a → a ≠ 29 → addP E (pN E) k (nI W) ws (nI D) a = E a := fun a _ _ => by
        unfold addP
        rw [up2_n _ _ _ (by omega), up2_n _ _ _ (by omega), up2_n _ _ _ (by omega), up2_n _ _ _ (by omega), up2_n _ _ _ (by omega), up2_n _ _ _ (by omega), up2_n _ _ _ (by omega), up2_n _ _ _ (by omega), up2_n _ _ _ (by omega)]
      have r0 : ∀ a, a ≤ 1 → addP E (pN E) k (nI W) ws (nI D) a = E a := fun a _ => by
        unfold addP
        rw [up2_n _ _ _ (by omega), up2_n _ _ _ (by omega), up2_n _ _ _ (by omega), up2_n _ _ _ (by omega), up2_n _ _ _ (by omega), up2_n _ _ _ (by omega), up2_n _ _ _ (by omega), up2_n _ _ _ (by omega), up2_n _ _ _ (by omega)]
      have q : ∀ j, j ≠ 1 → addP E (pN E) k (nI W) ws (nI D) 29 j = E 29 j := fun j hj => by
        unfold addP
        rw [up2_s, up1_n _ _ hj]
        simp only [up2_n, up2_s, ne_eq, Nat.reduceEqDiff, not_false_eq_true]
      have q1 : addP E (pN E) k (nI W) ws (nI D) 29 1 = nI (pN E + 1) := by
        unfold addP
        rw [up2_s, up1_s]
        exact nI_1 _
      refine Inv.mk' ?_ (h.b.to (q _ (by omega)) (fun a _ _ => r a (by omega) (by omega))) (h.c.to (q _ (by omega)) (q _ (by omega)) (fun a _ _ => r a (by omega) (by omega))) (h.d.to (q _ (by omega)) (r _ (by omega) (by omega)) (r _ (by omega) (by omega))) (h.f.to (q _ (by omega)) (q _ (by omega))) (h.g.to (q _ (by omega)) (r _ (by omega) (by omega))) ?_ (h.s.to (r _ (by omega) (by omega)) (r _ (by omega) (by omega))) (h.z.to (r0 _ (by omega)) (r0 _ (by omega)) (r _ (by omega) (by omega)) (r _ (by omega) (by omega)))
      · have e : pN (addP E (pN E) k (nI W) ws (nI D)) = pN E + 1 := by
          rw [pN, q1, cl_nI (by omega)]
        unfold iA
        rw [e]
        refine ⟨q1, by omega, fun p hp => ?_⟩
        have r2 : addP E (pN E) k (nI W) ws (nI D) 2 = up1 (E 2) (pN E) k := by unfold addP; simp only [up2_n, up2_s, ne_eq, Nat.reduceEqDiff, not_false_eq_true]
        have r3 : addP E (pN E) k (nI W) ws (nI D) 3 = up1 (E 3) (pN E) (nI W / 100) := by unfold addP; simp only [up2_n, up2_s, ne_eq, Nat.reduceEqDiff, not_false_eq_true]
        have r4 : addP E (pN E) k (nI W) ws (nI D) 4 = up1 (E 4) (pN E) (rem (nI W / 10) 10) := by unfold addP; simp only [up2_n, up2_s, ne_eq, Nat.reduceEqDiff, not_false_eq_true]
        have r5 : addP E (pN E) k (nI W) ws (nI D) 5 = up1 (E 5) (pN E) (rem (nI W) 10) := by unfold addP; simp only [up2_n, up2_s, ne_eq, Nat.reduceEqDiff, not_false_eq_true]
        have r6 : addP E (pN E) k (nI W) ws (nI D) 6 = up1 (E 6) (pN E) ws := by unfold addP; simp only [up2_n, up2_s, ne_eq, Nat.reduceEqDiff, not_false_eq_true]
        have r7 : addP E (pN E) k (nI W) ws (nI D) 7 = up1 (E 7) (pN E) (nI D / 100) := by unfold addP; simp only [up2_n, up2_s, ne_eq, Nat.reduceEqDiff, not_false_eq_true]
        have r8 : addP E (pN E) k (nI W) ws (nI D) 8 = up1 (E 8) (pN E) (rem (nI D) 100) := by unfold addP; simp only [up2_n, up2_s, ne_eq, Nat.reduceEqDiff, not_false_eq_true]
        have r9 : addP E (pN E) k (nI W) ws (nI D) 9 = up1 (E 9) (pN E) (-1) := by unfold addP; simp only [up2_n, up2_s, ne_eq, Nat.reduceEqDiff, not_false_eq_true]
        unfold PersonOk
        rw [r2, r3, r4, r5, r6, r7, r8, r9, w1, w2, w3, d1, d2]
        by_cases hpn : p = pN E
        · subst hpn
          rw [up1_s, up1_s, up1_s, up1_s, up1_s, up1_s, up1_s, up1_s]
          exact ⟨rng_inR (n := 5) (by decide) g1, ⟨_, by omega, rfl⟩, ⟨_, by omega, rfl⟩, ⟨_, by omega, rfl⟩, rng_inR (n := 255) (by decide) g3, ⟨_, by omega, by omega, rfl⟩, ⟨_, by omega, rfl⟩, Or.inl rfl⟩
        · rw [up1_n _ _ hpn, up1_n _ _ hpn, up1_n _ _ hpn, up1_n _ _ hpn, up1_n _ _ hpn, up1_n _ _ hpn, up1_n _ _ hpn, up1_n _ _ hpn]
          exact a3 p (by omega)
      · obtain ⟨b1, ⟨n, hn, b2, b3⟩, b4, b5⟩ := h.h
        have e : pN (addP E (pN E) k (nI W) ws (nI D)) = pN E + 1 := by
          rw [pN, q1, cl_nI (by omega)]
        unfold iH qN tN
        rw [e, q 7 (by omega), q 9 (by omega), q 10 (by omega), q 11 (by omega), q 2 (by omega), q 4 (by omega), r 21 (by omega) (by omega), r 22 (by omega) (by omega), r 23 (by omega) (by omega), r 24 (by omega) (by omega), r 25 (by omega) (by omega)]
        exact ⟨b1, ⟨n, by omega, b2, b3⟩, b4, b5⟩
theorem Inv_move {E : IM} (h : Inv E) (p u : Int32) : Inv (moveU E p u) := by
  unfold moveU
  split
  · exact h
  · split
    · exact h
    · rename_i h1 h2
      have h2 : rng1 u 6 := rng1_inR (n := 6) (by omega) (Classical.not_not.mp h2)
      obtain ⟨a1, a2, a3⟩ := h.a
      have r : ∀ a, a ≠ 9 → up2 E 9 (cl p) u a = E a := fun a ha => up2_n _ _ _ ha
      have q : ∀ j, up2 E 9 (cl p) u 29 j = E 29 j := fun j => by rw [r 29 (by omega)]
      refine Inv.mk' ?_ (h.b.to (q _) (fun a _ _ => r a (by omega))) (h.c.to (q _) (q _) (fun a _ _ => r a (by omega))) (h.d.to (q _) (r _ (by omega)) (r _ (by omega))) (h.f.to (q _) (q _)) (h.g.to (q _) (r _ (by omega))) (h.h.to (fun j _ => q j) (q _) (q _) (q _) (fun a _ _ => r a (by omega))) (h.s.to (r _ (by omega)) (r _ (by omega))) (h.z.to (r _ (by omega)) (r _ (by omega)) (r _ (by omega)) (r _ (by omega)))
      unfold iA pN PersonOk
      rw [q 1, r 2 (by omega), r 3 (by omega), r 4 (by omega), r 5 (by omega), r 6 (by omega), r 7 (by omega), r 8 (by omega)]
      refine ⟨a1, a2, fun i hi => ?_⟩
      obtain ⟨x1, x2, x3, x4, x5, x6, x7, x8⟩ := a3 i hi
      refine ⟨x1, x2, x3, x4, x5, x6, x7, ?_⟩
      rw [up2_s]
      by_cases e : i = cl p
      · rw [e, up1_s]
        exact h2
      · rw [up1_n _ _ e]
        exact x8
theorem Inv_promise {E : IM} (h : Inv E) (w n v g : Int32) : Inv (promiseU E w n v g) := by
  unfold promiseU
  split
  · exact h
  · split
    · exact h
    · rename_i h1 h2
      obtain ⟨a1, a2, a3⟩ := h.b
      obtain ⟨g1, g2, g3, g4⟩ := Classical.not_not.mp h1
      have h2 := Classical.not_not.mp h2
      rw [a1] at h2 g4
      have h8 : qN E < 8 := (nI_ltI (b := 8) (by omega) (by omega)).mp h2
      obtain ⟨N, hN, eN⟩ := nat_of (n := 99) (by decide) (by decide) g2
      have hN1 : 1 ≤ N := by
        subst eN
        by_cases z : 1 ≤ N
        · exact z
        · exact absurd g2.1 (nI_ge (b := 1) (by omega) (by omega))
      have r : ∀ a, (a < 10 ∨ 13 < a) → a ≠ 29 → addQ E (qN E) w n v g a = E a := fun a _ _ => by
        unfold addQ
        rw [up2_n _ _ _ (by omega), up2_n _ _ _ (by omega), up2_n _ _ _ (by omega), up2_n _ _ _ (by omega), up2_n _ _ _ (by omega)]
      have q : ∀ j, j ≠ 2 → addQ E (qN E) w n v g 29 j = E 29 j := fun j hj => by
        unfold addQ
        rw [up2_s, up1_n _ _ hj]
        simp only [up2_n, up2_s, ne_eq, Nat.reduceEqDiff, not_false_eq_true]
      have q2 : addQ E (qN E) w n v g 29 2 = nI (qN E + 1) := by
        unfold addQ
        rw [up2_s, up1_s]
        exact nI_1 _
      have e : qN (addQ E (qN E) w n v g) = qN E + 1 := by
        rw [qN, q2, cl_nI (by omega)]
      refine Inv.mk' (h.a.to (q _ (by omega)) (fun a _ _ => r a (by omega) (by omega))) ?_ ?_ (h.d.to (q _ (by omega)) (r _ (by omega) (by omega)) (r _ (by omega) (by omega))) (h.f.to (q _ (by omega)) (q _ (by omega))) (h.g.to (q _ (by omega)) (r _ (by omega) (by omega))) ?_ (h.s.to (r _ (by omega) (by omega)) (r _ (by omega) (by omega))) (h.z.to (r _ (by omega) (by omega)) (r _ (by omega) (by omega)) (r _ (by omega) (by omega)) (r _ (by omega) (by omega)))
      · unfold iB
        rw [e]
        refine ⟨q2, by omega, fun p hp => ?_⟩
        have r2 : addQ E (qN E) w n v g 10 = up1 (E 10) (qN E) w := by unfold addQ; simp only [up2_n, up2_s, ne_eq, Nat.reduceEqDiff, not_false_eq_true]
        have r3 : addQ E (qN E) w n v g 11 = up1 (E 11) (qN E) n := by unfold addQ; simp only [up2_n, up2_s, ne_eq, Nat.reduceEqDiff, not_false_eq_true]
        have r4 : addQ E (qN E) w n v g 12 = up1 (E 12) (qN E) v := by unfold addQ; simp only [up2_n, up2_s, ne_eq, Nat.reduceEqDiff, not_false_eq_true]
        have r5 : addQ E (qN E) w n v g 13 = up1 (E 13) (qN E) g := by unfold addQ; simp only [up2_n, up2_s, ne_eq, Nat.reduceEqDiff, not_false_eq_true]
        unfold PromiseOk
        rw [r2, r3, r4, r5]
        by_cases hpn : p = qN E
        · subst hpn
          rw [up1_s, up1_s, up1_s, up1_s]
          exact ⟨rng_inR (n := 7) (by decide) g1, ⟨N, hN1, by omega, eN⟩, rng_inR (n := 99) (by decide) g3, rng1_inR (by omega) g4⟩
        · rw [up1_n _ _ hpn, up1_n _ _ hpn, up1_n _ _ hpn, up1_n _ _ hpn]
          exact a3 p (by omega)
      · obtain ⟨c1, c2, c3⟩ := h.c
        unfold iC sN
        rw [e, q 3 (by omega), r 14 (by omega) (by omega), r 15 (by omega) (by omega), r 16 (by omega) (by omega), r 17 (by omega) (by omega)]
        exact ⟨c1, c2, fun s hs => (c3 s hs).up (by omega)⟩
      · obtain ⟨b1, b2, ⟨m, hm, b4, b5⟩, b6⟩ := h.h
        unfold iH pN tN
        rw [e, q 7 (by omega), q 9 (by omega), q 10 (by omega), q 11 (by omega), q 1 (by omega), q 4 (by omega), r 21 (by omega) (by omega), r 22 (by omega) (by omega), r 23 (by omega) (by omega), r 24 (by omega) (by omega), r 25 (by omega) (by omega)]
        exact ⟨b1, b2, ⟨m, hm, b4, fun s hs => (b5 s hs).up (by omega)⟩, b6⟩
end
section
-- 49.inv2
/-! what holds of the state, after each call: sayings, moves, images, sheets -/
theorem how_ok3 {h : Int32} (hh : isHowP h) : rng (h / 100) 6 ∧ rng (rem (h / 10) 10) 6 ∧ ∃ k, 1 ≤ k ∧ k < 10 ∧ rem h 10 = nI k := by
  obtain ⟨h1, h2, h3⟩ := hh
  obtain ⟨H, hH, rfl⟩ := inR_of (n := 599) (by decide) h1
  have w1 : nI H / 100 = nI (H / 100) := pk_div (d := 100) (by omega) (by omega) (by omega)
  have w2 : rem (nI H / 10) 10 = nI (H / 10 % 10) := by
    rw [show nI H / 10 = nI (H / 10) from pk_div (d := 10) (by omega) (by omega) (by omega)]
    exact pk_rem (d := 10) (by omega) (by omega) (by omega)
  have w3 : rem (nI H) 10 = nI (H % 10) := pk_rem (d := 10) (by omega) (by omega) (by omega)
  rw [w2] at h2
  rw [w3] at h3
  rw [w1, w2, w3]
  have l2 : H / 10 % 10 < 6 := (nI_ltI (b := 6) (by omega) (by omega)).mp h2
  have l3 : 0 < H % 10 := (nI_ltI (a := 0) (by omega) (by omega)).mp h3
  exact ⟨⟨_, by omega, rfl⟩, ⟨_, l2, rfl⟩, ⟨_, l3, by omega, rfl⟩⟩
theorem Inv_say {E : IM} (h : Inv E) (q0 hw : Int32) : Inv (sayU E q0 hw) := by
  unfold sayU
  split
  · exact h
  · split
    · exact h
    · rename_i h1 h2
      obtain ⟨a1, a2, a3⟩ := h.c
      obtain ⟨g1, g2⟩ := Classical.not_not.mp h1
      have h2 := Classical.not_not.mp h2
      rw [a1] at h2
      rw [h.b.1] at g1
      have hb8 := h.b.2.1
      obtain ⟨k, hk, rfl⟩ := has_nat (by omega) g1
      have h10 : sN E < 10 := (nI_ltI (b := 10) (by omega) (by omega)).mp h2
      obtain ⟨o1, o2, o3⟩ := how_ok3 g2
      have r : ∀ a, (a < 14 ∨ 17 < a) → a ≠ 29 → addS E (sN E) (nI k) hw a = E a := fun a _ _ => by
        unfold addS sputV
        rw [up2_n _ _ _ (by omega), up2_n _ _ _ (by omega), up2_n _ _ _ (by omega), up2_n _ _ _ (by omega), up2_n _ _ _ (by omega)]
      have q : ∀ j, j ≠ 3 → addS E (sN E) (nI k) hw 29 j = E 29 j := fun j hj => by
        unfold addS sputV
        rw [up2_s, up1_n _ _ hj]
        simp only [up2_n, up2_s, ne_eq, Nat.reduceEqDiff, not_false_eq_true]
      have q3 : addS E (sN E) (nI k) hw 29 3 = nI (sN E + 1) := by
        unfold addS
        rw [up2_s, up1_s]
        exact nI_1 _
      have e : sN (addS E (sN E) (nI k) hw) = sN E + 1 := by
        rw [sN, q3, cl_nI (by omega)]
      refine Inv.mk' (h.a.to (q _ (by omega)) (fun a _ _ => r a (by omega) (by omega))) (h.b.to (q _ (by omega)) (fun a _ _ => r a (by omega) (by omega))) ?_ (h.d.to (q _ (by omega)) (r _ (by omega) (by omega)) (r _ (by omega) (by omega))) (h.f.to (q _ (by omega)) (q _ (by omega))) (h.g.to (q _ (by omega)) (r _ (by omega) (by omega))) (h.h.to (fun j _ => q j (by omega)) (q _ (by omega)) (q _ (by omega)) (q _ (by omega)) (fun a _ _ => r a (by omega) (by omega))) (h.s.to (r _ (by omega) (by omega)) (r _ (by omega) (by omega))) (h.z.to (r _ (by omega) (by omega)) (r _ (by omega) (by omega)) (r _ (by omega) (by omega)) (r _ (by omega) (by omega)))
      unfold iC qN
      rw [e, q 2 (by omega)]
      refine ⟨q3, by omega, fun s hs => ?_⟩
      have r2 : addS E (sN E) (nI k) hw 14 = up1 (E 14) (sN E) (nI k) := by unfold addS sputV; simp only [up2_n, up2_s, ne_eq, Nat.reduceEqDiff, not_false_eq_true]
      have r3 : addS E (sN E) (nI k) hw 15 = up1 (E 15) (sN E) (hw / 100) := by unfold addS sputV; simp only [up2_n, up2_s, ne_eq, Nat.reduceEqDiff, not_false_eq_true]
      have r4 : addS E (sN E) (nI k) hw 16 = up1 (E 16) (sN E) (rem (hw / 10) 10) := by unfold addS sputV; simp only [up2_n, up2_s, ne_eq, Nat.reduceEqDiff, not_false_eq_true]
      have r5 : addS E (sN E) (nI k) hw 17 = up1 (E 17) (sN E) (rem hw 10) := by unfold addS sputV; simp only [up2_n, up2_s, ne_eq, Nat.reduceEqDiff, not_false_eq_true]
      rw [r2, r3, r4, r5]
      by_cases hpn : s = sN E
      · subst hpn
        rw [up1_s, up1_s, up1_s, up1_s]
        exact ⟨⟨k, hk, rfl⟩, o1, o2, o3⟩
      · rw [up1_n _ _ hpn, up1_n _ _ hpn, up1_n _ _ hpn, up1_n _ _ hpn]
        exact a3 s (by omega)
theorem Inv_unsay {E : IM} (h : Inv E) : Inv (unsayU E) := by
  unfold unsayU
  split
  · exact h
  · obtain ⟨a1, a2, a3⟩ := h.c
    have r : ∀ a, (a < 14 ∨ 17 < a) → a ≠ 29 → cutS4 E (sN E - 1) a = E a := fun a _ _ => by
      unfold cutS4
      rw [upr_n _ _ (by omega), upr_n _ _ (by omega), upr_n _ _ (by omega), upr_n _ _ (by omega), up2_n _ _ _ (by omega)]
    have q : ∀ j, j ≠ 3 → cutS4 E (sN E - 1) 29 j = E 29 j := fun j hj => by
      unfold cutS4
      rw [upr_n _ _ (by omega), upr_n _ _ (by omega), upr_n _ _ (by omega), upr_n _ _ (by omega), up2_s, up1_n _ _ hj]
    have q3 : cutS4 E (sN E - 1) 29 3 = nI (sN E - 1) := by
      unfold cutS4
      rw [upr_n _ _ (by omega), upr_n _ _ (by omega), upr_n _ _ (by omega), upr_n _ _ (by omega), up2_s, up1_s]
    have e : sN (cutS4 E (sN E - 1)) = sN E - 1 := by
      rw [sN, q3, cl_nI (by omega)]
    refine Inv.mk' (h.a.to (q _ (by omega)) (fun a _ _ => r a (by omega) (by omega))) (h.b.to (q _ (by omega)) (fun a _ _ => r a (by omega) (by omega))) ?_ (h.d.to (q _ (by omega)) (r _ (by omega) (by omega)) (r _ (by omega) (by omega))) (h.f.to (q _ (by omega)) (q _ (by omega))) (h.g.to (q _ (by omega)) (r _ (by omega) (by omega))) (h.h.to (fun j _ => q j (by omega)) (q _ (by omega)) (q _ (by omega)) (q _ (by omega)) (fun a _ _ => r a (by omega) (by omega))) (h.s.to (r _ (by omega) (by omega)) (r _ (by omega) (by omega))) (h.z.to (r _ (by omega) (by omega)) (r _ (by omega) (by omega)) (r _ (by omega) (by omega)) (r _ (by omega) (by omega)))
    unfold iC qN
    rw [e, q 2 (by omega)]
    refine ⟨q3, by omega, fun s hs => ?_⟩
    have r2 : cutS4 E (sN E - 1) 14 s = E 14 s := by unfold cutS4; simp only [up2_n, up2_s, ne_eq, Nat.reduceEqDiff, not_false_eq_true, upr_n, upr_s]; exact mk_lt hs
    have r3 : cutS4 E (sN E - 1) 15 s = E 15 s := by unfold cutS4; simp only [up2_n, up2_s, ne_eq, Nat.reduceEqDiff, not_false_eq_true, upr_n, upr_s]; exact mk_lt hs
    have r4 : cutS4 E (sN E - 1) 16 s = E 16 s := by unfold cutS4; simp only [up2_n, up2_s, ne_eq, Nat.reduceEqDiff, not_false_eq_true, upr_n, upr_s]; exact mk_lt hs
    have r5 : cutS4 E (sN E - 1) 17 s = E 17 s := by unfold cutS4; simp only [up2_n, up2_s, ne_eq, Nat.reduceEqDiff, not_false_eq_true, upr_n, upr_s]; exact mk_lt hs
    rw [r2, r3, r4, r5]
    exact a3 s (by omega)
theorem Inv_rsI (K : Nat) : ∀ (k p : Nat) (E : IM) (d : Nat), Inv E → Inv (rsI K k p E d).1 := by
  intro k
  induction k with
  | zero => intro p E d h; exact h
  | succ j ih =>
    intro p E d h
    rw [rsI]
    split
    · split
      · exact ih _ _ _ (Inv_mv h p (Nat.lt_of_le_of_lt (leR_le _ 5) (by omega)))
      · exact ih _ _ _ h
    · exact h
theorem Inv_rsO (K : Nat) : ∀ (k : Nat) (E : IM) (d : Nat), Inv E → Inv (rsO K k E d).1 := by
  intro k
  induction k with
  | zero => intro E d h; exact h
  | succ j ih =>
    intro E d h
    rw [rsO]
    split
    · exact Inv_rsI K _ _ _ _ h
    · exact ih _ _ (Inv_rsI K _ _ _ _ h)
theorem Inv_rest {E : IM} (h : Inv E) (k : Int32) : Inv (restU E k) := by
  unfold restU
  split
  · exact h
  · exact Inv_rsO _ _ _ _ h
theorem Inv_image {E : IM} (h : Inv E) : Inv (imageU E) := by
  obtain ⟨a1, a2, a3⟩ := h.a
  refine Inv.mk' (h.a.to rfl (fun a _ _ => ?_)) (h.b.to rfl (fun a _ _ => ?_)) (h.c.to rfl rfl (fun a _ _ => ?_)) (h.d.to rfl rfl rfl) (h.f.to rfl rfl) (h.g.to rfl rfl) ⟨Or.inr rfl, ⟨pN E, Nat.le_refl _, a1, fun p hp => (a3 p hp).2.2.2.2.2.2.2⟩, ⟨sN E, h.c.2.1, h.c.1, h.c.2.2⟩, ⟨wN E, h.f.2, h.f.1⟩⟩ (h.s.to rfl rfl) (fun j => ⟨fun hj => ⟨((h.z j).1 hj).1, ((h.z j).1 hj).1⟩, fun hj => ⟨((h.z j).2 hj).1, ((h.z j).2 hj).1⟩⟩)
  · rcases (show a = 2 ∨ a = 3 ∨ a = 4 ∨ a = 5 ∨ a = 6 ∨ a = 7 ∨ a = 8 ∨ a = 9 by omega) with rfl | rfl | rfl | rfl | rfl | rfl | rfl | rfl <;> rfl
  · rcases (show a = 10 ∨ a = 11 ∨ a = 12 ∨ a = 13 by omega) with rfl | rfl | rfl | rfl <;> rfl
  · rcases (show a = 14 ∨ a = 15 ∨ a = 16 ∨ a = 17 by omega) with rfl | rfl | rfl | rfl <;> rfl
theorem Inv_back {E : IM} (h : Inv E) : Inv (backU E) := by
  unfold backU
  split
  · obtain ⟨a1, a2, a3⟩ := h.a
    obtain ⟨b1, ⟨n, hn, b2, b3⟩, ⟨m, hm, b4, b5⟩, ⟨w, hw, b6⟩⟩ := h.h
    refine Inv.mk' ⟨a1, a2, fun p hp => ?_⟩ (h.b.to rfl (fun a _ _ => ?_)) ?_ (h.d.to rfl rfl rfl) ?_ (h.g.to rfl rfl) (h.h.to (fun j hj => ?_) rfl rfl rfl (fun a _ _ => ?_)) (h.s.to rfl rfl) (fun j => ⟨fun hj => ⟨((h.z j).1 hj).2, ((h.z j).1 hj).2⟩, fun hj => ⟨((h.z j).2 hj).2, ((h.z j).2 hj).2⟩⟩)
    · obtain ⟨x1, x2, x3, x4, x5, x6, x7, x8⟩ := a3 p hp
      refine ⟨x1, x2, x3, x4, x5, x6, x7, ?_⟩
      show rng1 (if p < cl (E 29 9) then E 21 p else E 9 p) 6
      rw [b2, cl_nI (by omega)]
      split
      · rename_i z
        exact b3 p z
      · exact x8
    · rcases (show a = 10 ∨ a = 11 ∨ a = 12 ∨ a = 13 by omega) with rfl | rfl | rfl | rfl <;> rfl
    · have e : sN (backU0 E) = m := by
        show cl (E 29 10) = m
        rw [b4, cl_nI (by omega)]
      unfold iC
      rw [e]
      exact ⟨b4, hm, b5⟩
    · have e : wN (backU0 E) = w := by
        show cl (E 29 11) = w
        have := h.d.2.2.1
        rw [b6, cl_nI (by omega)]
      unfold iF
      rw [e]
      exact ⟨b6, hw⟩
    · show backU0 E 29 j = E 29 j
      match j, hj with
      | 7, _ => rfl
      | 8, _ => rfl
      | 9, _ => rfl
      | 10, _ => rfl
      | 11, _ => rfl
      | j + 12, _ => rfl
    · rcases (show a = 21 ∨ a = 22 ∨ a = 23 ∨ a = 24 ∨ a = 25 by omega) with rfl | rfl | rfl | rfl | rfl <;> rfl
  · exact h
theorem Inv_28 {E : IM} (h : Inv E) (f : Nat → Int32) : Inv (upr E 28 f) := by
  have r : ∀ a, a ≠ 28 → upr E 28 f a = E a := fun a ha => upr_n _ _ ha
  have q : ∀ j, upr E 28 f 29 j = E 29 j := fun j => by rw [r 29 (by omega)]
  exact Inv.mk' (h.a.to (q _) (fun a _ _ => r a (by omega))) (h.b.to (q _) (fun a _ _ => r a (by omega))) (h.c.to (q _) (q _) (fun a _ _ => r a (by omega))) (h.d.to (q _) (r _ (by omega)) (r _ (by omega))) (h.f.to (q _) (q _)) (h.g.to (q _) (r _ (by omega))) (h.h.to (fun j _ => q j) (q _) (q _) (q _) (fun a _ _ => r a (by omega))) (h.s.to (r _ (by omega)) (r _ (by omega))) (h.z.to (r _ (by omega)) (r _ (by omega)) (r _ (by omega)) (r _ (by omega)))
theorem Inv_cell {E : IM} (h : Inv E) (s i v : Int32) : Inv (cellU E s i v) := by
  unfold cellU
  split
  · exact Inv_28 h _
  · exact h
theorem Inv_copy {E : IM} (h : Inv E) (s i o j n : Int32) : Inv (copyU E s i o j n) := by
  unfold copyU
  split
  · exact h
  · split
    · exact h
    · split
      · exact h
      · split
        · exact h
        · exact Inv_28 h _
theorem Inv_sheet {E : IM} (h : Inv E) (s k n : Int32) : Inv (sheetU E s k n) := by
  unfold sheetU
  split
  · exact h
  · split
    · exact h
    · rename_i h1 h2
      obtain ⟨g1, g2, g3⟩ := Classical.not_not.mp h1
      obtain ⟨i, hi, rfl⟩ := inR_of (n := 3) (by decide) g1
      rw [cl_nI (by omega)]
      unfold shU
      refine Inv_28 ?_ _
      have r : ∀ a, a ≠ 26 → a ≠ 27 → up2 (up2 E 26 i k) 27 i (if k = -1 then 0 else n) a = E a := fun a h1 h2 => by rw [up2_n _ _ _ h2, up2_n _ _ _ h1]
      have q : ∀ j, up2 (up2 E 26 i k) 27 i (if k = -1 then 0 else n) 29 j = E 29 j := fun j => by rw [r 29 (by omega) (by omega)]
      refine Inv.mk' (h.a.to (q _) (fun a _ _ => r a (by omega) (by omega))) (h.b.to (q _) (fun a _ _ => r a (by omega) (by omega))) (h.c.to (q _) (q _) (fun a _ _ => r a (by omega) (by omega))) (h.d.to (q _) (r _ (by omega) (by omega)) (r _ (by omega) (by omega))) (h.f.to (q _) (q _)) (h.g.to (q _) (r _ (by omega) (by omega))) (h.h.to (fun j _ => q j) (q _) (q _) (q _) (fun a _ _ => r a (by omega) (by omega))) ?_ (h.z.to (r _ (by omega) (by omega)) (r _ (by omega) (by omega)) (r _ (by omega) (by omega)) (r _ (by omega) (by omega)))
      have hn : rng (if k = -1 then 0 else n) 41 := by
        split
        · exact ⟨0, by omega, rfl⟩
        · rename_i hk
          refine rng_inR (M := 40) (n := 40) (by decide) ⟨Int32.not_lt.mp (fun z => h2 ⟨hk, z⟩), g3.elim (fun z => absurd z hk) id⟩
      intro s hs
      have e26 : up2 (up2 E 26 i k) 27 i (if k = -1 then 0 else n) 26 = up1 (E 26) i k := by simp only [up2_n, up2_s, ne_eq, Nat.reduceEqDiff, not_false_eq_true]
      have e27 : up2 (up2 E 26 i k) 27 i (if k = -1 then 0 else n) 27 = up1 (E 27) i (if k = -1 then 0 else n) := by simp only [up2_n, up2_s, ne_eq, Nat.reduceEqDiff, not_false_eq_true]
      rw [e26, e27]
      by_cases e : s = i
      · subst e
        rw [up1_s, up1_s]
        refine ⟨rng1_inR (n := 3) (by omega) g2, hn, fun z => by rw [if_pos z]⟩
      · rw [up1_n _ _ e, up1_n _ _ e]
        exact h.s s hs
end
section
-- 50.wg
/-! the class's calls: promisesBy, taken -/
def pbC (s : Nat) (a0 : Int32) (k : Nat) : Nat := s * 40 + cl a0 + 4 * k
def pbR (s : Nat) (a0 : Int32) (m k : Nat) (came : Int32) (E : IM) : Int32 × IM := match m with
  | 0 => (came, E)
  | j + 1 => if ¬ inR a0 0 (E 27 s - 4 - 4 * nI k) then (-12, E) else
    pbR s a0 j (k + 1) (if 0 ≤ promiseS E (E 28 (pbC s a0 k)) (E 28 (pbC s a0 k + 1)) (E 28 (pbC s a0 k + 2)) (E 28 (pbC s a0 k + 3)) then came + 1 else came)
      (promiseU E (E 28 (pbC s a0 k)) (E 28 (pbC s a0 k + 1)) (E 28 (pbC s a0 k + 2)) (E 28 (pbC s a0 k + 3)))
abbrev pbOk (s so n : Int32) : Prop := inR s 0 3 ∧ inR so 0 2 ∧ inR n 0 8
def pbS (E : IM) (s so a0 n : Int32) : Int32 := if ¬ pbOk s so n then -2 else if E 26 (cl s) = -1 then -11 else if ¬ E 26 (cl s) = so then -13 else (pbR (cl s) a0 (cl n) 0 0 E).1
def pbU (E : IM) (s so a0 n : Int32) : IM := if ¬ pbOk s so n then E else if E 26 (cl s) = -1 then E else if ¬ E 26 (cl s) = so then E else (pbR (cl s) a0 (cl n) 0 0 E).2
theorem pb_nat {z k : Nat} {a0 : Int32} (hz : z ≤ 40) (hk : k ≤ 8) (h : inR a0 0 (nI z - 4 - 4 * nI k)) : ∃ a, a0 = nI a ∧ a + 4 * k + 4 ≤ z := by
  have e : (nI z - 4 - 4 * nI k).toInt = (z : Int) - 4 - 4 * k := by
    rw [show (4 : Int32) * nI k = nI (4 * k) from pk_mul 4 k, Int32.toInt_sub, show (nI z - 4 : Int32) = nI z - nI 4 from rfl, pk_sub_toInt (by omega) (by omega), nI_toInt (by omega)]
    rw [Int.bmod_eq_of_le] <;> omega
  have h2 := Int32.le_iff_toInt_le.mp h.1
  have h3 := Int32.le_iff_toInt_le.mp h.2
  rw [e] at h3
  simp at h2
  obtain ⟨a, ha, ea⟩ := nI_of2 (x := a0) (M := nI 40) (n := 40) rfl (Int32.not_lt.mpr h.1) (Int32.le_iff_toInt_le.mpr (by rw [nI_toInt (by omega)]; omega))
  refine ⟨a, ea, ?_⟩
  rw [ea, nI_toInt (by omega)] at h3
  omega
theorem Inv_pbR (s : Nat) (a0 : Int32) : ∀ (m k : Nat) (came : Int32) (E : IM), Inv E → Inv (pbR s a0 m k came E).2 := by
  intro m
  induction m with
  | zero => intro k came E h; exact h
  | succ j ih =>
    intro k came E h
    rw [pbR]
    split
    · exact h
    · exact ih _ _ _ (Inv_promise h _ _ _ _)
theorem Inv_pb {E : IM} (h : Inv E) (s so a0 n : Int32) : Inv (pbU E s so a0 n) := by
  unfold pbU
  split
  · exact h
  · split
    · exact h
    · split
      · exact h
      · exact Inv_pbR _ _ _ _ _ _ h
def sp_W_promisesBy : SpT := fun as S I L Post => ∃ s so a0 n : Int32, cSp [.int s, .int so, .int a0, .int n] (fun E => .int (pbS E s so a0 n)) (fun E => pbU E s so a0 n) as S I L Post
set_option maxHeartbeats 4000000 in
set_option maxRecDepth 100000 in
theorem c_W_promisesBy : Con mW_promisesBy 4 0 0 sp_W_promisesBy := by
  refine con_of_X rfl fun G as S I0 L Post hs => ?_
  obtain ⟨s, so, a0, n, rfl, rfl, hok, h1⟩ := hs
  dsimp only at h1
  refine ⟨5, Nat.le_of_ble_eq_true rfl, ?_⟩
  show X mW_promisesBy G _ S1 I0 L 0 [.ref 0, .int s, .int so, .int a0, .int n, .null, .null, .null, .null, .null] [] Post
  have bad : ¬ pbOk s so n → X mW_promisesBy G (4, 0, 0) S1 I0 L 29 [.ref 0, .int s, .int so, .int a0, .int n, .null, .null, .null, .null, .null] [] Post := by
    intro hc
    rw [pbS, pbU, if_pos hc, if_pos hc] at h1
    refine x_bipush (v := -2) dW_promisesBy_29 rfl ?_
    -- at 31: .ireturn
    refine x_ireturn dW_promisesBy_31 rfl rfl ?_
    exact h1 I0 (fun _ _ => rfl) rfl
  refine x_iload_n dW_promisesBy_0 rfl ?_
  refine x_iconst (v := 0) dW_promisesBy_1 rfl ?_
  refine x_iconst (v := 3) dW_promisesBy_2 rfl ?_
  -- at 3: .invokestatic 101
  refine x_callS_3 c_W_within ok_W_within ml_W_101 dW_promisesBy_3 rfl rfl ?_
  refine ⟨_, _, _, rfl, fun a1 => ?_, fun a1 => ?_⟩
  · have a1 : inR s 0 3 := a1
    refine x_if_eq (tgt := 29) dW_promisesBy_6 (by decide) (fun h => absurd h (by decide)) (fun _ => ?_)
    refine x_iload_n dW_promisesBy_9 rfl ?_
    refine x_iconst (v := 0) dW_promisesBy_10 rfl ?_
    refine x_iconst (v := 2) dW_promisesBy_11 rfl ?_
    -- at 12: .invokestatic 101
    refine x_callS_3 c_W_within ok_W_within ml_W_101 dW_promisesBy_12 rfl rfl ?_
    refine ⟨_, _, _, rfl, fun a2 => ?_, fun a2 => ?_⟩
    · refine x_if_eq (tgt := 29) dW_promisesBy_15 (by decide) (fun h => absurd h (by decide)) (fun _ => ?_)
      refine x_iload dW_promisesBy_18 rfl ?_
      refine x_iconst (v := 0) dW_promisesBy_20 rfl ?_
      refine x_bipush (v := 8) dW_promisesBy_21 rfl ?_
      -- at 23: .invokestatic 101
      refine x_callS_3 c_W_within ok_W_within ml_W_101 dW_promisesBy_23 rfl rfl ?_
      refine ⟨_, _, _, rfl, fun a3 => ?_, fun a3 => ?_⟩
      · have a3 : inR n 0 8 := a3
        refine x_if_ne (tgt := 32) dW_promisesBy_26 (by decide) (fun _ => ?_) (fun h => absurd h (by decide))
        have hc : pbOk s so n := ⟨a1, a2, a3⟩
        rw [pbS, pbU, if_neg (not_not_intro hc), if_neg (not_not_intro hc)] at h1
        obtain ⟨i, hi, rfl⟩ := inR_of (n := 3) (by decide) a1
        obtain ⟨N, hN, rfl⟩ := inR_of (n := 8) (by decide) a3
        rw [cl_nI (by omega), cl_nI (by omega)] at h1
        refine x_aload_n dW_promisesBy_32 rfl ?_
        refine x_getR fl_W_70 rfl dW_promisesBy_33 rfl rfl rfl ?_
        refine x_iload_n dW_promisesBy_36 rfl ?_
        -- at 37: .invokevirtual 335
        refine x_callV_1 c_Sheets_isMissing ok_Sheets_isMissing ml_W_335 dW_promisesBy_37 rfl rfl rfl rfl rfl ?_
        refine ⟨i, rfl, rfl, by omega, fun a4 => ?_, fun a4 => ?_⟩
        · have a4 : cE I0 26 i = -1 := a4
          refine x_if_eq (tgt := 46) dW_promisesBy_40 (by decide) (fun h => absurd h (by decide)) (fun _ => ?_)
          rw [if_pos a4, if_pos a4] at h1
          refine x_bipush (v := -11) dW_promisesBy_43 rfl ?_
          -- at 45: .ireturn
          refine x_ireturn dW_promisesBy_45 rfl rfl ?_
          exact h1 I0 (fun _ _ => rfl) rfl
        · have a4 : ¬ cE I0 26 i = -1 := a4
          refine x_if_eq (tgt := 46) dW_promisesBy_40 (by decide) (fun _ => ?_) (fun h => absurd (by decide) h)
          rw [if_neg a4, if_neg a4] at h1
          refine x_aload_n dW_promisesBy_46 rfl ?_
          refine x_getR fl_W_70 rfl dW_promisesBy_47 rfl rfl rfl ?_
          refine x_getR fl_W_343 rfl dW_promisesBy_50 rfl rfl rfl ?_
          refine x_iload_n dW_promisesBy_53 rfl ?_
          refine x_ialdJ dW_promisesBy_54 rfl rfl rfl (by omega) ?_
          refine x_iload_n dW_promisesBy_55 rfl ?_
          -- at 56: .if_icmp .eq 6
          refine x_icmp_eq (tgt := 62) dW_promisesBy_56 (by decide) (fun c5 => ?_) (fun c5 => ?_)
          · have c5 : cE I0 26 i = so := c5
            rw [if_neg (not_not_intro c5), if_neg (not_not_intro c5)] at h1
            refine x_iconst (v := 0) dW_promisesBy_62 rfl ?_
            refine x_istore_5 dW_promisesBy_63 rfl rfl ?_
            refine x_iconst (v := 0) dW_promisesBy_65 rfl ?_
            refine x_istore_6 dW_promisesBy_66 rfl rfl ?_
            -- at 68: .iload 6
            have loop : ∀ (m k : Nat) (I : IM) (came : Int32) (a7 a8 a9 : Value), k + m = N → cOk I → (∀ k, 59 ≤ k → I k = I0 k) →
                (∀ I' : IM, (∀ k, 59 ≤ k → I' k = I0 k) → cE I' = (pbR i a0 m k came (cE I)).2 → Post (some (.int (pbR i a0 m k came (cE I)).1)) S1 I' L) →
                X mW_promisesBy G (4, 0, 0) S1 I L 68 [.ref 0, .int (nI i), .int so, .int a0, .int (nI N), .int came, .int (nI k), a7, a8, a9] [] Post := by
              intro m
              induction m with
              | zero =>
                intro k I came a7 a8 a9 hk ok st hcc
                obtain rfl : k = N := by omega
                refine x_iload dW_promisesBy_68 rfl ?_
                refine x_iload dW_promisesBy_70 rfl ?_
                -- at 72: .if_icmp .ge 96
                refine x_icmp_ge (tgt := 168) dW_promisesBy_72 (by decide) (fun _ => ?_) (fun h => absurd (Int32.le_refl _) h)
                refine x_iload dW_promisesBy_168 rfl ?_
                -- at 170: .ireturn
                refine x_ireturn dW_promisesBy_170 rfl rfl ?_
                exact hcc I st rfl
              | succ m ih =>
                intro k I came a7 a8 a9 hk ok st hcc
                obtain ⟨z, hz, ez⟩ := sz_nat ok (s := i) (by omega)
                have ez : I 57 i = nI z := ez
                rw [pbR, show cE I 27 i = nI z from ez] at hcc
                refine x_iload dW_promisesBy_68 rfl ?_
                refine x_iload dW_promisesBy_70 rfl ?_
                -- at 72: .if_icmp .ge 96
                refine x_icmp_ge (tgt := 168) dW_promisesBy_72 (by decide) (fun h => absurd h (nI_ge (b := N) (by omega) (by omega))) (fun _ => ?_)
                refine x_iconst (v := 4) dW_promisesBy_75 rfl ?_
                refine x_iload dW_promisesBy_76 rfl ?_
                refine x_imul dW_promisesBy_78 ?_
                refine x_istore_7 dW_promisesBy_79 rfl rfl ?_
                refine x_iload_n dW_promisesBy_81 rfl ?_
                refine x_iconst (v := 0) dW_promisesBy_82 rfl ?_
                refine x_aload_n dW_promisesBy_83 rfl ?_
                refine x_getR fl_W_70 rfl dW_promisesBy_84 rfl rfl rfl ?_
                refine x_getR fl_W_338 rfl dW_promisesBy_87 rfl rfl rfl ?_
                refine x_iload_n dW_promisesBy_90 rfl ?_
                refine x_ialdJ dW_promisesBy_91 rfl rfl rfl (by omega) ?_
                -- at 92: .iconst 4
                rw [ez]
                refine x_iconst (v := 4) dW_promisesBy_92 rfl ?_
                refine x_isub dW_promisesBy_93 ?_
                refine x_iload dW_promisesBy_94 rfl ?_
                refine x_isub dW_promisesBy_96 ?_
                -- at 97: .invokestatic 101
                refine x_callS_3 c_W_within ok_W_within ml_W_101 dW_promisesBy_97 rfl rfl ?_
                refine ⟨_, _, _, rfl, fun g => ?_, fun g => ?_⟩
                · have g : inR a0 0 (nI z - 4 - 4 * nI k) := g
                  refine x_if_ne (tgt := 106) dW_promisesBy_100 (by decide) (fun _ => ?_) (fun h => absurd h (by decide))
                  rw [if_neg (not_not_intro g)] at hcc
                  obtain ⟨a, rfl, hza⟩ := pb_nat hz (by omega) g
                  have ec : pbC i (nI a) k = i * 40 + a + 4 * k := by unfold pbC; rw [cl_nI (by omega)]
                  rw [ec] at hcc
                  refine x_iload_n dW_promisesBy_106 rfl ?_
                  refine x_bipush (v := 40) dW_promisesBy_107 rfl ?_
                  refine x_imul dW_promisesBy_109 ?_
                  refine x_iload_n dW_promisesBy_110 rfl ?_
                  refine x_iadd dW_promisesBy_111 ?_
                  refine x_iload dW_promisesBy_112 rfl ?_
                  refine x_iadd dW_promisesBy_114 ?_
                  -- at 115: .istore 8
                  refine x_eqi (y := nI (i * 40 + a + 4 * k)) (by rw [← nI_add, ← nI_add, ← pk_mul, ← pk_mul]; rfl) ?_
                  refine x_istore_8 dW_promisesBy_115 rfl rfl ?_
                  refine x_aload_n dW_promisesBy_117 rfl ?_
                  refine x_getR fl_W_70 rfl dW_promisesBy_118 rfl rfl rfl ?_
                  refine x_getR fl_W_346 rfl dW_promisesBy_121 rfl rfl rfl ?_
                  refine x_astore_9 dW_promisesBy_124 rfl rfl ?_
                  refine x_aload_n dW_promisesBy_126 rfl ?_
                  refine x_aload dW_promisesBy_127 rfl ?_
                  refine x_iload dW_promisesBy_129 rfl ?_
                  refine x_ialdJ (j := i * 40 + a + 4 * k) dW_promisesBy_131 rfl rfl (by first | rfl | (simp only [← nI_add, ← pk_mul]; rfl)) (by omega) ?_
                  refine x_aload dW_promisesBy_132 rfl ?_
                  refine x_iload dW_promisesBy_134 rfl ?_
                  refine x_iconst (v := 1) dW_promisesBy_136 rfl ?_
                  refine x_iadd dW_promisesBy_137 ?_
                  refine x_ialdJ (j := i * 40 + a + 4 * k + 1) dW_promisesBy_138 rfl rfl (by first | rfl | (simp only [← nI_add, ← pk_mul]; rfl)) (by omega) ?_
                  refine x_aload dW_promisesBy_139 rfl ?_
                  refine x_iload dW_promisesBy_141 rfl ?_
                  refine x_iconst (v := 2) dW_promisesBy_143 rfl ?_
                  refine x_iadd dW_promisesBy_144 ?_
                  refine x_ialdJ (j := i * 40 + a + 4 * k + 2) dW_promisesBy_145 rfl rfl (by first | rfl | (simp only [← nI_add, ← pk_mul]; rfl)) (by omega) ?_
                  refine x_aload dW_promisesBy_146 rfl ?_
                  refine x_iload dW_promisesBy_148 rfl ?_
                  refine x_iconst (v := 3) dW_promisesBy_150 rfl ?_
                  refine x_iadd dW_promisesBy_151 ?_
                  refine x_ialdJ (j := i * 40 + a + 4 * k + 3) dW_promisesBy_152 rfl rfl (by first | rfl | (simp only [← nI_add, ← pk_mul]; rfl)) (by omega) ?_
                  -- at 153: .invokevirtual 355
                  refine x_callV_4 c_W_promise ok_W_promise ml_W_355 dW_promisesBy_153 rfl rfl rfl rfl rfl ?_
                  refine ⟨_, _, _, _, rfl, rfl, ok, fun I' st' e' => ?_⟩
                  have ok' : cOk I' := by
                    unfold cOk
                    rw [e']
                    exact Inv_promise ok _ _ _ _
                  have st2 : ∀ k, 59 ≤ k → I' k = I0 k := fun k hk => (st' k hk).trans (st k hk)
                  refine x_if_lt (tgt := 162) dW_promisesBy_156 (by decide) (fun d1 => ?_) (fun d1 => ?_)
                  · have d1 : promiseS (cE I) (cE I 28 (i * 40 + a + 4 * k)) (cE I 28 (i * 40 + a + 4 * k + 1)) (cE I 28 (i * 40 + a + 4 * k + 2)) (cE I 28 (i * 40 + a + 4 * k + 3)) < 0 := d1
                    refine x_iincp_6 dW_promisesBy_162 rfl rfl ?_
                    refine x_goto (tgt := 68) dW_promisesBy_165 (by decide) ?_
                    -- at 68: .iload 6
                    rw [nI_1]
                    refine ih (k + 1) I' _ _ _ _ (by omega) ok' st2 ?_
                    rw [e']
                    rw [if_neg (Int32.not_le.mpr d1)] at hcc
                    exact hcc
                  · have d1 : ¬ promiseS (cE I) (cE I 28 (i * 40 + a + 4 * k)) (cE I 28 (i * 40 + a + 4 * k + 1)) (cE I 28 (i * 40 + a + 4 * k + 2)) (cE I 28 (i * 40 + a + 4 * k + 3)) < 0 := d1
                    refine x_iincp_5 dW_promisesBy_159 rfl rfl ?_
                    refine x_iincp_6 dW_promisesBy_162 rfl rfl ?_
                    refine x_goto (tgt := 68) dW_promisesBy_165 (by decide) ?_
                    -- at 68: .iload 6
                    rw [nI_1]
                    refine ih (k + 1) I' _ _ _ _ (by omega) ok' st2 ?_
                    rw [e']
                    rw [if_pos (Int32.not_lt.mp d1)] at hcc
                    exact hcc
                · have g : ¬ inR a0 0 (nI z - 4 - 4 * nI k) := g
                  refine x_if_ne (tgt := 106) dW_promisesBy_100 (by decide) (fun h => absurd (by decide) h) (fun _ => ?_)
                  rw [if_pos g] at hcc
                  refine x_bipush (v := -12) dW_promisesBy_103 rfl ?_
                  -- at 105: .ireturn
                  refine x_ireturn dW_promisesBy_105 rfl rfl ?_
                  exact hcc I st rfl
            exact loop N 0 I0 0 _ _ _ (by omega) hok (fun _ _ => rfl) h1
          · have c5 : ¬ cE I0 26 i = so := c5
            rw [if_pos c5, if_pos c5] at h1
            refine x_bipush (v := -13) dW_promisesBy_59 rfl ?_
            -- at 61: .ireturn
            refine x_ireturn dW_promisesBy_61 rfl rfl ?_
            exact h1 I0 (fun _ _ => rfl) rfl
      · refine x_if_ne (tgt := 32) dW_promisesBy_26 (by decide) (fun h => absurd (by decide) h) (fun _ => ?_)
        exact bad (fun z => a3 z.2.2)
    · refine x_if_eq (tgt := 29) dW_promisesBy_15 (by decide) (fun _ => ?_) (fun h => absurd (by decide) h)
      exact bad (fun z => a2 z.2.1)
  · refine x_if_eq (tgt := 29) dW_promisesBy_6 (by decide) (fun _ => ?_) (fun h => absurd (by decide) h)
    exact bad (fun z => a1 z.1)
def takenS (E : IM) (i k : Int32) : Int32 := if ¬ inR k 0 6 then -2 else if ¬ inR i 0 15 then -12 else if i < 8 then (if ¬ inR i 0 (E 29 2 - 1) then -11 else if k = 6 then E 11 (cl i) else -13) else
  if ¬ inR (i - 8) 0 (E 29 1 - 1) then -11 else if k < 6 ∧ isU (E 2 (cl (i - 8))) k then i - 8 else -13
def sp_W_taken : SpT := fun as S I L Post => ∃ i k : Int32, cSp [.int i, .int k] (fun E => .int (takenS E i k)) (fun E => E) as S I L Post
set_option maxHeartbeats 4000000 in
set_option maxRecDepth 100000 in
theorem c_W_taken : Con mW_taken 4 0 0 sp_W_taken := by
  refine con_of_X rfl fun G as S I L Post hs => ?_
  obtain ⟨i, k, rfl, rfl, hok, h1⟩ := hs
  dsimp only at h1
  have h1 := h1 I (fun _ _ => rfl) rfl
  refine ⟨1, Nat.le_of_ble_eq_true rfl, ?_⟩
  show X mW_taken G _ S1 I L 0 [.ref 0, .int i, .int k, .null] [] Post
  obtain ⟨v1, v2, -⟩ := hok.vow
  obtain ⟨c1, c2, -⟩ := hok.ppl
  refine x_iload_n dW_taken_0 rfl ?_
  refine x_iconst (v := 0) dW_taken_1 rfl ?_
  refine x_bipush (v := 6) dW_taken_2 rfl ?_
  -- at 4: .invokestatic 101
  refine x_callS_3 c_W_within ok_W_within ml_W_101 dW_taken_4 rfl rfl ?_
  refine ⟨_, _, _, rfl, fun a1 => ?_, fun a1 => ?_⟩
  · have a1 : inR k 0 6 := a1
    refine x_if_ne (tgt := 13) dW_taken_7 (by decide) (fun _ => ?_) (fun h => absurd h (by decide))
    rw [takenS, if_neg (not_not_intro a1)] at h1
    refine x_iload_n dW_taken_13 rfl ?_
    refine x_iconst (v := 0) dW_taken_14 rfl ?_
    refine x_bipush (v := 15) dW_taken_15 rfl ?_
    -- at 17: .invokestatic 101
    refine x_callS_3 c_W_within ok_W_within ml_W_101 dW_taken_17 rfl rfl ?_
    refine ⟨_, _, _, rfl, fun a2 => ?_, fun a2 => ?_⟩
    · have a2 : inR i 0 15 := a2
      refine x_if_ne (tgt := 26) dW_taken_20 (by decide) (fun _ => ?_) (fun h => absurd h (by decide))
      rw [if_neg (not_not_intro a2)] at h1
      refine x_iload_n dW_taken_26 rfl ?_
      refine x_bipush (v := 8) dW_taken_27 rfl ?_
      -- at 29: .if_icmp .ge 40
      refine x_icmp_ge (tgt := 69) dW_taken_29 (by decide) (fun c3 => ?_) (fun c3 => ?_)
      · rw [if_neg (Int32.not_lt.mpr c3)] at h1
        refine x_iload_n dW_taken_69 rfl ?_
        refine x_bipush (v := 8) dW_taken_70 rfl ?_
        refine x_isub dW_taken_72 ?_
        refine x_istoren_3 dW_taken_73 rfl rfl ?_
        refine x_aload_n dW_taken_74 rfl ?_
        refine x_getR fl_W_19 rfl dW_taken_75 rfl rfl rfl ?_
        refine x_iload_n dW_taken_78 rfl ?_
        -- at 79: .invokevirtual 143
        refine x_callV_1 c_Folk_has ok_Folk_has ml_W_143 dW_taken_79 rfl rfl rfl rfl rfl ?_
        refine ⟨_, rfl, rfl, fun a4 => ?_, fun a4 => ?_⟩
        · have a4 : inR (i - 8) 0 (cE I 29 1 - 1) := a4
          refine x_if_ne (tgt := 88) dW_taken_82 (by decide) (fun _ => ?_) (fun h => absurd h (by decide))
          rw [if_neg (not_not_intro a4)] at h1
          rw [show cE I 29 1 = nI (pN (cE I)) from c1] at a4
          obtain ⟨p, hp, ep⟩ := has_nat (by omega) a4
          rw [ep, cl_nI (by omega)] at h1
          rw [ep]
          refine x_iload_n dW_taken_88 rfl ?_
          refine x_bipush (v := 6) dW_taken_89 rfl ?_
          -- at 91: .if_icmp .ge 19
          obtain ⟨kk, hkk, ek⟩ := (hok.1.2.2 p hp).1
          refine x_icmp_ge (tgt := 110) dW_taken_91 (by decide) (fun c5 => ?_) (fun c5 => ?_)
          · rw [if_neg (fun z => absurd z.1 (Int32.not_lt.mpr c5))] at h1
            refine x_bipush (v := -13) dW_taken_110 rfl ?_
            -- at 112: .ireturn
            refine x_ireturn dW_taken_112 rfl rfl ?_
            exact h1
          · have c5 : k < 6 := Int32.not_le.mp c5
            refine x_aload_n dW_taken_94 rfl ?_
            refine x_getR fl_W_19 rfl dW_taken_95 rfl rfl rfl ?_
            refine x_iload_n dW_taken_98 rfl ?_
            refine x_iload_n dW_taken_99 rfl ?_
            -- at 100: .invokevirtual 358
            refine x_callV_2 c_Folk_isA ok_Folk_isA ml_W_358 dW_taken_100 rfl rfl rfl rfl rfl ?_
            refine ⟨p, kk, k, rfl, rfl, by omega, ek, hkk, fun z => absurd a1.1 (by rw [z]; decide), fun g => ?_, fun g => ?_⟩
            · rw [← ek] at g
              rw [if_pos ⟨c5, g⟩] at h1
              refine x_if_eq (tgt := 110) dW_taken_103 (by decide) (fun h => absurd h (by decide)) (fun _ => ?_)
              refine x_iload_n dW_taken_106 rfl ?_
              refine x_goto (tgt := 112) dW_taken_107 (by decide) ?_
              -- at 112: .ireturn
              refine x_ireturn dW_taken_112 rfl rfl ?_
              exact h1
            · rw [← ek] at g
              rw [if_neg (fun z => g z.2)] at h1
              refine x_if_eq (tgt := 110) dW_taken_103 (by decide) (fun _ => ?_) (fun h => absurd (by decide) h)
              refine x_bipush (v := -13) dW_taken_110 rfl ?_
              -- at 112: .ireturn
              refine x_ireturn dW_taken_112 rfl rfl ?_
              exact h1
        · have a4 : ¬ inR (i - 8) 0 (cE I 29 1 - 1) := a4
          refine x_if_ne (tgt := 88) dW_taken_82 (by decide) (fun h => absurd (by decide) h) (fun _ => ?_)
          rw [if_pos a4] at h1
          refine x_bipush (v := -11) dW_taken_85 rfl ?_
          -- at 87: .ireturn
          refine x_ireturn dW_taken_87 rfl rfl ?_
          exact h1
      · rw [if_pos (Int32.not_le.mp c3)] at h1
        refine x_aload_n dW_taken_32 rfl ?_
        refine x_getR fl_W_26 rfl dW_taken_33 rfl rfl rfl ?_
        refine x_iload_n dW_taken_36 rfl ?_
        -- at 37: .invokevirtual 174
        refine x_callV_1 c_Vows_has ok_Vows_has ml_W_174 dW_taken_37 rfl rfl rfl rfl rfl ?_
        refine ⟨_, rfl, rfl, fun a4 => ?_, fun a4 => ?_⟩
        · have a4 : inR i 0 (cE I 29 2 - 1) := a4
          refine x_if_ne (tgt := 48) dW_taken_40 (by decide) (fun _ => ?_) (fun h => absurd h (by decide))
          rw [if_neg (not_not_intro a4)] at h1
          rw [show cE I 29 2 = nI (qN (cE I)) from v1] at a4
          obtain ⟨q, hq, rfl⟩ := has_nat (by omega) a4
          rw [cl_nI (by omega)] at h1
          refine x_iload_n dW_taken_48 rfl ?_
          refine x_bipush (v := 6) dW_taken_49 rfl ?_
          -- at 51: .if_icmp .ne 15
          refine x_icmp_ne (tgt := 66) dW_taken_51 (by decide) (fun c5 => ?_) (fun c5 => ?_)
          · rw [if_neg c5] at h1
            refine x_bipush (v := -13) dW_taken_66 rfl ?_
            -- at 68: .ireturn
            refine x_ireturn dW_taken_68 rfl rfl ?_
            exact h1
          · rw [if_pos c5] at h1
            refine x_aload_n dW_taken_54 rfl ?_
            refine x_getR fl_W_26 rfl dW_taken_55 rfl rfl rfl ?_
            refine x_getR fl_W_178 rfl dW_taken_58 rfl rfl rfl ?_
            refine x_iload_n dW_taken_61 rfl ?_
            refine x_ialdJ (j := q) dW_taken_62 rfl rfl (by first | rfl | (simp only [← nI_add, ← pk_mul]; rfl)) (by omega) ?_
            refine x_goto (tgt := 68) dW_taken_63 (by decide) ?_
            -- at 68: .ireturn
            refine x_ireturn dW_taken_68 rfl rfl ?_
            exact h1
        · have a4 : ¬ inR i 0 (cE I 29 2 - 1) := a4
          refine x_if_ne (tgt := 48) dW_taken_40 (by decide) (fun h => absurd (by decide) h) (fun _ => ?_)
          rw [if_pos a4] at h1
          refine x_bipush (v := -11) dW_taken_43 rfl ?_
          refine x_goto (tgt := 68) dW_taken_45 (by decide) ?_
          -- at 68: .ireturn
          refine x_ireturn dW_taken_68 rfl rfl ?_
          exact h1
    · have a2 : ¬ inR i 0 15 := a2
      refine x_if_ne (tgt := 26) dW_taken_20 (by decide) (fun h => absurd (by decide) h) (fun _ => ?_)
      rw [if_pos a2] at h1
      refine x_bipush (v := -12) dW_taken_23 rfl ?_
      -- at 25: .ireturn
      refine x_ireturn dW_taken_25 rfl rfl ?_
      exact h1
  · have a1 : ¬ inR k 0 6 := a1
    refine x_if_ne (tgt := 13) dW_taken_7 (by decide) (fun h => absurd (by decide) h) (fun _ => ?_)
    rw [takenS, if_pos a1] at h1
    refine x_bipush (v := -2) dW_taken_10 rfl ?_
    -- at 12: .ireturn
    refine x_ireturn dW_taken_12 rfl rfl ?_
    exact h1
end
