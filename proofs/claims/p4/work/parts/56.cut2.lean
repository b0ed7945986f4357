/-! texts: THE TAPE cut into tokens, by the class -/
def Tin (I : IM) (T : List Tok) : Prop := ∀ k, k < T.length → I 25 k = ts T k ∧ I 26 k = nI (tp T k) ∧ I 27 k = (tk T k).2.2
theorem tk_app1 {D : List Tok} {t : Tok} {k : Nat} (h : k < D.length) : tk (D ++ [t]) k = tk D k := by
  unfold tk
  rw [List.getD_eq_getElem?_getD, List.getD_eq_getElem?_getD, List.getElem?_append_left h]
theorem tk_app2 {D : List Tok} {t : Tok} : tk (D ++ [t]) D.length = t := by simp [tk, List.getD_eq_getElem?_getD]
theorem ptk_o (I : IM) (n : Nat) (s p v : Int32) {k : Nat} (h : k ≠ 23 ∧ k ≠ 25 ∧ k ≠ 26 ∧ k ≠ 27) : ptk I n s p v k = I k := by
  unfold ptk
  rw [up2_n _ _ _ (by omega), up2_n _ _ _ (by omega), up2_n _ _ _ (by omega), up2_n _ _ _ (by omega)]
theorem ptk_s (I : IM) (n : Nat) (s p v : Int32) {j : Nat} (h : j ≠ 5) : ptk I n s p v 23 j = I 23 j := by
  unfold ptk
  rw [up2_s, up1_n _ _ h]
  simp only [up2_n, up2_s, ne_eq, Nat.reduceEqDiff, not_false_eq_true]
theorem ptk_5 (I : IM) (n : Nat) (s p v : Int32) : ptk I n s p v 23 5 = nI (n + 1) := by
  unfold ptk
  rw [up2_s, up1_s, nI_1]
theorem Tin_put {I : IM} {D : List Tok} {n p : Nat} {s v : Int32} (h : Tin I D) (hn : n = D.length) : Tin (ptk I n s (nI p) v) (D ++ [(s, p, v)]) := by
  subst hn
  intro k hk
  have r25 : ptk I D.length s (nI p) v 25 = up1 (I 25) D.length s := by unfold ptk; simp only [up2_n, up2_s, ne_eq, Nat.reduceEqDiff, not_false_eq_true]
  have r26 : ptk I D.length s (nI p) v 26 = up1 (I 26) D.length (nI p) := by unfold ptk; simp only [up2_n, up2_s, ne_eq, Nat.reduceEqDiff, not_false_eq_true]
  have r27 : ptk I D.length s (nI p) v 27 = up1 (I 27) D.length v := by unfold ptk; simp only [up2_n, up2_s, ne_eq, Nat.reduceEqDiff, not_false_eq_true]
  rw [r25, r26, r27]
  unfold ts tp
  by_cases e : k = D.length
  · subst e
    rw [up1_s, up1_s, up1_s, tk_app2]
    exact ⟨rfl, rfl, rfl⟩
  · have hk' : k < D.length := by simp at hk; omega
    rw [up1_n _ _ e, up1_n _ _ e, up1_n _ _ e, tk_app1 hk']
    exact h k hk'
theorem let_nb {b : Int32} (h : isLet b) : ¬ isBla b := by
  rintro (e | e) <;> rw [e] at h <;> exact absurd h.1 (by decide)
theorem dig_nb {b : Int32} (h : isDig b) : ¬ isBla b := by
  rintro (e | e) <;> rw [e] at h <;> exact absurd h.1 (by decide)
abbrev rScr : List Nat := [23, 25, 26, 27]
def sp_Reader_cut : SpT := fun as S I L Post => ∃ z : Nat, as = [.ref 23] ∧ S = S1 ∧ I 23 1 = nI z ∧ z ≤ 160 ∧
  ∀ I' : IM, Fr rScr I I' → (∀ j, j ≠ 5 → I' 23 j = I 23 j) → Tin I' (tokS (I 24) z 0) → Post none S1 I' L
set_option maxHeartbeats 4000000 in
set_option maxRecDepth 100000 in
theorem c_Reader_cut : Con mReader_cut 10 0 0 sp_Reader_cut := by
  refine con_of_X rfl fun G as S I L Post hs => ?_
  obtain ⟨z, rfl, rfl, hz, hz2, h1⟩ := hs
  refine ⟨4, Nat.le_of_ble_eq_true rfl, ?_⟩
  show X mReader_cut G _ S1 I L 0 [.ref 23, .null, .null, .null, .null] [] Post
  refine x_aload_n dReader_cut_0 rfl ?_
  refine x_iconst (v := 0) dReader_cut_1 rfl ?_
  refine x_putI fl_Reader_28 rfl dReader_cut_2 (by decide) rfl rfl rfl rfl ?_
  refine x_iconst (v := 0) dReader_cut_5 rfl ?_
  refine x_istoren_1 dReader_cut_6 rfl rfl ?_
  refine x_iconst (v := 0) dReader_cut_7 rfl ?_
  refine x_istoren_2 dReader_cut_8 rfl rfl ?_
  -- at 9: .iload_n 2
  have fin : ∀ (i at0 : Nat) (I' : IM) (D : List Tok) (a3 a4 : Value), at0 = z → Fr rScr I I' → (∀ j, j ≠ 5 → I' 23 j = I 23 j) → I' 23 5 = nI D.length → D.length ≤ at0 → Tin I' D → D ++ tokS (I 24) z at0 = tokS (I 24) z 0 →
      X mReader_cut G (10, 0, 0) S1 I' L 123 [.ref 23, .int (nI at0), .int (nI i), a3, a4] [] Post := by
    intro i at0 I' D a3 a4 hat hF hs h5 hD hT hE
    have hz' : I' 23 1 = nI z := (hs 1 (by omega)).trans hz
    refine x_aload_n dReader_cut_123 rfl ?_
    refine x_iconst (v := 0) dReader_cut_124 rfl ?_
    refine x_aload_n dReader_cut_125 rfl ?_
    refine x_getI fl_Reader_15 rfl dReader_cut_126 rfl rfl ?_
    -- at 129: .iconst 0
    rw [hz']
    refine x_iconst (v := 0) dReader_cut_129 rfl ?_
    -- at 130: .invokevirtual 77
    refine x_callV_3 c_Reader_putToken ok_Reader_putToken ml_Reader_77 dReader_cut_130 rfl rfl rfl rfl rfl ?_
    refine ⟨D.length, 0, nI z, 0, rfl, rfl, h5, by omega, ?_⟩
    refine x_return dReader_cut_133 rfl ?_
    refine h1 _ (fun k hk => ?_) (fun j hj => ?_) ?_
    · simp only [List.mem_cons, List.not_mem_nil, or_false, not_or] at hk
      rw [ptk_o _ _ _ _ _ ⟨hk.1, hk.2.1, hk.2.2.1, hk.2.2.2⟩]
      exact hF k (by simp [hk])
    · rw [ptk_s _ _ _ _ _ hj]
      exact hs j hj
    · rw [← hE, hat, tokS_end (by omega)]
      exact Tin_put hT rfl
  have loop : ∀ (k i at0 : Nat) (I' : IM) (D : List Tok) (a3 a4 : Value), i + k = 160 → i ≤ at0 → at0 ≤ z → Fr rScr I I' → (∀ j, j ≠ 5 → I' 23 j = I 23 j) → I' 23 5 = nI D.length → D.length ≤ at0 → Tin I' D → D ++ tokS (I 24) z at0 = tokS (I 24) z 0 →
      X mReader_cut G (10, 0, 0) S1 I' L 9 [.ref 23, .int (nI at0), .int (nI i), a3, a4] [] Post := by
    intro k
    induction k with
    | zero =>
      intro i at0 I' D a3 a4 hi hia haz hF hs h5 hD hT hE
      obtain rfl : i = 160 := by omega
      refine x_iload_n dReader_cut_9 rfl ?_
      refine x_sipush (v := 160) dReader_cut_10 rfl ?_
      -- at 13: .if_icmp .ge 110
      refine x_icmp_ge (tgt := 123) dReader_cut_13 (by decide) (fun _ => ?_) (fun h => absurd (Int32.le_refl _) h)
      exact fin 160 at0 I' D a3 a4 (by omega) hF hs h5 hD hT hE
    | succ k ih =>
      intro i at0 I' D a3 a4 hi hia haz hF hs h5 hD hT hE
      have hz' : I' 23 1 = nI z := (hs 1 (by omega)).trans hz
      have e24 : I' 24 = I 24 := hF 24 (by decide)
      refine x_iload_n dReader_cut_9 rfl ?_
      refine x_sipush (v := 160) dReader_cut_10 rfl ?_
      -- at 13: .if_icmp .ge 110
      refine x_icmp_ge (tgt := 123) dReader_cut_13 (by decide) (fun h => absurd h (nI_ge (b := 160) (by omega) (by omega))) (fun _ => ?_)
      refine x_iload_n dReader_cut_16 rfl ?_
      refine x_aload_n dReader_cut_17 rfl ?_
      refine x_getI fl_Reader_15 rfl dReader_cut_18 rfl rfl ?_
      -- at 21: .if_icmp .ge 102
      rw [hz']
      by_cases hlt : at0 < z
      · refine x_icmp_ge (tgt := 123) dReader_cut_21 (by decide) (fun h => absurd h (nI_ge (b := z) hlt (by omega))) (fun _ => ?_)
        have next : ∀ (e : Nat) (I2 : IM) (D2 : List Tok) (b : Int32), at0 < e → e ≤ z → Fr rScr I I2 → (∀ j, j ≠ 5 → I2 23 j = I 23 j) → I2 23 5 = nI D2.length → D2.length ≤ D.length + 1 → Tin I2 D2 → D2 ++ tokS (I 24) z e = tokS (I 24) z 0 →
            X mReader_cut G (10, 0, 0) S1 I2 L 114 [.ref 23, .int (nI at0), .int (nI i), .int b, .int (nI e)] [] Post := by
          intro e I2 D2 b h0 h2 hF2 hs2 h52 hD2 hT2 hE2
          refine x_iload dReader_cut_114 rfl ?_
          refine x_istoren_1 dReader_cut_116 rfl rfl ?_
          refine x_iincp_2 dReader_cut_117 rfl rfl ?_
          refine x_goto (tgt := 9) dReader_cut_120 (by decide) ?_
          -- at 9: .iload_n 2
          rw [nI_1]
          exact ih (i + 1) e I2 D2 _ _ (by omega) (by omega) h2 hF2 hs2 h52 (by omega) hT2 hE2
        have put : ∀ (e : Nat) (s v b : Int32), at0 < e → e ≤ z → tokS (I 24) z at0 = (s, at0, v) :: tokS (I 24) z e → X mReader_cut G (10, 0, 0) S1 (ptk I' D.length s (nI at0) v) L 114 [.ref 23, .int (nI at0), .int (nI i), .int b, .int (nI e)] [] Post := by
          intro e s v b h0 h2 hE2
          refine next e _ (D ++ [(s, at0, v)]) b h0 h2 (fun k hk => ?_) (fun j hj => ?_) ?_ (by simp) (Tin_put hT rfl) ?_
          · simp only [List.mem_cons, List.not_mem_nil, or_false, not_or] at hk
            rw [ptk_o _ _ _ _ _ ⟨hk.1, hk.2.1, hk.2.2.1, hk.2.2.2⟩]
            exact hF k (by simp [hk])
          · rw [ptk_s _ _ _ _ _ hj]
            exact hs j hj
          · rw [ptk_5]
            simp
          · rw [← hE, hE2, List.append_assoc]
            rfl
        refine x_aload_n dReader_cut_24 rfl ?_
        refine x_getR fl_Reader_9 rfl dReader_cut_25 rfl rfl rfl ?_
        refine x_iload_n dReader_cut_28 rfl ?_
        refine x_ialdJ (j := at0) dReader_cut_29 rfl rfl (by first | rfl | (simp only [← nI_add, ← pk_mul]; rfl)) (by omega) ?_
        refine x_istoren_3 dReader_cut_30 rfl rfl ?_
        refine x_iload_n dReader_cut_31 rfl ?_
        refine x_iconst (v := 1) dReader_cut_32 rfl ?_
        refine x_iadd dReader_cut_33 ?_
        refine x_istore_4 dReader_cut_34 rfl rfl ?_
        refine x_iload_n dReader_cut_36 rfl ?_
        -- at 37: .invokestatic 54
        rw [e24]
        refine x_callS_1 c_Reader_isLetter ok_Reader_isLetter ml_Reader_54 dReader_cut_37 rfl rfl ?_
        refine ⟨_, rfl, fun q => ?_, fun q => ?_⟩
        · have hnb := let_nb q
          have hE2 : tokS (I 24) z at0 = ((kindW (wordAt (I 24) at0 (letE (I 24) z (z - at0) at0))).1, at0, (kindW (wordAt (I 24) at0 (letE (I 24) z (z - at0) at0))).2) :: tokS (I 24) z (letE (I 24) z (z - at0) at0) := by
            rw [tokS_tok hlt hnb, tokAt, if_pos q]
          have he1 := letE_gt hlt q
          have he2 := (letE_ge (I 24) z (z - at0) at0).2 haz
          refine x_if_eq (tgt := 60) dReader_cut_40 (by decide) (fun h => absurd h (by decide)) (fun _ => ?_)
          refine x_aload_n dReader_cut_43 rfl ?_
          refine x_iload_n dReader_cut_44 rfl ?_
          -- at 45: .invokevirtual 57
          refine x_callV_1 c_Reader_lettersEnd ok_Reader_lettersEnd ml_Reader_57 dReader_cut_45 rfl rfl rfl rfl rfl ?_
          refine ⟨at0, z, rfl, rfl, hz', hz2, haz, ?_⟩
          rw [e24]
          refine x_istore_4 dReader_cut_48 rfl rfl ?_
          refine x_aload_n dReader_cut_50 rfl ?_
          refine x_iload_n dReader_cut_51 rfl ?_
          refine x_iload dReader_cut_52 rfl ?_
          -- at 54: .invokevirtual 61
          refine x_callV_2 c_Reader_putWord ok_Reader_putWord ml_Reader_61 dReader_cut_54 rfl rfl rfl rfl rfl ?_
          refine ⟨at0, letE (I 24) z (z - at0) at0, D.length, rfl, rfl, h5, by omega, by omega, by omega, ?_⟩
          rw [e24]
          refine x_goto (tgt := 114) dReader_cut_57 (by decide) ?_
          -- at 114: .iload 4
          exact put _ _ _ _ he1 he2 hE2
        · refine x_if_eq (tgt := 60) dReader_cut_40 (by decide) (fun _ => ?_) (fun h => absurd (by decide) h)
          refine x_iload_n dReader_cut_60 rfl ?_
          -- at 61: .invokestatic 65
          refine x_callS_1 c_Reader_isDigit ok_Reader_isDigit ml_Reader_65 dReader_cut_61 rfl rfl ?_
          refine ⟨_, rfl, fun q2 => ?_, fun q2 => ?_⟩
          · have hnb := dig_nb q2
            have he1 := digE_gt hlt q2
            have he2 := (digE_ge (I 24) z (z - at0) at0).2 haz
            refine x_if_eq (tgt := 84) dReader_cut_64 (by decide) (fun h => absurd h (by decide)) (fun _ => ?_)
            refine x_aload_n dReader_cut_67 rfl ?_
            refine x_iload_n dReader_cut_68 rfl ?_
            -- at 69: .invokevirtual 68
            refine x_callV_1 c_Reader_digitsEnd ok_Reader_digitsEnd ml_Reader_68 dReader_cut_69 rfl rfl rfl rfl rfl ?_
            refine ⟨at0, z, rfl, rfl, hz', hz2, haz, ?_⟩
            rw [e24]
            refine x_istore_4 dReader_cut_72 rfl rfl ?_
            refine x_aload_n dReader_cut_74 rfl ?_
            refine x_iload_n dReader_cut_75 rfl ?_
            refine x_iload dReader_cut_76 rfl ?_
            -- at 78: .invokevirtual 71
            refine x_callV_2 c_Reader_putNumber ok_Reader_putNumber ml_Reader_71 dReader_cut_78 rfl rfl rfl rfl rfl ?_
            refine ⟨at0, digE (I 24) z (z - at0) at0, D.length, rfl, rfl, h5, by omega, by omega, by omega, ?_⟩
            rw [e24]
            have hE0 : tokS (I 24) z at0 = _ := tokS_tok hlt hnb
            rw [tokAt, if_neg q, if_pos q2] at hE0
            by_cases h4 : 4 < digE (I 24) z (z - at0) at0 - at0
            · rw [if_pos h4]
              rw [if_pos h4] at hE0
              refine x_goto (tgt := 114) dReader_cut_81 (by decide) ?_
              -- at 114: .iload 4
              exact put _ _ _ _ he1 he2 hE0
            · rw [if_neg h4]
              rw [if_neg h4] at hE0
              refine x_goto (tgt := 114) dReader_cut_81 (by decide) ?_
              -- at 114: .iload 4
              exact put _ _ _ _ he1 he2 hE0
          · refine x_if_eq (tgt := 84) dReader_cut_64 (by decide) (fun _ => ?_) (fun h => absurd (by decide) h)
            have bla : isBla (I 24 at0) → X mReader_cut G (10, 0, 0) S1 I' L 114 [.ref 23, .int (nI at0), .int (nI i), .int (I 24 at0), .int (nI at0 + 1)] [] Post := by
              intro hb
              rw [nI_1]
              exact next (at0 + 1) I' D _ (by omega) (by omega) hF hs h5 (by omega) hT (by rw [← hE, tokS_bla hlt hb])
            refine x_iload_n dReader_cut_84 rfl ?_
            refine x_bipush (v := 32) dReader_cut_85 rfl ?_
            -- at 87: .if_icmp .eq 27
            refine x_icmp_eq (tgt := 114) dReader_cut_87 (by decide) (fun c1 => ?_) (fun c1 => ?_)
            · exact bla (Or.inl c1)
            · refine x_iload_n dReader_cut_90 rfl ?_
              refine x_bipush (v := 10) dReader_cut_91 rfl ?_
              -- at 93: .if_icmp .eq 21
              refine x_icmp_eq (tgt := 114) dReader_cut_93 (by decide) (fun c2 => ?_) (fun c2 => ?_)
              · exact bla (Or.inr c2)
              · have hnb : ¬ isBla (I 24 at0) := fun y => y.elim c1 c2
                have hE0 : tokS (I 24) z at0 = _ := tokS_tok hlt hnb
                rw [tokAt, if_neg q, if_neg q2] at hE0
                refine x_aload_n dReader_cut_96 rfl ?_
                refine x_iload_n dReader_cut_97 rfl ?_
                -- at 98: .invokestatic 74
                refine x_callS_1 c_Reader_isSign ok_Reader_isSign ml_Reader_74 dReader_cut_98 rfl rfl ?_
                refine ⟨_, rfl, fun g => ?_, fun g => ?_⟩
                · rw [if_pos g] at hE0
                  refine x_if_eq (tgt := 108) dReader_cut_101 (by decide) (fun h => absurd h (by decide)) (fun _ => ?_)
                  refine x_iload_n dReader_cut_104 rfl ?_
                  refine x_goto (tgt := 109) dReader_cut_105 (by decide) ?_
                  refine x_iload_n dReader_cut_109 rfl ?_
                  refine x_iconst (v := 0) dReader_cut_110 rfl ?_
                  -- at 111: .invokevirtual 77
                  refine x_callV_3 c_Reader_putToken ok_Reader_putToken ml_Reader_77 dReader_cut_111 rfl rfl rfl rfl rfl ?_
                  refine ⟨D.length, _, _, _, rfl, rfl, h5, by omega, ?_⟩
                  rw [nI_1]
                  exact put _ _ _ _ (by omega) (by omega) hE0
                · rw [if_neg g] at hE0
                  refine x_if_eq (tgt := 108) dReader_cut_101 (by decide) (fun _ => ?_) (fun h => absurd (by decide) h)
                  refine x_iconst (v := 1) dReader_cut_108 rfl ?_
                  refine x_iload_n dReader_cut_109 rfl ?_
                  refine x_iconst (v := 0) dReader_cut_110 rfl ?_
                  -- at 111: .invokevirtual 77
                  refine x_callV_3 c_Reader_putToken ok_Reader_putToken ml_Reader_77 dReader_cut_111 rfl rfl rfl rfl rfl ?_
                  refine ⟨D.length, _, _, _, rfl, rfl, h5, by omega, ?_⟩
                  rw [nI_1]
                  exact put _ _ _ _ (by omega) (by omega) hE0
      · refine x_icmp_ge (tgt := 123) dReader_cut_21 (by decide) (fun _ => ?_) (fun h => absurd (nI_le (by omega) (by omega)) h)
        exact fin i at0 I' D a3 a4 (by omega) hF hs h5 hD hT hE
  refine loop 160 0 0 _ [] _ _ rfl (Nat.le_refl _) (Nat.zero_le _) (Fr.rfl.up (by decide) _ _) (fun j hj => by rw [up2_s, up1_n _ _ hj]) (by rw [up2_s, up1_s]; rfl) (Nat.le_refl _) (fun k hk => absurd hk (Nat.not_lt_zero k)) rfl
