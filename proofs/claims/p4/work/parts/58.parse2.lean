/-! texts: not, ONE, an E, a TEXT, by the class -/
theorem enc_cmp {s : Int32} (h : cmpP s) : enc (20000 + s) = sgn s ∧ ¬ s = 0 := by
  rcases h with rfl | rfl <;> decide
set_option maxHeartbeats 4000000 in
set_option maxRecDepth 100000 in
theorem c_negn {op d : Nat} (hop : op ≤ 5) (hd : 3 ≤ d) (h3 : Con mReader_level d 0 0 (sp_lev 3 op)) (hn : op < 5 → ∃ d2, d2 ≤ d ∧ Con mReader_negation d2 0 0 (sp_negn (op + 1))) : Con mReader_negation (d + 1) 0 0 (sp_negn op) := by
  refine con_of_X rfl fun G as S I L Post hs => ?_
  obtain ⟨T, i, u, rfl, rfl, hP, h1, h2⟩ := hs
  have hui := hP.2.2.2.1
  have hiT := hP.2.2.2.2.1
  have h161 := hP.2.2.2.2.2.2
  refine ⟨1, Nat.le_of_ble_eq_true rfl, ?_⟩
  show X mReader_negation G (d + 1, 0, 0) S1 I L 0 [.ref 23, .int (nI op), .null] [] Post
  refine x_aload_n dReader_negation_0 rfl ?_
  refine x_getR fl_Reader_19 rfl dReader_negation_1 rfl rfl rfl ?_
  refine x_aload_n dReader_negation_4 rfl ?_
  refine x_getI fl_Reader_31 rfl dReader_negation_5 rfl rfl ?_
  -- at 8: .iaload
  rw [hP.2.1]
  refine x_ialdJ (j := i) dReader_negation_8 rfl rfl (by first | rfl | (simp only [← nI_add, ← pk_mul]; rfl)) (by omega) ?_
  -- at 9: .bipush 9
  rw [hP.s25]
  refine x_bipush (v := 9) dReader_negation_9 rfl ?_
  -- at 11: .if_icmp .ne 38
  by_cases h9 : ts T i = 9
  · refine x_icmp_ne (tgt := 49) dReader_negation_11 (by decide) (fun h => absurd h9 h) (fun _ => ?_)
    have no : ∀ (I' : IM) (j : Nat), PSno I I' j → LevNo T 2 op i j → X mReader_negation G (d + 1, 0, 0) S1 I' L 47 [.ref 23, .int (nI op), .null] [] Post := by
      intro I' j k1 k2
      refine x_iconst (v := 0) dReader_negation_47 rfl ?_
      -- at 48: .ireturn
      refine x_ireturn dReader_negation_48 rfl rfl ?_
      exact h2 I' j k1 k2
    refine x_aload_n dReader_negation_14 rfl ?_
    refine x_bipush (v := 9) dReader_negation_15 rfl ?_
    refine x_iload_n dReader_negation_17 rfl ?_
    -- at 18: .invokevirtual 143
    refine x_callV_2 c_Reader_opens ok_Reader_opens ml_Reader_143 dReader_negation_18 (ble_of (by omega)) rfl rfl rfl rfl ?_
    refine ⟨T, i, u, op, 9, rfl, rfl, hop, hP, fun q => ?_, fun q => ?_⟩
    · refine x_if_eq (tgt := 47) dReader_negation_21 (by decide) (fun h => absurd h (by decide)) (fun _ => ?_)
      obtain ⟨d2, hd2, hc⟩ := hn q.1
      have hi1 := hP.more (by rw [h9]; decide)
      refine x_aload_n dReader_negation_24 rfl ?_
      refine x_iload_n dReader_negation_25 rfl ?_
      refine x_iconst (v := 1) dReader_negation_26 rfl ?_
      refine x_iadd dReader_negation_27 ?_
      -- at 28: .invokevirtual 130
      rw [nI_1]
      refine x_callV_1 hc ok_Reader_negation ml_Reader_130 dReader_negation_28 (ble_of (by omega)) rfl rfl rfl rfl ?_
      refine ⟨T, i + 1, u, rfl, rfl, hP.nx hi1, fun I2 j C k1 k2 => ?_, fun I2 j k1 k2 => ?_⟩
      · refine x_if_eq (tgt := 47) dReader_negation_31 (by decide) (fun h => absurd h (by decide)) (fun _ => ?_)
        refine x_aload_n dReader_negation_34 rfl ?_
        refine x_bipush (v := 9) dReader_negation_35 rfl ?_
        -- at 37: .invokevirtual 146
        refine x_callV_1 c_Reader_did ok_Reader_did ml_Reader_146 dReader_negation_37 (ble_of (by omega)) rfl rfl rfl rfl ?_
        have k3 : PSok I u I2 j ([] ++ C) := ((PSok.nil hP.2.1 hP.2.2.1).nx (i + 1)).tr k1
        have hj1 := k2.1
        have hj2 := k2.2.1
        refine ⟨u + C.length, 9, rfl, rfl, k1.2.2.1, by omega, ?_⟩
        refine x_if_eq (tgt := 47) dReader_negation_40 (by decide) (fun h => absurd h (by decide)) (fun _ => ?_)
        refine x_iconst (v := 1) dReader_negation_43 rfl ?_
        refine x_goto (tgt := 48) dReader_negation_44 (by decide) ?_
        -- at 48: .ireturn
        refine x_ireturn dReader_negation_48 rfl rfl ?_
        exact h1 _ j _ (k3.stp rfl (20000 + 9)) (not_ok hiT h9 q.1 k2)
      · refine x_if_eq (tgt := 47) dReader_negation_31 (by decide) (fun _ => ?_) (fun h => absurd (by decide) h)
        exact no I2 j ⟨(PSf.rfl.nx _).tr k1.1, k1.2⟩ (not_no hiT h9 q.1 k2)
    · refine x_if_eq (tgt := 47) dReader_negation_21 (by decide) (fun _ => ?_) (fun h => absurd (by decide) h)
      exact no I i ⟨PSf.rfl, hP.2.1⟩ (not_full hiT h9 (fun z => q ⟨z, h9⟩))
  · refine x_icmp_ne (tgt := 49) dReader_negation_11 (by decide) (fun _ => ?_) (fun h => absurd h h9)
    refine x_aload_n dReader_negation_49 rfl ?_
    refine x_iconst (v := 3) dReader_negation_50 rfl ?_
    refine x_iload_n dReader_negation_51 rfl ?_
    -- at 52: .invokevirtual 50
    refine x_callV_2 h3 ok_Reader_level ml_Reader_50 dReader_negation_52 (ble_of (Nat.le_refl _)) rfl rfl rfl rfl ?_
    refine ⟨T, i, u, rfl, rfl, hP, fun I1 j C k1 k2 => ?_, fun I1 j k1 k2 => ?_⟩
    · have hj1 := k2.1
      have hj2 := k2.2.1
      have hPj : PS I1 T j (u + C.length) := PSok.ps hP k1 (by omega) hj2
      refine x_if_ne (tgt := 60) dReader_negation_55 (by decide) (fun _ => ?_) (fun h => absurd h (by decide))
      refine x_aload_n dReader_negation_60 rfl ?_
      refine x_getR fl_Reader_19 rfl dReader_negation_61 rfl rfl rfl ?_
      refine x_aload_n dReader_negation_64 rfl ?_
      refine x_getI fl_Reader_31 rfl dReader_negation_65 rfl rfl ?_
      -- at 68: .iaload
      rw [k1.2.1]
      refine x_ialdJ (j := j) dReader_negation_68 rfl rfl (by first | rfl | (simp only [← nI_add, ← pk_mul]; rfl)) (by omega) ?_
      -- at 69: .istore_n 2
      rw [hPj.s25]
      refine x_istoren_2 dReader_negation_69 rfl rfl ?_
      refine x_iload_n dReader_negation_70 rfl ?_
      refine x_bipush (v := 60) dReader_negation_71 rfl ?_
      -- at 73: .if_icmp .eq 11
      have go84 : cmpP (ts T j) → X mReader_negation G (d + 1, 0, 0) S1 I1 L 84 [.ref 23, .int (nI op), .int (ts T j)] [] Post := by
        intro hc
        obtain ⟨q1, q2⟩ := enc_cmp hc
        have hj3 := hPj.more q2
        refine x_aload_n dReader_negation_84 rfl ?_
        refine x_dup dReader_negation_85 rfl ?_
        refine x_getI fl_Reader_31 rfl dReader_negation_86 rfl rfl ?_
        -- at 89: .iconst 1
        rw [k1.2.1]
        refine x_iconst (v := 1) dReader_negation_89 rfl ?_
        refine x_iadd dReader_negation_90 ?_
        -- at 91: .putfield 31
        rw [nI_1]
        refine x_putI fl_Reader_31 rfl dReader_negation_91 (by decide) rfl rfl rfl rfl ?_
        refine x_aload_n dReader_negation_94 rfl ?_
        refine x_iconst (v := 3) dReader_negation_95 rfl ?_
        refine x_iload_n dReader_negation_96 rfl ?_
        -- at 97: .invokevirtual 50
        refine x_callV_2 h3 ok_Reader_level ml_Reader_50 dReader_negation_97 (ble_of (Nat.le_refl _)) rfl rfl rfl rfl ?_
        refine ⟨T, j + 1, u + C.length, rfl, rfl, hPj.nx hj3, fun I3 j2 D k3 k4 => ?_, fun I3 j2 k3 k4 => ?_⟩
        · have k5 : PSok I u I3 j2 (C ++ D) := (k1.nx (j + 1)).tr k3
          have hj4 := k4.1
          have hj5 := k4.2.1
          refine x_if_eq (tgt := 115) dReader_negation_100 (by decide) (fun h => absurd h (by decide)) (fun _ => ?_)
          refine x_aload_n dReader_negation_103 rfl ?_
          refine x_iload_n dReader_negation_104 rfl ?_
          -- at 105: .invokevirtual 146
          refine x_callV_1 c_Reader_did ok_Reader_did ml_Reader_146 dReader_negation_105 (ble_of (by omega)) rfl rfl rfl rfl ?_
          refine ⟨u + (C ++ D).length, _, rfl, rfl, k5.2.2.1, by rw [List.length_append]; omega, ?_⟩
          refine x_if_eq (tgt := 115) dReader_negation_108 (by decide) (fun h => absurd h (by decide)) (fun _ => ?_)
          refine x_iconst (v := 1) dReader_negation_111 rfl ?_
          refine x_goto (tgt := 116) dReader_negation_112 (by decide) ?_
          -- at 116: .ireturn
          refine x_ireturn dReader_negation_116 rfl rfl ?_
          have k6 := k5.stp rfl (20000 + ts T j)
          rw [q1] at k6
          exact h1 _ j2 _ k6 (cmp_ok hiT h9 k2 hc k4)
        · refine x_if_eq (tgt := 115) dReader_negation_100 (by decide) (fun _ => ?_) (fun h => absurd (by decide) h)
          refine x_iconst (v := 0) dReader_negation_115 rfl ?_
          -- at 116: .ireturn
          refine x_ireturn dReader_negation_116 rfl rfl ?_
          exact h2 I3 j2 ⟨(k1.1.nx _).tr k3.1, k3.2⟩ (cmp_no hiT h9 k2 hc k4)
      refine x_icmp_eq (tgt := 84) dReader_negation_73 (by decide) (fun c1 => ?_) (fun c1 => ?_)
      · exact go84 (Or.inl c1)
      · refine x_iload_n dReader_negation_76 rfl ?_
        refine x_bipush (v := 61) dReader_negation_77 rfl ?_
        -- at 79: .if_icmp .eq 5
        refine x_icmp_eq (tgt := 84) dReader_negation_79 (by decide) (fun c2 => ?_) (fun c2 => ?_)
        · exact go84 (Or.inr c2)
        · refine x_iconst (v := 1) dReader_negation_82 rfl ?_
          -- at 83: .ireturn
          refine x_ireturn dReader_negation_83 rfl rfl ?_
          exact h1 I1 j C k1 (sum_only hiT h9 k2 (fun z => z.elim c1 c2))
    · refine x_if_ne (tgt := 60) dReader_negation_55 (by decide) (fun h => absurd (by decide) h) (fun _ => ?_)
      refine x_iconst (v := 0) dReader_negation_58 rfl ?_
      -- at 59: .ireturn
      refine x_ireturn dReader_negation_59 rfl rfl ?_
      exact h2 I1 j k1 (sum_no hiT h9 k2)
theorem enc_num : ∀ v, v < 10000 → enc (nI v) = 100000 + nI v ∧ wfR [100000 + nI v] 0 = some 1 := by
  intro v hv
  have h1 : (0 : Int32) ≤ nI v := nI_le (a := 0) (by omega) (by omega)
  have h2 : nI v < 10000 := (nI_ltI (b := 10000) (by omega) (by omega)).mpr hv
  have e : (100000 : Int32) + nI v = nI (100000 + v) := nI_add 100000 v
  refine ⟨?_, ?_⟩
  · unfold enc
    rw [if_pos ⟨h1, h2⟩, Int32.add_comm]
  · rw [e, wfR, if_pos (Or.inl ⟨nI_le (a := 100000) (by omega) (by omega), (nI_ltI (b := 110000) (by omega) (by omega)).mpr (by omega)⟩), wfR]
theorem enc_nam : ∀ v, v < 6 → enc (10000 + nI v) = nI v ∧ wfR [nI v] 0 = some 1 := by decide
theorem wfC_1 {c : Int32} (h : wfR [c] 0 = some 1) (hc : ¬ (c = 13 ∨ c = 19)) (hc2 : ¬ (c = 11 ∨ c = 12 ∨ (14 ≤ c ∧ c ≤ 18))) : wfC [c] := by
  intro r x
  show wfR (c :: r) x = _
  rw [wfR] at h ⊢
  by_cases z : (100000 ≤ c ∧ c < 110000) ∨ (0 ≤ c ∧ c < 6)
  · rw [if_pos z]
  · rw [if_neg z, if_neg hc, if_neg hc2] at h
    cases h
theorem tok_lit {t : Tok} (h : TokOk t) (h2 : t.1 = 2 ∨ t.1 = 3) : wfC [cod t] ∧ (t.1 = 2 → enc t.2.2 = cod t) ∧ (t.1 = 3 → enc (10000 + t.2.2) = cod t) := by
  rcases h2 with e | e
  · obtain ⟨v, hv, ev⟩ := h.1 e
    obtain ⟨n1, n2⟩ := enc_num v hv
    have ec : cod t = 100000 + nI v := by rw [cod, if_pos e, ev]
    have hb : ∀ b : Int32, b.toInt < 100000 → ¬ 100000 + nI v = b := by
      intro b hb z
      rw [show (100000 : Int32) + nI v = nI (100000 + v) from nI_add 100000 v] at z
      rw [← z, nI_toInt (by omega)] at hb
      omega
    refine ⟨?_, fun _ => ?_, fun e3 => ?_⟩
    · rw [ec]
      refine wfC_1 n2 (fun z => z.elim (hb 13 (by decide)) (hb 19 (by decide))) (fun z => ?_)
      rcases z with z | z | z
      · exact hb 11 (by decide) z
      · exact hb 12 (by decide) z
      · have := Int32.le_iff_toInt_le.mp z.2
        rw [show (100000 : Int32) + nI v = nI (100000 + v) from nI_add 100000 v, nI_toInt (by omega)] at this
        have e18 : (18 : Int32).toInt = 18 := by decide
        omega
    · rw [ec, ev]
      exact n1
    · rw [e] at e3
      exact absurd e3 (by decide)
  · obtain ⟨v, hv, ev⟩ := h.2 e
    obtain ⟨n1, n2⟩ := enc_nam v hv
    have ec : cod t = nI v := by rw [cod, if_neg (by rw [e]; decide), ev]
    refine ⟨?_, fun e2 => ?_, fun _ => ?_⟩
    · rw [ec]
      exact wfC_1 n2 ((show ∀ v, v < 6 → ¬ (nI v = 13 ∨ nI v = 19) by decide) v hv) ((show ∀ v, v < 6 → ¬ (nI v = 11 ∨ nI v = 12 ∨ (14 ≤ nI v ∧ nI v ≤ 18)) by decide) v hv)
    · rw [e] at e2
      exact absurd e2 (by decide)
    · rw [ec, ev]
      exact n1
theorem stU_next {I : IM} {u i : Nat} {x : Int32} (h : I 23 6 = nI i) : stU I u x 23 6 = nI i := by
  unfold stU
  rw [up2_s, up1_n _ _ (by decide), up2_n _ _ _ (by decide)]
  exact h
set_option maxHeartbeats 4000000 in
set_option maxRecDepth 100000 in
theorem c_onen {op d : Nat} (hop : op ≤ 5) (hd : 3 ≤ d) (hn : op < 5 → ∃ d2, d2 ≤ d ∧ Con mReader_one d2 0 0 (sp_onen (op + 1))) (hp : op < 5 → ∃ d2, d2 ≤ d ∧ Con mReader_level d2 0 0 (sp_lev 0 (op + 1))) : Con mReader_one (d + 1) 0 0 (sp_onen op) := by
  refine con_of_X rfl fun G as S I L Post hs => ?_
  obtain ⟨T, i, u, rfl, rfl, hP, h1, h2⟩ := hs
  have hui := hP.2.2.2.1
  have hiT := hP.2.2.2.2.1
  have h161 := hP.2.2.2.2.2.2
  have hTok := hP.2.2.2.2.2.1.2.2 i hiT
  have e27 : I 27 i = (tk T i).2.2 := (hP.1 i hiT).2.2
  refine ⟨1, Nat.le_of_ble_eq_true rfl, ?_⟩
  show X mReader_one G (d + 1, 0, 0) S1 I L 0 [.ref 23, .int (nI op), .null] [] Post
  refine x_aload_n dReader_one_0 rfl ?_
  refine x_getR fl_Reader_19 rfl dReader_one_1 rfl rfl rfl ?_
  refine x_aload_n dReader_one_4 rfl ?_
  refine x_getI fl_Reader_31 rfl dReader_one_5 rfl rfl ?_
  -- at 8: .iaload
  rw [hP.2.1]
  refine x_ialdJ (j := i) dReader_one_8 rfl rfl (by first | rfl | (simp only [← nI_add, ← pk_mul]; rfl)) (by omega) ?_
  -- at 9: .istore_n 2
  rw [hP.s25]
  refine x_istoren_2 dReader_one_9 rfl rfl ?_
  refine x_iload_n dReader_one_10 rfl ?_
  refine x_iconst (v := 2) dReader_one_11 rfl ?_
  -- at 12: .if_icmp .eq 8
  have lit : ∀ x : Int32, (ts T i = 2 ∨ ts T i = 3) → enc x = cod (tk T i) → X mReader_one G (d + 1, 0, 0) S1 I L 51 [.ref 23, .int (nI op), .int (ts T i)] [.int x, .ref 23] Post := by
    intro x hl hx
    have hi1 := hP.more (by rcases hl with e | e <;> rw [e] <;> decide)
    refine x_callV_1 c_Reader_step ok_Reader_step ml_Reader_139 dReader_one_51 (ble_of (by omega)) rfl rfl rfl rfl ?_
    refine ⟨u, x, rfl, rfl, hP.2.2.1, by omega, ?_⟩
    refine x_aload_n dReader_one_54 rfl ?_
    refine x_dup dReader_one_55 rfl ?_
    refine x_getI fl_Reader_31 rfl dReader_one_56 rfl rfl ?_
    -- at 59: .iconst 1
    rw [stU_next hP.2.1]
    refine x_iconst (v := 1) dReader_one_59 rfl ?_
    refine x_iadd dReader_one_60 ?_
    -- at 61: .putfield 31
    rw [nI_1]
    refine x_putI fl_Reader_31 rfl dReader_one_61 (by decide) rfl rfl rfl rfl ?_
    refine x_iconst (v := 1) dReader_one_64 rfl ?_
    -- at 65: .ireturn
    refine x_ireturn dReader_one_65 rfl rfl ?_
    have k := ((PSok.nil hP.2.1 hP.2.2.1).stp rfl x).nx (i + 1)
    rw [hx] at k
    exact h1 _ (i + 1) _ k (one_lit hi1 hl (tok_lit hTok hl).1)
  have at20 : (ts T i = 2 ∨ ts T i = 3) → X mReader_one G (d + 1, 0, 0) S1 I L 20 [.ref 23, .int (nI op), .int (ts T i)] [] Post := by
    intro hl
    obtain ⟨-, t1, t2⟩ := tok_lit hTok hl
    refine x_aload_n dReader_one_20 rfl ?_
    refine x_iload_n dReader_one_21 rfl ?_
    refine x_iconst (v := 2) dReader_one_22 rfl ?_
    -- at 23: .if_icmp .ne 15
    by_cases e2 : ts T i = 2
    · refine x_icmp_ne (tgt := 38) dReader_one_23 (by decide) (fun h => absurd e2 h) (fun _ => ?_)
      refine x_aload_n dReader_one_26 rfl ?_
      refine x_getR fl_Reader_25 rfl dReader_one_27 rfl rfl rfl ?_
      refine x_aload_n dReader_one_30 rfl ?_
      refine x_getI fl_Reader_31 rfl dReader_one_31 rfl rfl ?_
      -- at 34: .iaload
      rw [hP.2.1]
      refine x_ialdJ (j := i) dReader_one_34 rfl rfl (by first | rfl | (simp only [← nI_add, ← pk_mul]; rfl)) (by omega) ?_
      -- at 35: .goto 16
      rw [e27]
      refine x_goto (tgt := 51) dReader_one_35 (by decide) ?_
      -- at 51: .invokevirtual 139
      exact lit _ hl (t1 e2)
    · refine x_icmp_ne (tgt := 38) dReader_one_23 (by decide) (fun _ => ?_) (fun h => absurd h e2)
      refine x_sipush (v := 10000) dReader_one_38 rfl ?_
      refine x_aload_n dReader_one_41 rfl ?_
      refine x_getR fl_Reader_25 rfl dReader_one_42 rfl rfl rfl ?_
      refine x_aload_n dReader_one_45 rfl ?_
      refine x_getI fl_Reader_31 rfl dReader_one_46 rfl rfl ?_
      -- at 49: .iaload
      rw [hP.2.1]
      refine x_ialdJ (j := i) dReader_one_49 rfl rfl (by first | rfl | (simp only [← nI_add, ← pk_mul]; rfl)) (by omega) ?_
      -- at 50: .iadd
      rw [e27]
      refine x_iadd dReader_one_50 ?_
      -- at 51: .invokevirtual 139
      exact lit _ hl (t2 (hl.elim (fun z => absurd z e2) id))
  by_cases e2 : ts T i = 2
  · refine x_icmp_eq (tgt := 20) dReader_one_12 (by decide) (fun _ => ?_) (fun h => absurd e2 h)
    exact at20 (Or.inl e2)
  refine x_icmp_eq (tgt := 20) dReader_one_12 (by decide) (fun h => absurd h e2) (fun _ => ?_)
  refine x_iload_n dReader_one_15 rfl ?_
  refine x_iconst (v := 3) dReader_one_16 rfl ?_
  -- at 17: .if_icmp .ne 49
  by_cases e3 : ts T i = 3
  · refine x_icmp_ne (tgt := 66) dReader_one_17 (by decide) (fun h => absurd e3 h) (fun _ => ?_)
    exact at20 (Or.inr e3)
  refine x_icmp_ne (tgt := 66) dReader_one_17 (by decide) (fun _ => ?_) (fun h => absurd h e3)
  refine x_iload_n dReader_one_66 rfl ?_
  refine x_bipush (v := 45) dReader_one_67 rfl ?_
  -- at 69: .if_icmp .ne 38
  by_cases e45 : ts T i = 45
  · refine x_icmp_ne (tgt := 107) dReader_one_69 (by decide) (fun h => absurd e45 h) (fun _ => ?_)
    have no : ∀ (I' : IM) (j : Nat), PSno I I' j → OneNo T op i j → X mReader_one G (d + 1, 0, 0) S1 I' L 105 [.ref 23, .int (nI op), .int (ts T i)] [] Post := by
      intro I' j k1 k2
      refine x_iconst (v := 0) dReader_one_105 rfl ?_
      -- at 106: .ireturn
      refine x_ireturn dReader_one_106 rfl rfl ?_
      exact h2 I' j k1 k2
    refine x_aload_n dReader_one_72 rfl ?_
    refine x_bipush (v := 45) dReader_one_73 rfl ?_
    refine x_iload_n dReader_one_75 rfl ?_
    -- at 76: .invokevirtual 143
    refine x_callV_2 c_Reader_opens ok_Reader_opens ml_Reader_143 dReader_one_76 (ble_of (by omega)) rfl rfl rfl rfl ?_
    refine ⟨T, i, u, op, 45, rfl, rfl, hop, hP, fun q => ?_, fun q => ?_⟩
    · refine x_if_eq (tgt := 105) dReader_one_79 (by decide) (fun h => absurd h (by decide)) (fun _ => ?_)
      obtain ⟨d2, hd2, hc⟩ := hn q.1
      have hi1 := hP.more (by rw [e45]; decide)
      refine x_aload_n dReader_one_82 rfl ?_
      refine x_iload_n dReader_one_83 rfl ?_
      refine x_iconst (v := 1) dReader_one_84 rfl ?_
      refine x_iadd dReader_one_85 ?_
      -- at 86: .invokevirtual 133
      rw [nI_1]
      refine x_callV_1 hc ok_Reader_one ml_Reader_133 dReader_one_86 (ble_of (by omega)) rfl rfl rfl rfl ?_
      refine ⟨T, i + 1, u, rfl, rfl, hP.nx hi1, fun I2 j C k1 k2 => ?_, fun I2 j k1 k2 => ?_⟩
      · refine x_if_eq (tgt := 105) dReader_one_89 (by decide) (fun h => absurd h (by decide)) (fun _ => ?_)
        refine x_aload_n dReader_one_92 rfl ?_
        refine x_bipush (v := 10) dReader_one_93 rfl ?_
        -- at 95: .invokevirtual 146
        refine x_callV_1 c_Reader_did ok_Reader_did ml_Reader_146 dReader_one_95 (ble_of (by omega)) rfl rfl rfl rfl ?_
        have k3 : PSok I u I2 j ([] ++ C) := ((PSok.nil hP.2.1 hP.2.2.1).nx (i + 1)).tr k1
        have hj1 := k2.1
        have hj2 := k2.2.1
        refine ⟨u + C.length, 10, rfl, rfl, k1.2.2.1, by omega, ?_⟩
        refine x_if_eq (tgt := 105) dReader_one_98 (by decide) (fun h => absurd h (by decide)) (fun _ => ?_)
        refine x_iconst (v := 1) dReader_one_101 rfl ?_
        refine x_goto (tgt := 106) dReader_one_102 (by decide) ?_
        -- at 106: .ireturn
        refine x_ireturn dReader_one_106 rfl rfl ?_
        exact h1 _ j _ (k3.stp rfl (20000 + 10)) (neg_ok hiT e45 q.1 k2)
      · refine x_if_eq (tgt := 105) dReader_one_89 (by decide) (fun _ => ?_) (fun h => absurd (by decide) h)
        exact no I2 j ⟨(PSf.rfl.nx _).tr k1.1, k1.2⟩ (neg_no hiT e45 q.1 k2)
    · refine x_if_eq (tgt := 105) dReader_one_79 (by decide) (fun _ => ?_) (fun h => absurd (by decide) h)
      exact no I i ⟨PSf.rfl, hP.2.1⟩ (neg_full hiT e45 (fun z => q ⟨z, e45⟩))
  · refine x_icmp_ne (tgt := 107) dReader_one_69 (by decide) (fun _ => ?_) (fun h => absurd h e45)
    have no : ∀ (I' : IM) (j : Nat), PSno I I' j → OneNo T op i j → X mReader_one G (d + 1, 0, 0) S1 I' L 141 [.ref 23, .int (nI op), .int (ts T i)] [] Post := by
      intro I' j k1 k2
      refine x_iconst (v := 0) dReader_one_141 rfl ?_
      -- at 142: .ireturn
      refine x_ireturn dReader_one_142 rfl rfl ?_
      exact h2 I' j k1 k2
    refine x_aload_n dReader_one_107 rfl ?_
    refine x_bipush (v := 40) dReader_one_108 rfl ?_
    refine x_iload_n dReader_one_110 rfl ?_
    -- at 111: .invokevirtual 143
    refine x_callV_2 c_Reader_opens ok_Reader_opens ml_Reader_143 dReader_one_111 (ble_of (by omega)) rfl rfl rfl rfl ?_
    refine ⟨T, i, u, op, 40, rfl, rfl, hop, hP, fun q => ?_, fun q => ?_⟩
    · refine x_if_eq (tgt := 141) dReader_one_114 (by decide) (fun h => absurd h (by decide)) (fun _ => ?_)
      obtain ⟨d2, hd2, hc⟩ := hp q.1
      have hi1 := hP.more (by rw [q.2]; decide)
      refine x_aload_n dReader_one_117 rfl ?_
      refine x_iconst (v := 0) dReader_one_118 rfl ?_
      refine x_iload_n dReader_one_119 rfl ?_
      refine x_iconst (v := 1) dReader_one_120 rfl ?_
      refine x_iadd dReader_one_121 ?_
      -- at 122: .invokevirtual 50
      rw [nI_1]
      refine x_callV_2 hc ok_Reader_level ml_Reader_50 dReader_one_122 (ble_of (by omega)) rfl rfl rfl rfl ?_
      refine ⟨T, i + 1, u, rfl, rfl, hP.nx hi1, fun I2 j C k1 k2 => ?_, fun I2 j k1 k2 => ?_⟩
      · refine x_if_eq (tgt := 141) dReader_one_125 (by decide) (fun h => absurd h (by decide)) (fun _ => ?_)
        refine x_aload_n dReader_one_128 rfl ?_
        refine x_bipush (v := 41) dReader_one_129 rfl ?_
        -- at 131: .invokevirtual 46
        have k3 : PSok I u I2 j ([] ++ C) := ((PSok.nil hP.2.1 hP.2.2.1).nx (i + 1)).tr k1
        have hj1 := k2.1
        have hj2 := k2.2.1
        have hPj : PS I2 T j (u + C.length) := PSok.ps (hP.nx hi1) k1 (by omega) hj2
        refine x_callV_1 c_Reader_passes ok_Reader_passes ml_Reader_46 dReader_one_131 (ble_of (by omega)) rfl rfl rfl rfl ?_
        refine ⟨T, j, u + C.length, 41, rfl, rfl, hPj, fun g => ?_, fun g => ?_⟩
        · have hj3 := hPj.more (by rw [g]; decide)
          refine x_if_eq (tgt := 141) dReader_one_134 (by decide) (fun h => absurd h (by decide)) (fun _ => ?_)
          refine x_iconst (v := 1) dReader_one_137 rfl ?_
          refine x_goto (tgt := 142) dReader_one_138 (by decide) ?_
          -- at 142: .ireturn
          refine x_ireturn dReader_one_142 rfl rfl ?_
          exact h1 _ (j + 1) _ (k3.nx (j + 1)) (par_ok hiT q.2 q.1 k2 g hj3)
        · refine x_if_eq (tgt := 141) dReader_one_134 (by decide) (fun _ => ?_) (fun h => absurd (by decide) h)
          exact no I2 j ⟨k3.1, k3.2.1⟩ (par_no hiT q.2 q.1 k2 g)
      · refine x_if_eq (tgt := 141) dReader_one_125 (by decide) (fun _ => ?_) (fun h => absurd (by decide) h)
        exact no I2 j ⟨(PSf.rfl.nx _).tr k1.1, k1.2⟩ (par_no2 hiT q.2 q.1 k2)
    · refine x_if_eq (tgt := 141) dReader_one_114 (by decide) (fun _ => ?_) (fun h => absurd (by decide) h)
      by_cases e40 : ts T i = 40
      · exact no I i ⟨PSf.rfl, hP.2.1⟩ (par_full hiT e40 (fun z => q ⟨z, e40⟩))
      · exact no I i ⟨PSf.rfl, hP.2.1⟩ (one_bad hiT e2 e3 e45 e40)
/-- all levels, so many open -/
theorem rec_all : ∀ k, k ≤ 5 → Con mReader_one (4 + 8 * k) 0 0 (sp_onen (5 - k)) ∧ Con mReader_negation (8 + 8 * k) 0 0 (sp_negn (5 - k)) ∧ Con mReader_level (11 + 8 * k) 0 0 (sp_lev 0 (5 - k)) := by
  intro k
  induction k with
  | zero =>
    intro _
    have h1 : Con mReader_one 4 0 0 (sp_onen 5) := c_onen (d := 3) (by omega) (by omega) (fun h => absurd h (by omega)) (fun h => absurd h (by omega))
    have h5 : Con mReader_level 5 0 0 (sp_lev 5 5) := c_lev_5 h1
    have h4 : Con mReader_level 6 0 0 (sp_lev 4 5) := c_lev_bin (by decide) (by omega) h5
    have h3 : Con mReader_level 7 0 0 (sp_lev 3 5) := c_lev_bin (by decide) (by omega) h4
    have hn : Con mReader_negation 8 0 0 (sp_negn 5) := c_negn (by omega) (by omega) h3 (fun h => absurd h (by omega))
    have h2 : Con mReader_level 9 0 0 (sp_lev 2 5) := c_lev_2 hn
    have h1' : Con mReader_level 10 0 0 (sp_lev 1 5) := c_lev_bin (by decide) (by omega) h2
    have h0 : Con mReader_level 11 0 0 (sp_lev 0 5) := c_lev_bin (by decide) (by omega) h1'
    exact ⟨h1, hn, h0⟩
  | succ k ih =>
    intro hk
    obtain ⟨i1, i2, i3⟩ := ih (by omega)
    have e : 5 - k = 5 - (k + 1) + 1 := by omega
    rw [e] at i1 i2 i3
    have hop : 5 - (k + 1) ≤ 5 := by omega
    generalize 5 - (k + 1) = op at i1 i2 i3 hop ⊢
    · have h1 : Con mReader_one (11 + 8 * k + 1) 0 0 (sp_onen op) := c_onen (d := 11 + 8 * k) hop (by omega) (fun _ => ⟨_, by omega, i1⟩) (fun _ => ⟨_, by omega, i3⟩)
      have h5 : Con mReader_level (11 + 8 * k + 1 + 1) 0 0 (sp_lev 5 op) := c_lev_5 h1
      have h4 : Con mReader_level (11 + 8 * k + 1 + 1 + 1) 0 0 (sp_lev 4 op) := c_lev_bin (by decide) (by omega) h5
      have h3 : Con mReader_level (11 + 8 * k + 1 + 1 + 1 + 1) 0 0 (sp_lev 3 op) := c_lev_bin (by decide) (by omega) h4
      have hn : Con mReader_negation (11 + 8 * k + 1 + 1 + 1 + 1 + 1) 0 0 (sp_negn op) := c_negn hop (by omega) h3 (fun _ => ⟨_, by omega, i2⟩)
      have h2 : Con mReader_level (11 + 8 * k + 1 + 1 + 1 + 1 + 1 + 1) 0 0 (sp_lev 2 op) := c_lev_2 hn
      have h1' : Con mReader_level (11 + 8 * k + 1 + 1 + 1 + 1 + 1 + 1 + 1) 0 0 (sp_lev 1 op) := c_lev_bin (by decide) (by omega) h2
      have h0 : Con mReader_level (11 + 8 * k + 1 + 1 + 1 + 1 + 1 + 1 + 1 + 1) 0 0 (sp_lev 0 op) := c_lev_bin (by decide) (by omega) h1'
      rw [show 4 + 8 * (k + 1) = 11 + 8 * k + 1 by omega, show 8 + 8 * (k + 1) = 11 + 8 * k + 1 + 1 + 1 + 1 + 1 by omega, show 11 + 8 * (k + 1) = 11 + 8 * k + 1 + 1 + 1 + 1 + 1 + 1 + 1 + 1 by omega]
      exact ⟨h1, hn, h0⟩
theorem c_E : Con mReader_level 51 0 0 (sp_lev 0 0) := (rec_all 5 (by omega)).2.2
