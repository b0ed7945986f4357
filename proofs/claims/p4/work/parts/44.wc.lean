/-! the class's calls: laws, witness, alibi -/
def lawK (E : IM) (t : Nat) (w : Int32) : Int32 := outV E (prog E t) (pN E) (qN E) (RT E t) (TT E t) w
abbrev lwL (E : IM) (w : Int32) (t : Nat) (o : Int32 × Int32) : Prop := o.1 = -1 ∨ (w = 2 ∧ lawK E t w < o.2) ∨ (¬ w = 2 ∧ o.2 < lawK E t w)
def lwF (E : IM) (w : Int32) (k : Nat) : Int32 × Int32 := match k with
  | 0 => (-1, 0)
  | t + 1 => if lwL E w t (lwF E w t) then (nI t, lawK E t w) else lwF E w t
def allB (E : IM) : Int32 := (1 : Int32) <<< (E 29 2 &&& 31) - 1
def lwBit (E : IM) : Nat → Bool := fun t => decide (lawK E t 0 = allB E)
def lawsS (E : IM) (w : Int32) : Int32 := if ¬ inR w 0 2 then -2 else if w = 0 then bs (tN E) (lwBit E) else (lwF E w (tN E)).1
def sp_W_laws : SpT := fun as S I L Post => ∃ w : Int32, cSp [.int w] (fun E => .int (lawsS E w)) (fun E => E) as S I L Post
set_option maxHeartbeats 4000000 in
set_option maxRecDepth 100000 in
theorem c_W_laws : Con mW_laws 8 0 0 sp_W_laws := by
  refine con_of_X rfl fun G as S I0 L Post hs => ?_
  obtain ⟨w, rfl, rfl, hok, h1⟩ := hs
  dsimp only at h1
  refine ⟨6, Nat.le_of_ble_eq_true rfl, ?_⟩
  show X mW_laws G _ S1 I0 L 0 [.ref 0, .int w, .null, .null, .null, .null, .null, .null] [] Post
  obtain ⟨v1, v2, -⟩ := hok.vow
  have ht := hok.2.2.2.1
  refine x_iload_n dW_laws_0 rfl ?_
  refine x_iconst (v := 0) dW_laws_1 rfl ?_
  refine x_iconst (v := 2) dW_laws_2 rfl ?_
  -- at 3: .invokestatic 101
  refine x_callS_3 c_W_within ok_W_within ml_W_101 dW_laws_3 rfl rfl ?_
  refine ⟨_, _, _, rfl, fun a1 => ?_, fun a1 => ?_⟩
  · have a1 : inR w 0 2 := a1
    refine x_if_ne (tgt := 12) dW_laws_6 (by decide) (fun _ => ?_) (fun h => absurd h (by decide))
    rw [lawsS, if_neg (not_not_intro a1)] at h1
    refine x_iconst (v := 1) dW_laws_12 rfl ?_
    refine x_aload_n dW_laws_13 rfl ?_
    refine x_getR fl_W_26 rfl dW_laws_14 rfl rfl rfl ?_
    refine x_getI fl_W_124 rfl dW_laws_17 rfl rfl ?_
    refine x_ishl dW_laws_20 ?_
    refine x_iconst (v := 1) dW_laws_21 rfl ?_
    refine x_isub dW_laws_22 ?_
    refine x_istoren_2 dW_laws_23 rfl rfl ?_
    refine x_iconst (v := 0) dW_laws_24 rfl ?_
    refine x_istoren_3 dW_laws_25 rfl rfl ?_
    refine x_iconst (v := -1) dW_laws_26 rfl ?_
    refine x_istore_4 dW_laws_27 rfl rfl ?_
    refine x_iconst (v := 0) dW_laws_29 rfl ?_
    refine x_istore_5 dW_laws_30 rfl rfl ?_
    refine x_iconst (v := 0) dW_laws_32 rfl ?_
    refine x_istore_6 dW_laws_33 rfl rfl ?_
    -- at 35: .iload 6
    have loop : ∀ (k i : Nat) (I : IM) (bits fi le : Int32) (a7 : Value), i + k = tN (cE I0) → Fr kScr I0 I → (w = 0 → bits = bs i (lwBit (cE I0))) → (fi, le) = lwF (cE I0) w i →
        X mW_laws G (8, 0, 0) S1 I L 35 [.ref 0, .int w, .int (allB (cE I0)), .int bits, .int fi, .int le, .int (nI i), a7] [] Post := by
      intro k
      induction k with
      | zero =>
        intro i I bits fi le a7 hi hF hb hl
        obtain rfl : i = tN (cE I0) := by omega
        have et : I 30 2 = nI (tN (cE I0)) := by rw [hF 30 (by decide)]; exact ht.1
        refine x_iload dW_laws_35 rfl ?_
        refine x_aload_n dW_laws_37 rfl ?_
        refine x_getR fl_W_47 rfl dW_laws_38 rfl rfl rfl ?_
        refine x_getI fl_W_126 rfl dW_laws_41 rfl rfl ?_
        -- at 44: .if_icmp .ge 81
        rw [et]
        refine x_icmp_ge (tgt := 125) dW_laws_44 (by decide) (fun _ => ?_) (fun h => absurd (Int32.le_refl _) h)
        refine x_iload_n dW_laws_125 rfl ?_
        -- at 126: .ifCond .ne 7
        refine x_if_ne (tgt := 133) dW_laws_126 (by decide) (fun c3 => ?_) (fun c3 => ?_)
        · rw [if_neg c3, ← hl] at h1
          refine x_iload dW_laws_133 rfl ?_
          -- at 135: .ireturn
          refine x_ireturn dW_laws_135 rfl rfl ?_
          exact h1 I (kstay hF) (cE_k hF)
        · rw [if_pos c3, ← hb c3] at h1
          refine x_iload_n dW_laws_129 rfl ?_
          refine x_goto (tgt := 135) dW_laws_130 (by decide) ?_
          -- at 135: .ireturn
          refine x_ireturn dW_laws_135 rfl rfl ?_
          exact h1 I (kstay hF) (cE_k hF)
      | succ k ih =>
        intro i I bits fi le a7 hi hF hb hl
        have et : I 30 2 = nI (tN (cE I0)) := by rw [hF 30 (by decide)]; exact ht.1
        have h6 := ht.2.2.1
        have ok : cOk I := by unfold cOk; rw [cE_k hF]; exact hok
        refine x_iload dW_laws_35 rfl ?_
        refine x_aload_n dW_laws_37 rfl ?_
        refine x_getR fl_W_47 rfl dW_laws_38 rfl rfl rfl ?_
        refine x_getI fl_W_126 rfl dW_laws_41 rfl rfl ?_
        -- at 44: .if_icmp .ge 81
        rw [et]
        refine x_icmp_ge (tgt := 125) dW_laws_44 (by decide) (fun h => absurd h (nI_ge (b := tN (cE I0)) (by omega) (by omega))) (fun _ => ?_)
        refine x_aload_n dW_laws_47 rfl ?_
        refine x_getR fl_W_56 rfl dW_laws_48 rfl rfl rfl ?_
        refine x_iload dW_laws_51 rfl ?_
        -- at 53: .invokevirtual 213
        refine x_callV_1 cE_reckon ok_Ledger_reckon ml_W_213 dW_laws_53 rfl rfl rfl rfl rfl ?_
        refine ⟨i, rfl, rfl, ok, by rw [cE_k hF]; omega, fun I1 hF1 hl1 _ ho => ?_⟩
        rw [cE_k hF] at ho
        have hF01 : Fr kScr I0 I1 := hF.tr hF1
        refine x_aload_n dW_laws_56 rfl ?_
        refine x_getR fl_W_56 rfl dW_laws_57 rfl rfl rfl ?_
        refine x_iload_n dW_laws_60 rfl ?_
        -- at 61: .invokevirtual 238
        refine x_callV_1 c_Ledger_outcome ok_Ledger_outcome ml_W_238 dW_laws_61 rfl rfl rfl rfl rfl ?_
        refine ⟨_, qN (cE I0), i, w, RT (cE I0) i, prog (cE I0) i, rfl, rfl, ho.rows hok hF01, by rw [hF01 13 (by decide)]; exact v1, v2, hl1, (hok.txt (by omega)).fr (hF01 _ (by decide)) (hF01 _ (by decide)), fun I2 hF2 => ?_⟩
        rw [cV_k hF01, out_eq (cVE I0) (prog (cE I0) i) v2 (R' := RT (cE I0) i) (T' := TT (cE I0) i) (fun _ _ _ _ => rfl) (fun p hp => ho.tot hp)]
        refine x_eqi (y := lawK (cE I0) i w) rfl ?_
        have hF3 : Fr kScr I0 I2 := hF01.tr (hF2.wk (by decide))
        refine x_istore_7 dW_laws_64 rfl rfl ?_
        refine x_iload_n dW_laws_66 rfl ?_
        -- at 67: .ifCond .ne 16
        have next : ∀ bits' fi' le' : Int32, (w = 0 → bits' = bs (i + 1) (lwBit (cE I0))) → (fi', le') = lwF (cE I0) w (i + 1) →
            X mW_laws G (8, 0, 0) S1 I2 L 119 [.ref 0, .int w, .int (allB (cE I0)), .int bits', .int fi', .int le', .int (nI i), .int (lawK (cE I0) i w)] [] Post := by
          intro bits' fi' le' hb' hl'
          refine x_iincp_6 dW_laws_119 rfl rfl ?_
          refine x_goto (tgt := 35) dW_laws_122 (by decide) ?_
          -- at 35: .iload 6
          rw [nI_1]
          exact ih (i + 1) I2 bits' fi' le' _ (by omega) hF3 hb' hl'
        have mid : ∀ bits' : Int32, (w = 0 → bits' = bs (i + 1) (lwBit (cE I0))) →
            X mW_laws G (8, 0, 0) S1 I2 L 83 [.ref 0, .int w, .int (allB (cE I0)), .int bits', .int fi, .int le, .int (nI i), .int (lawK (cE I0) i w)] [] Post := by
          intro bits' hb'
          have take : lwL (cE I0) w i (fi, le) → X mW_laws G (8, 0, 0) S1 I2 L 111 [.ref 0, .int w, .int (allB (cE I0)), .int bits', .int fi, .int le, .int (nI i), .int (lawK (cE I0) i w)] [] Post := by
            intro hl'
            refine x_iload dW_laws_111 rfl ?_
            refine x_istore_4 dW_laws_113 rfl rfl ?_
            refine x_iload dW_laws_115 rfl ?_
            refine x_istore_5 dW_laws_117 rfl rfl ?_
            -- at 119: .iinc 6 1
            exact next _ _ _ hb' (by rw [lwF, ← hl, if_pos hl'])
          have skip : ¬ lwL (cE I0) w i (fi, le) → X mW_laws G (8, 0, 0) S1 I2 L 119 [.ref 0, .int w, .int (allB (cE I0)), .int bits', .int fi, .int le, .int (nI i), .int (lawK (cE I0) i w)] [] Post := fun z =>
            next _ _ _ hb' (by rw [lwF, ← hl, if_neg z])
          refine x_iload dW_laws_83 rfl ?_
          refine x_iconst (v := -1) dW_laws_85 rfl ?_
          -- at 86: .if_icmp .eq 25
          refine x_icmp_eq (tgt := 111) dW_laws_86 (by decide) (fun c4 => ?_) (fun c4 => ?_)
          · exact take (Or.inl c4)
          · refine x_iload_n dW_laws_89 rfl ?_
            refine x_iconst (v := 2) dW_laws_90 rfl ?_
            -- at 91: .if_icmp .ne 13
            refine x_icmp_ne (tgt := 104) dW_laws_91 (by decide) (fun c5 => ?_) (fun c5 => ?_)
            · refine x_iload dW_laws_104 rfl ?_
              refine x_iload dW_laws_106 rfl ?_
              -- at 108: .if_icmp .le 11
              refine x_icmp_le (tgt := 119) dW_laws_108 (by decide) (fun c6 => ?_) (fun c6 => ?_)
              · exact skip (fun z => z.elim c4 (fun y => y.elim (fun x => c5 x.1) (fun x => absurd x.2 (Int32.not_lt.mpr c6))))
              · exact take (Or.inr (Or.inr ⟨c5, Int32.not_le.mp c6⟩))
            · refine x_iload dW_laws_94 rfl ?_
              refine x_iload dW_laws_96 rfl ?_
              -- at 98: .if_icmp .ge 21
              refine x_icmp_ge (tgt := 119) dW_laws_98 (by decide) (fun c6 => ?_) (fun c6 => ?_)
              · exact skip (fun z => z.elim c4 (fun y => y.elim (fun x => absurd x.2 (Int32.not_lt.mpr c6)) (fun x => x.1 c5)))
              · refine x_goto (tgt := 111) dW_laws_101 (by decide) ?_
                -- at 111: .iload 6
                exact take (Or.inr (Or.inl ⟨c5, Int32.not_le.mp c6⟩))
        refine x_if_ne (tgt := 83) dW_laws_67 (by decide) (fun c3 => ?_) (fun c3 => ?_)
        · exact mid bits (fun z => absurd z c3)
        · refine x_iload dW_laws_70 rfl ?_
          refine x_iload_n dW_laws_72 rfl ?_
          -- at 73: .if_icmp .ne 10
          refine x_icmp_ne (tgt := 83) dW_laws_73 (by decide) (fun c7 => ?_) (fun c7 => ?_)
          · rw [c3] at c7
            exact mid bits (fun z => by rw [bs, lwBit, if_neg (by simpa using c7)]; exact hb z)
          · rw [c3] at c7
            refine x_iload_n dW_laws_76 rfl ?_
            refine x_iconst (v := 1) dW_laws_77 rfl ?_
            refine x_iload dW_laws_78 rfl ?_
            refine x_ishl dW_laws_80 ?_
            refine x_ior dW_laws_81 ?_
            refine x_istoren_3 dW_laws_82 rfl rfl ?_
            -- at 83: .iload 4
            refine mid _ (fun z => ?_)
            rw [bs, lwBit, if_pos (by simpa using c7), hb z]
            rfl
    exact loop (tN (cE I0)) 0 I0 0 (-1) 0 _ (by omega) (fun _ _ => rfl) (fun _ => rfl) rfl
  · have a1 : ¬ inR w 0 2 := a1
    refine x_if_ne (tgt := 12) dW_laws_6 (by decide) (fun h => absurd (by decide) h) (fun _ => ?_)
    rw [lawsS, if_pos a1] at h1
    refine x_bipush (v := -2) dW_laws_9 rfl ?_
    -- at 11: .ireturn
    refine x_ireturn dW_laws_11 rfl rfl ?_
    exact h1 I0 (fun _ _ => rfl) rfl
/-- what keeps a SHEET from telling -/
def wRef (E : IM) (s : Int32) : Int32 := if ¬ inR s 0 3 then -2 else if E 26 (cl s) = -1 then -11 else if E 27 (cl s) = E 29 3 then 0 else -2
/-- a call that answers 'bad', if that isn't 0, else anything, and the state stays -/
def wSp (args : List Value) (bad : IM → Int32) : SpT := fun as S I L Post => as = .ref 0 :: args ∧ S = S1 ∧ cOk I ∧ ∀ (v : Int32) (I' : IM), (∀ k, 59 ≤ k → I' k = I k) → cE I' = cE I → (¬ bad (cE I) = 0 → v = bad (cE I)) → Post (some (.int v)) S1 I' L
def sp_Sheets_isMissing : SpT := fun as S I L Post => ∃ s : Nat, as = [.ref 55, .int (nI s)] ∧ S = S1 ∧ s < 4 ∧ bPost (I 56 s = -1) S I L Post
set_option maxHeartbeats 4000000 in
set_option maxRecDepth 100000 in
theorem c_Sheets_isMissing : Con mSheets_isMissing 2 0 0 sp_Sheets_isMissing := by
  refine con_of_X rfl fun G as S I L Post hs => ?_
  obtain ⟨s, rfl, rfl, hs, h1, h2⟩ := hs
  refine ⟨0, Nat.le_of_ble_eq_true rfl, ?_⟩
  show X mSheets_isMissing G _ S1 I L 0 [.ref 55, .int (nI s)] [] Post
  refine x_aload_n dSheets_isMissing_0 rfl ?_
  refine x_getR fl_Sheets_9 rfl dSheets_isMissing_1 rfl rfl rfl ?_
  refine x_iload_n dSheets_isMissing_4 rfl ?_
  refine x_ialdJ dSheets_isMissing_5 rfl rfl rfl (by omega) ?_
  refine x_iconst (v := -1) dSheets_isMissing_6 rfl ?_
  -- at 7: .if_icmp .ne 7
  refine x_icmp_ne (tgt := 14) dSheets_isMissing_7 (by decide) (fun c1 => ?_) (fun c1 => ?_)
  · refine x_iconst (v := 0) dSheets_isMissing_14 rfl ?_
    -- at 15: .ireturn
    refine x_ireturn dSheets_isMissing_15 rfl rfl ?_
    exact h2 c1
  · refine x_iconst (v := 1) dSheets_isMissing_10 rfl ?_
    refine x_goto (tgt := 15) dSheets_isMissing_11 (by decide) ?_
    -- at 15: .ireturn
    refine x_ireturn dSheets_isMissing_15 rfl rfl ?_
    exact h1 c1
def sp_Sheets_bitsAt : SpT := fun as S I L Post => ∃ s i : Nat, as = [.ref 55, .int (nI s), .int (nI i)] ∧ S = S1 ∧ s < 4 ∧ i < 40 ∧ ∀ v : Int32, Post (some (.int v)) S1 I L
set_option maxHeartbeats 4000000 in
set_option maxRecDepth 100000 in
theorem c_Sheets_bitsAt : Con mSheets_bitsAt 2 0 0 sp_Sheets_bitsAt := by
  refine con_of_X rfl fun G as S I L Post hs => ?_
  obtain ⟨s, i, rfl, rfl, hs, hi, h1⟩ := hs
  refine ⟨1, Nat.le_of_ble_eq_true rfl, ?_⟩
  show X mSheets_bitsAt G _ S1 I L 0 [.ref 55, .int (nI s), .int (nI i), .null] [] Post
  refine x_aload_n dSheets_bitsAt_0 rfl ?_
  refine x_getR fl_Sheets_18 rfl dSheets_bitsAt_1 rfl rfl rfl ?_
  refine x_iload_n dSheets_bitsAt_4 rfl ?_
  refine x_bipush (v := 40) dSheets_bitsAt_5 rfl ?_
  refine x_imul dSheets_bitsAt_7 ?_
  refine x_iload_n dSheets_bitsAt_8 rfl ?_
  refine x_iadd dSheets_bitsAt_9 ?_
  refine x_ialdJ (j := s * 40 + i) dSheets_bitsAt_10 rfl rfl (by first | rfl | (simp only [← nI_add, ← pk_mul]; rfl)) (by omega) ?_
  refine x_istoren_3 dSheets_bitsAt_11 rfl rfl ?_
  refine x_aload_n dSheets_bitsAt_12 rfl ?_
  refine x_getR fl_Sheets_9 rfl dSheets_bitsAt_13 rfl rfl rfl ?_
  refine x_iload_n dSheets_bitsAt_16 rfl ?_
  refine x_ialdJ (j := s) dSheets_bitsAt_17 rfl rfl (by first | rfl | (simp only [← nI_add, ← pk_mul]; rfl)) (by omega) ?_
  -- at 18: .ifCond .ne 11
  refine x_if_ne (tgt := 29) dSheets_bitsAt_18 (by decide) (fun c1 => ?_) (fun c1 => ?_)
  · refine x_iload_n dSheets_bitsAt_29 rfl ?_
    -- at 30: .ireturn
    refine x_ireturn dSheets_bitsAt_30 rfl rfl ?_
    exact h1 _
  · refine x_iload_n dSheets_bitsAt_21 rfl ?_
    refine x_sipush (v := 255) dSheets_bitsAt_22 rfl ?_
    refine x_iand dSheets_bitsAt_25 ?_
    refine x_goto (tgt := 30) dSheets_bitsAt_26 (by decide) ?_
    -- at 30: .ireturn
    refine x_ireturn dSheets_bitsAt_30 rfl rfl ?_
    exact h1 _
def sp_W_firstHeardByOthers : SpT := fun as S I L Post => ∃ s m : Nat, as = [.ref 0, .int (nI s)] ∧ S = S1 ∧ s < 4 ∧ I 18 4 = nI m ∧ m ≤ 10 ∧ ∀ v : Int32, Post (some (.int v)) S1 I L
set_option maxHeartbeats 4000000 in
set_option maxRecDepth 100000 in
theorem c_W_firstHeardByOthers : Con mW_firstHeardByOthers 3 0 0 sp_W_firstHeardByOthers := by
  refine con_of_X rfl fun G as S I L Post hs => ?_
  obtain ⟨s, m, rfl, rfl, hs, hm, hm10, h1⟩ := hs
  refine ⟨1, Nat.le_of_ble_eq_true rfl, ?_⟩
  show X mW_firstHeardByOthers G _ S1 I L 0 [.ref 0, .int (nI s), .null] [] Post
  refine x_iconst (v := 0) dW_firstHeardByOthers_0 rfl ?_
  refine x_istoren_2 dW_firstHeardByOthers_1 rfl rfl ?_
  -- at 2: .iload_n 2
  have loop : ∀ (k i : Nat), i + k = m → X mW_firstHeardByOthers G (3, 0, 0) S1 I L 2 [.ref 0, .int (nI s), .int (nI i)] [] Post := by
    intro k
    induction k with
    | zero =>
      intro i hi
      obtain rfl : i = m := by omega
      refine x_iload_n dW_firstHeardByOthers_2 rfl ?_
      refine x_aload_n dW_firstHeardByOthers_3 rfl ?_
      refine x_getR fl_W_33 rfl dW_firstHeardByOthers_4 rfl rfl rfl ?_
      refine x_getI fl_W_125 rfl dW_firstHeardByOthers_7 rfl rfl ?_
      -- at 10: .if_icmp .ge 32
      rw [hm]
      refine x_icmp_ge (tgt := 42) dW_firstHeardByOthers_10 (by decide) (fun _ => ?_) (fun h => absurd (Int32.le_refl _) h)
      refine x_iconst (v := -1) dW_firstHeardByOthers_42 rfl ?_
      -- at 43: .ireturn
      refine x_ireturn dW_firstHeardByOthers_43 rfl rfl ?_
      exact h1 _
    | succ k ih =>
      intro i hi
      refine x_iload_n dW_firstHeardByOthers_2 rfl ?_
      refine x_aload_n dW_firstHeardByOthers_3 rfl ?_
      refine x_getR fl_W_33 rfl dW_firstHeardByOthers_4 rfl rfl rfl ?_
      refine x_getI fl_W_125 rfl dW_firstHeardByOthers_7 rfl rfl ?_
      -- at 10: .if_icmp .ge 32
      rw [hm]
      refine x_icmp_ge (tgt := 42) dW_firstHeardByOthers_10 (by decide) (fun h => absurd h (nI_ge (b := m) (by omega) (by omega))) (fun _ => ?_)
      refine x_aload_n dW_firstHeardByOthers_13 rfl ?_
      refine x_getR fl_W_56 rfl dW_firstHeardByOthers_14 rfl rfl rfl ?_
      refine x_getR fl_W_211 rfl dW_firstHeardByOthers_17 rfl rfl rfl ?_
      refine x_iload_n dW_firstHeardByOthers_20 rfl ?_
      refine x_ialdJ dW_firstHeardByOthers_21 rfl rfl rfl (by omega) ?_
      refine x_aload_n dW_firstHeardByOthers_22 rfl ?_
      refine x_getR fl_W_70 rfl dW_firstHeardByOthers_23 rfl rfl rfl ?_
      refine x_iload_n dW_firstHeardByOthers_26 rfl ?_
      refine x_iload_n dW_firstHeardByOthers_27 rfl ?_
      -- at 28: .invokevirtual 364
      refine x_callV_2 c_Sheets_bitsAt ok_Sheets_bitsAt ml_W_364 dW_firstHeardByOthers_28 rfl rfl rfl rfl rfl ?_
      refine ⟨s, i, rfl, rfl, hs, by omega, fun v => ?_⟩
      refine x_icmp_eq (tgt := 36) dW_firstHeardByOthers_31 (by decide) (fun c1 => ?_) (fun c1 => ?_)
      · refine x_iincp_2 dW_firstHeardByOthers_36 rfl rfl ?_
        refine x_goto (tgt := 2) dW_firstHeardByOthers_39 (by decide) ?_
        -- at 2: .iload_n 2
        rw [nI_1]
        exact ih (i + 1) (by omega)
      · refine x_iload_n dW_firstHeardByOthers_34 rfl ?_
        -- at 35: .ireturn
        refine x_ireturn dW_firstHeardByOthers_35 rfl rfl ?_
        exact h1 _
  exact loop m 0 (by omega)
def sp_W_witnessRefusal : SpT := fun as S I L Post => ∃ s : Int32, as = [.ref 0, .int s] ∧ S = S1 ∧ Post (some (.int (wRef (cE I) s))) S1 I L
set_option maxHeartbeats 4000000 in
set_option maxRecDepth 100000 in
theorem c_W_witnessRefusal : Con mW_witnessRefusal 3 0 0 sp_W_witnessRefusal := by
  refine con_of_X rfl fun G as S I L Post hs => ?_
  obtain ⟨s, rfl, rfl, h1⟩ := hs
  refine ⟨0, Nat.le_of_ble_eq_true rfl, ?_⟩
  show X mW_witnessRefusal G _ S1 I L 0 [.ref 0, .int s] [] Post
  refine x_iload_n dW_witnessRefusal_0 rfl ?_
  refine x_iconst (v := 0) dW_witnessRefusal_1 rfl ?_
  refine x_iconst (v := 3) dW_witnessRefusal_2 rfl ?_
  -- at 3: .invokestatic 101
  refine x_callS_3 c_W_within ok_W_within ml_W_101 dW_witnessRefusal_3 rfl rfl ?_
  refine ⟨_, _, _, rfl, fun a1 => ?_, fun a1 => ?_⟩
  · have a1 : inR s 0 3 := a1
    refine x_if_ne (tgt := 12) dW_witnessRefusal_6 (by decide) (fun _ => ?_) (fun h => absurd h (by decide))
    rw [wRef, if_neg (not_not_intro a1)] at h1
    obtain ⟨i, hi, rfl⟩ := inR_of (n := 3) (by decide) a1
    rw [cl_nI (by omega)] at h1
    refine x_aload_n dW_witnessRefusal_12 rfl ?_
    refine x_getR fl_W_70 rfl dW_witnessRefusal_13 rfl rfl rfl ?_
    refine x_iload_n dW_witnessRefusal_16 rfl ?_
    -- at 17: .invokevirtual 335
    refine x_callV_1 c_Sheets_isMissing ok_Sheets_isMissing ml_W_335 dW_witnessRefusal_17 rfl rfl rfl rfl rfl ?_
    refine ⟨i, rfl, rfl, by omega, fun a2 => ?_, fun a2 => ?_⟩
    · have a2 : cE I 26 i = -1 := a2
      refine x_if_eq (tgt := 26) dW_witnessRefusal_20 (by decide) (fun h => absurd h (by decide)) (fun _ => ?_)
      rw [if_pos a2] at h1
      refine x_bipush (v := -11) dW_witnessRefusal_23 rfl ?_
      -- at 25: .ireturn
      refine x_ireturn dW_witnessRefusal_25 rfl rfl ?_
      exact h1
    · have a2 : ¬ cE I 26 i = -1 := a2
      refine x_if_eq (tgt := 26) dW_witnessRefusal_20 (by decide) (fun _ => ?_) (fun h => absurd (by decide) h)
      rw [if_neg a2] at h1
      refine x_aload_n dW_witnessRefusal_26 rfl ?_
      refine x_getR fl_W_70 rfl dW_witnessRefusal_27 rfl rfl rfl ?_
      refine x_getR fl_W_338 rfl dW_witnessRefusal_30 rfl rfl rfl ?_
      refine x_iload_n dW_witnessRefusal_33 rfl ?_
      refine x_ialdJ dW_witnessRefusal_34 rfl rfl rfl (by omega) ?_
      refine x_aload_n dW_witnessRefusal_35 rfl ?_
      refine x_getR fl_W_33 rfl dW_witnessRefusal_36 rfl rfl rfl ?_
      refine x_getI fl_W_125 rfl dW_witnessRefusal_39 rfl rfl ?_
      -- at 42: .if_icmp .ne 7
      refine x_icmp_ne (tgt := 49) dW_witnessRefusal_42 (by decide) (fun c1 => ?_) (fun c1 => ?_)
      · have c1 : ¬ cE I 27 i = cE I 29 3 := c1
        rw [if_neg c1] at h1
        refine x_bipush (v := -2) dW_witnessRefusal_49 rfl ?_
        -- at 51: .ireturn
        refine x_ireturn dW_witnessRefusal_51 rfl rfl ?_
        exact h1
      · have c1 : cE I 27 i = cE I 29 3 := c1
        rw [if_pos c1] at h1
        refine x_iconst (v := 0) dW_witnessRefusal_45 rfl ?_
        refine x_goto (tgt := 51) dW_witnessRefusal_46 (by decide) ?_
        -- at 51: .ireturn
        refine x_ireturn dW_witnessRefusal_51 rfl rfl ?_
        exact h1
  · have a1 : ¬ inR s 0 3 := a1
    refine x_if_ne (tgt := 12) dW_witnessRefusal_6 (by decide) (fun h => absurd (by decide) h) (fun _ => ?_)
    rw [wRef, if_pos a1] at h1
    refine x_bipush (v := -2) dW_witnessRefusal_9 rfl ?_
    -- at 11: .ireturn
    refine x_ireturn dW_witnessRefusal_11 rfl rfl ?_
    exact h1
theorem wRef_0 {E : IM} {s : Int32} (h : wRef E s = 0) : ∃ i, i < 4 ∧ s = nI i := by
  unfold wRef at h
  by_cases a : inR s 0 3
  · obtain ⟨i, hi, e⟩ := inR_of (n := 3) (by decide) a
    exact ⟨i, by omega, e⟩
  · rw [if_pos a] at h
    exact absurd h (by decide)
def sp_W_witness : SpT := fun as S I L Post => ∃ s : Int32, wSp [.int s] (fun E => wRef E s) as S I L Post
set_option maxHeartbeats 4000000 in
set_option maxRecDepth 100000 in
theorem c_W_witness : Con mW_witness 7 0 0 sp_W_witness := by
  refine con_of_X rfl fun G as S I L Post hs => ?_
  obtain ⟨s, rfl, rfl, hok, h1⟩ := hs
  dsimp only at h1
  refine ⟨1, Nat.le_of_ble_eq_true rfl, ?_⟩
  show X mW_witness G _ S1 I L 0 [.ref 0, .int s, .null] [] Post
  obtain ⟨b1, b2, -⟩ := hok.say
  obtain ⟨l1, l2⟩ := hok.law
  refine x_aload_n dW_witness_0 rfl ?_
  refine x_iload_n dW_witness_1 rfl ?_
  -- at 2: .invokevirtual 302
  refine x_callV_1 c_W_witnessRefusal ok_W_witnessRefusal ml_W_302 dW_witness_2 rfl rfl rfl rfl rfl ?_
  refine ⟨s, rfl, rfl, ?_⟩
  refine x_istoren_2 dW_witness_5 rfl rfl ?_
  refine x_iload_n dW_witness_6 rfl ?_
  -- at 7: .ifCond .eq 5
  refine x_if_eq (tgt := 12) dW_witness_7 (by decide) (fun c1 => ?_) (fun c1 => ?_)
  · obtain ⟨i, hi, rfl⟩ := wRef_0 c1
    refine x_aload_n dW_witness_12 rfl ?_
    refine x_getR fl_W_56 rfl dW_witness_13 rfl rfl rfl ?_
    refine x_aload_n dW_witness_16 rfl ?_
    refine x_getR fl_W_47 rfl dW_witness_17 rfl rfl rfl ?_
    refine x_getI fl_W_127 rfl dW_witness_20 rfl rfl ?_
    -- at 23: .invokevirtual 205
    rw [l1]
    refine x_callV_1 cE_listen ok_Ledger_listen ml_W_205 dW_witness_23 rfl rfl rfl rfl rfl ?_
    refine ⟨_, rfl, rfl, hok, l2, fun I1 hF _ _ _ => ?_⟩
    refine x_aload_n dW_witness_26 rfl ?_
    refine x_iload_n dW_witness_27 rfl ?_
    -- at 28: .invokevirtual 305
    refine x_callV_1 c_W_firstHeardByOthers ok_W_firstHeardByOthers ml_W_305 dW_witness_28 rfl rfl rfl rfl rfl ?_
    refine ⟨i, sN (cE I), rfl, rfl, hi, by rw [hF 18 (by decide)]; exact b1, b2, fun v => ?_⟩
    refine x_ireturn dW_witness_31 rfl rfl ?_
    exact h1 v I1 (kstay hF) (cE_k hF) (fun z => absurd c1 z)
  · refine x_iload_n dW_witness_10 rfl ?_
    -- at 11: .ireturn
    refine x_ireturn dW_witness_11 rfl rfl ?_
    exact h1 _ I (fun _ _ => rfl) rfl (fun _ => rfl)
def alBad (E : IM) (p s : Int32) : Int32 := if ¬ inR p 0 (E 29 1 - 1) then -5 else wRef E s
def sp_W_alibi : SpT := fun as S I L Post => ∃ p s : Int32, wSp [.int p, .int s] (fun E => alBad E p s) as S I L Post
abbrev aScr : List Nat := [33, 34, 35, 36, 37]
set_option maxHeartbeats 4000000 in
set_option maxRecDepth 100000 in
theorem c_W_alibi : Con mW_alibi 7 0 0 sp_W_alibi := by
  refine con_of_X rfl fun G as S I L Post hs => ?_
  obtain ⟨p0, s0, rfl, rfl, hok, h1⟩ := hs
  dsimp only at h1
  refine ⟨4, Nat.le_of_ble_eq_true rfl, ?_⟩
  show X mW_alibi G _ S1 I L 0 [.ref 0, .int p0, .int s0, .null, .null, .null, .null] [] Post
  obtain ⟨b1, b2, hsv⟩ := hok.say
  have hpp := hok.ppl
  obtain ⟨c1, c2, -⟩ := hok.ppl
  obtain ⟨l1, l2⟩ := hok.law
  refine x_aload_n dW_alibi_0 rfl ?_
  refine x_getR fl_W_19 rfl dW_alibi_1 rfl rfl rfl ?_
  refine x_iload_n dW_alibi_4 rfl ?_
  -- at 5: .invokevirtual 143
  refine x_callV_1 c_Folk_has ok_Folk_has ml_W_143 dW_alibi_5 rfl rfl rfl rfl rfl ?_
  refine ⟨_, rfl, rfl, fun a1 => ?_, fun a1 => ?_⟩
  · have a1 : inR p0 0 (cE I 29 1 - 1) := a1
    refine x_if_ne (tgt := 14) dW_alibi_8 (by decide) (fun _ => ?_) (fun h => absurd h (by decide))
    rw [alBad, if_neg (not_not_intro a1)] at h1
    rw [show cE I 29 1 = nI (pN (cE I)) from c1] at a1
    obtain ⟨p, hp, rfl⟩ := has_nat (by omega) a1
    refine x_aload_n dW_alibi_14 rfl ?_
    refine x_iload_n dW_alibi_15 rfl ?_
    -- at 16: .invokevirtual 302
    refine x_callV_1 c_W_witnessRefusal ok_W_witnessRefusal ml_W_302 dW_alibi_16 rfl rfl rfl rfl rfl ?_
    refine ⟨s0, rfl, rfl, ?_⟩
    refine x_istoren_3 dW_alibi_19 rfl rfl ?_
    refine x_iload_n dW_alibi_20 rfl ?_
    -- at 21: .ifCond .eq 5
    refine x_if_eq (tgt := 26) dW_alibi_21 (by decide) (fun d1 => ?_) (fun d1 => ?_)
    · obtain ⟨s, hs, rfl⟩ := wRef_0 d1
      rw [d1] at h1
      rw [d1]
      refine x_aload_n dW_alibi_26 rfl ?_
      refine x_getR fl_W_56 rfl dW_alibi_27 rfl rfl rfl ?_
      refine x_aload_n dW_alibi_30 rfl ?_
      refine x_getR fl_W_47 rfl dW_alibi_31 rfl rfl rfl ?_
      refine x_getI fl_W_127 rfl dW_alibi_34 rfl rfl ?_
      -- at 37: .invokevirtual 205
      rw [l1]
      refine x_callV_1 cE_listen ok_Ledger_listen ml_W_205 dW_alibi_37 rfl rfl rfl rfl rfl ?_
      refine ⟨_, rfl, rfl, hok, l2, fun I0 hF0 hlw _ _ => ?_⟩
      have hF0' : Fr kScr I I0 := hF0
      refine x_aload_n dW_alibi_40 rfl ?_
      refine x_getR fl_W_19 rfl dW_alibi_41 rfl rfl rfl ?_
      refine x_getR fl_W_146 rfl dW_alibi_44 rfl rfl rfl ?_
      refine x_iload_n dW_alibi_47 rfl ?_
      refine x_ialdJ dW_alibi_48 rfl rfl rfl (by omega) ?_
      refine x_istore_4 dW_alibi_49 rfl rfl ?_
      refine x_iconst (v := 0) dW_alibi_51 rfl ?_
      refine x_istore_5 dW_alibi_52 rfl rfl ?_
      refine x_iconst (v := 0) dW_alibi_54 rfl ?_
      refine x_istore_6 dW_alibi_55 rfl rfl ?_
      -- at 57: .iload 6
      have e12 : I0 12 = I 12 := hF0 12 (by decide)
      have loop : ∀ (k i : Nat) (I' : IM) (bits : Int32), i + k = 6 → Fr (12 :: kScr) I I' → (∃ x, I' 12 = up1 (I 12) p x) → I' 35 5 = nI (wN (cE I)) →
          X mW_alibi G (7, 0, 0) S1 I' L 57 [.ref 0, .int (nI p), .int (nI s), .int 0, .int (I0 12 p), .int bits, .int (nI i)] [] Post := by
        intro k
        induction k with
        | zero =>
          intro i I' bits hi hF hx hl
          obtain rfl : i = 6 := by omega
          refine x_iload dW_alibi_57 rfl ?_
          refine x_bipush (v := 6) dW_alibi_59 rfl ?_
          -- at 61: .if_icmp .ge 46
          refine x_icmp_ge (tgt := 107) dW_alibi_61 (by decide) (fun _ => ?_) (fun h => absurd (by decide) h)
          refine x_aload_n dW_alibi_107 rfl ?_
          refine x_getR fl_W_19 rfl dW_alibi_108 rfl rfl rfl ?_
          refine x_getR fl_W_146 rfl dW_alibi_111 rfl rfl rfl ?_
          refine x_iload_n dW_alibi_114 rfl ?_
          refine x_iload dW_alibi_115 rfl ?_
          refine x_iastJ dW_alibi_117 rfl rfl rfl (by omega) ?_
          refine x_iload dW_alibi_118 rfl ?_
          -- at 120: .ireturn
          refine x_ireturn dW_alibi_120 rfl rfl ?_
          obtain ⟨x, hx⟩ := hx
          have hF2 : Fr kScr I (up2 I' 12 p (I0 12 p)) := fun j hj => by
            by_cases z : j = 12
            · subst z
              rw [up2_s, hx, e12]
              funext q
              by_cases y : q = p
              · subst y; simp [up1]
              · simp [up1, y]
            · rw [up2_n _ _ _ z]
              exact hF j (by simp [z]; simpa using hj)
          exact h1 _ _ (kstay hF2) (cE_k hF2) (fun z => absurd rfl z)
        | succ k ih =>
          intro i I' bits hi hF hx hl
          obtain ⟨x, hx⟩ := hx
          refine x_iload dW_alibi_57 rfl ?_
          refine x_bipush (v := 6) dW_alibi_59 rfl ?_
          -- at 61: .if_icmp .ge 46
          refine x_icmp_ge (tgt := 107) dW_alibi_61 (by decide) (fun h => absurd h (nI_ge (b := 6) (by omega) (by omega))) (fun _ => ?_)
          refine x_aload_n dW_alibi_64 rfl ?_
          refine x_getR fl_W_19 rfl dW_alibi_65 rfl rfl rfl ?_
          refine x_getR fl_W_146 rfl dW_alibi_68 rfl rfl rfl ?_
          refine x_iload_n dW_alibi_71 rfl ?_
          refine x_iload dW_alibi_72 rfl ?_
          refine x_iastJ dW_alibi_74 rfl rfl rfl (by omega) ?_
          refine x_aload_n dW_alibi_75 rfl ?_
          refine x_getR fl_W_56 rfl dW_alibi_76 rfl rfl rfl ?_
          refine x_iload_n dW_alibi_79 rfl ?_
          -- at 80: .invokevirtual 308
          have hF1 : Fr (12 :: kScr) I (up2 I' 12 p (nI i)) := hF.up (by decide) _ _
          have h12 : up2 I' 12 p (nI i) 12 = up1 (I 12) p (nI i) := by
            rw [up2_s, hx]
            funext q
            by_cases y : q = p
            · subst y; simp [up1]
            · simp [up1, y]
          have hl1 : up2 I' 12 p (nI i) 35 5 = nI (wN (cE I)) := by simp only [up2_n, up2_s, ne_eq, Nat.reduceEqDiff, not_false_eq_true, hl]
          generalize up2 I' 12 p (nI i) = I1 at hF1 h12 hl1 ⊢
          have eV1 : cV I1 = mvV (cV I) p (nI i) := cV_of_mv hF1 (by decide) h12
          have hsv1 : ∀ s, s < sN (cE I) → SayV (mvV (cV I) p (nI i)) s := hsv
          have hpp1 : PplOk I1 (pN (cE I)) := by
            refine ⟨by rw [hF1 4 (by decide)]; exact hpp.1, c2, fun j hj => ?_⟩
            obtain ⟨a1, a2, a3, a4⟩ := hpp.2.2 j hj
            rw [eV1]
            refine ⟨a1, a2, a3, ?_⟩
            unfold mvV
            rw [up2_s, up1]
            split
            · exact Or.inr ⟨i, by omega, rfl⟩
            · exact a4
          have hT1 : TxtC I1 (PE (cE I)) (wN (cE I)) := (hok.txt l2).fr (hF1 _ (by decide)) (hF1 _ (by decide))
          refine x_callV_1 c_Ledger_listenBy ok_Ledger_listenBy ml_W_308 dW_alibi_80 rfl rfl rfl rfl rfl ?_
          refine ⟨p, sN (cE I), pN (cE I), PE (cE I), rfl, rfl, by rw [hF1 18 (by decide)]; exact b1, b2, hp, by rw [eV1]; exact hsv1, hpp1.lis2 hl1 hT1, fun I2 hF2 _ => ?_⟩
          have hF02 : Fr (12 :: kScr) I I2 := hF1.tr (hF2.wk (by decide))
          have hx2 : ∃ x, I2 12 = up1 (I 12) p x := ⟨nI i, by rw [hF2 12 (by decide)]; exact h12⟩
          have hl2 : I2 35 5 = nI (wN (cE I)) := by rw [hF2 35 (by decide)]; exact hl1
          refine x_aload_n dW_alibi_83 rfl ?_
          refine x_iload_n dW_alibi_84 rfl ?_
          -- at 85: .invokevirtual 305
          refine x_callV_1 c_W_firstHeardByOthers ok_W_firstHeardByOthers ml_W_305 dW_alibi_85 rfl rfl rfl rfl rfl ?_
          refine ⟨s, sN (cE I), rfl, rfl, hs, by rw [hF02 18 (by decide)]; exact b1, b2, fun v => ?_⟩
          refine x_iconst (v := -1) dW_alibi_88 rfl ?_
          -- at 89: .if_icmp .ne 12
          refine x_icmp_ne (tgt := 101) dW_alibi_89 (by decide) (fun g1 => ?_) (fun g1 => ?_)
          · refine x_iincp_6 dW_alibi_101 rfl rfl ?_
            refine x_goto (tgt := 57) dW_alibi_104 (by decide) ?_
            -- at 57: .iload 6
            rw [nI_1]
            exact ih (i + 1) I2 _ (by omega) hF02 hx2 hl2
          · refine x_iload dW_alibi_92 rfl ?_
            refine x_iconst (v := 1) dW_alibi_94 rfl ?_
            refine x_iload dW_alibi_95 rfl ?_
            refine x_ishl dW_alibi_97 ?_
            refine x_ior dW_alibi_98 ?_
            refine x_istore_5 dW_alibi_99 rfl rfl ?_
            refine x_iincp_6 dW_alibi_101 rfl rfl ?_
            refine x_goto (tgt := 57) dW_alibi_104 (by decide) ?_
            -- at 57: .iload 6
            rw [nI_1]
            exact ih (i + 1) I2 _ (by omega) hF02 hx2 hl2
      have e0 : (6 : Nat) = 0 + 6 := rfl
      refine loop 6 0 I0 0 rfl (hF0.wk (by decide)) ⟨I 12 p, ?_⟩ hlw
      rw [e12]
      funext q
      by_cases y : q = p
      · subst y; simp [up1]
      · simp [up1, y]
    · refine x_iload_n dW_alibi_24 rfl ?_
      -- at 25: .ireturn
      refine x_ireturn dW_alibi_25 rfl rfl ?_
      exact h1 _ I (fun _ _ => rfl) rfl (fun _ => rfl)
  · have a1 : ¬ inR p0 0 (cE I 29 1 - 1) := a1
    refine x_if_ne (tgt := 14) dW_alibi_8 (by decide) (fun h => absurd (by decide) h) (fun _ => ?_)
    rw [alBad, if_pos a1] at h1
    refine x_bipush (v := -5) dW_alibi_11 rfl ?_
    -- at 13: .ireturn
    refine x_ireturn dW_alibi_13 rfl rfl ?_
    exact h1 _ I (fun _ _ => rfl) rfl (fun _ => rfl)
