/-! the class's calls: promisesBy, taken -/
def pbC (s : Nat) (a0 : Int32) (k : Nat) : Nat := s * 40 + cl a0 + 4 * k
def pbR (s : Nat) (a0 : Int32) (m k : Nat) (came : Int32) (E : IM) : Int32 × IM := match m with
  | 0 => (came, E)
  | j + 1 => if ¬ inR a0 0 (E 27 s - 4 - 4 * nI k) then (-12, E) else
    pbR s a0 j (k + 1) (if 0 ≤ promiseS E (E 28 (pbC s a0 k)) (E 28 (pbC s a0 k + 1)) (E 28 (pbC s a0 k + 2)) (E 28 (pbC s a0 k + 3)) then came + 1 else came)
      (promiseU E (E 28 (pbC s a0 k)) (E 28 (pbC s a0 k + 1)) (E 28 (pbC s a0 k + 2)) (E 28 (pbC s a0 k + 3)))
abbrev pbOk (s so n : Int32) : Prop := inR s 0 3 ∧ inR so 0 2 ∧ inR n 0 8
def pbS (E : IM) (s so a0 n : Int32) : Int32 := if ¬ pbOk s so n then -2 else if E 26 (cl s) = -1 then -11 else if ¬ E 26 (cl s) = so then -13 else (pbR (cl s) a0 (cl n) 0 0 E).1
def pbU (E : IM) (s so a0 n : Int32) : IM := if ¬ pbOk s so n then E else if E 26 (cl s) = -1 then E else if ¬ E 26 (cl s) = so then E else (pbR (cl s) a0 (cl n) 0 0 E).2
theorem pb_nat {z k : Nat} {a0 : Int32} (hz : z ≤ 40) (hk : k ≤ 8) (h : inR a0 0 (nI z - 4 - 4 * nI k)) : ∃ a, a0 = nI a ∧ a + 4 * k + 4 ≤ z := by
  have e : (nI z - 4 - 4 * nI k).toInt = (z : Int) - 4 - 4 * k := by
    rw [show (4 : Int32) * nI k = nI (4 * k) from pk_mul 4 k, Int32.toInt_sub, show (nI z - 4 : Int32) = nI z - nI 4 from rfl, pk_sub_toInt (by omega) (by omega), nI_toInt (by omega)]
    rw [Int.bmod_eq_of_le] <;> omega
  have h2 := Int32.le_iff_toInt_le.mp h.1
  have h3 := Int32.le_iff_toInt_le.mp h.2
  rw [e] at h3
  simp at h2
  obtain ⟨a, ha, ea⟩ := nI_of2 (x := a0) (M := nI 40) (n := 40) rfl (Int32.not_lt.mpr h.1) (Int32.le_iff_toInt_le.mpr (by rw [nI_toInt (by omega)]; omega))
  refine ⟨a, ea, ?_⟩
  rw [ea, nI_toInt (by omega)] at h3
  omega
theorem Inv_pbR (s : Nat) (a0 : Int32) : ∀ (m k : Nat) (came : Int32) (E : IM), Inv E → Inv (pbR s a0 m k came E).2 := by
  intro m
  induction m with
  | zero => intro k came E h; exact h
  | succ j ih =>
    intro k came E h
    rw [pbR]
    split
    · exact h
    · exact ih _ _ _ (Inv_promise h _ _ _ _)
theorem Inv_pb {E : IM} (h : Inv E) (s so a0 n : Int32) : Inv (pbU E s so a0 n) := by
  unfold pbU
  split
  · exact h
  · split
    · exact h
    · split
      · exact h
      · exact Inv_pbR _ _ _ _ _ _ h
def sp_W_promisesBy : SpT := fun as S I L Post => ∃ s so a0 n : Int32, cSp [.int s, .int so, .int a0, .int n] (fun E => .int (pbS E s so a0 n)) (fun E => pbU E s so a0 n) as S I L Post
set_option maxHeartbeats 4000000 in
set_option maxRecDepth 100000 in
theorem c_W_promisesBy : Con mW_promisesBy 4 0 0 sp_W_promisesBy := by
  refine con_of_X rfl fun G as S I0 L Post hs => ?_
  obtain ⟨s, so, a0, n, rfl, rfl, hok, h1⟩ := hs
  dsimp only at h1
  refine ⟨5, Nat.le_of_ble_eq_true rfl, ?_⟩
  show X mW_promisesBy G _ S1 I0 L 0 [.ref 0, .int s, .int so, .int a0, .int n, .null, .null, .null, .null, .null] [] Post
  have bad : ¬ pbOk s so n → X mW_promisesBy G (4, 0, 0) S1 I0 L 29 [.ref 0, .int s, .int so, .int a0, .int n, .null, .null, .null, .null, .null] [] Post := by
    intro hc
    rw [pbS, pbU, if_pos hc, if_pos hc] at h1
    refine x_bipush (v := -2) dW_promisesBy_29 rfl ?_
    -- at 31: .ireturn
    refine x_ireturn dW_promisesBy_31 rfl rfl ?_
    exact h1 I0 (fun _ _ => rfl) rfl
  refine x_iload_n dW_promisesBy_0 rfl ?_
  refine x_iconst (v := 0) dW_promisesBy_1 rfl ?_
  refine x_iconst (v := 3) dW_promisesBy_2 rfl ?_
  -- at 3: .invokestatic 101
  refine x_callS_3 c_W_within ok_W_within ml_W_101 dW_promisesBy_3 rfl rfl ?_
  refine ⟨_, _, _, rfl, fun a1 => ?_, fun a1 => ?_⟩
  · have a1 : inR s 0 3 := a1
    refine x_if_eq (tgt := 29) dW_promisesBy_6 (by decide) (fun h => absurd h (by decide)) (fun _ => ?_)
    refine x_iload_n dW_promisesBy_9 rfl ?_
    refine x_iconst (v := 0) dW_promisesBy_10 rfl ?_
    refine x_iconst (v := 2) dW_promisesBy_11 rfl ?_
    -- at 12: .invokestatic 101
    refine x_callS_3 c_W_within ok_W_within ml_W_101 dW_promisesBy_12 rfl rfl ?_
    refine ⟨_, _, _, rfl, fun a2 => ?_, fun a2 => ?_⟩
    · refine x_if_eq (tgt := 29) dW_promisesBy_15 (by decide) (fun h => absurd h (by decide)) (fun _ => ?_)
      refine x_iload dW_promisesBy_18 rfl ?_
      refine x_iconst (v := 0) dW_promisesBy_20 rfl ?_
      refine x_bipush (v := 8) dW_promisesBy_21 rfl ?_
      -- at 23: .invokestatic 101
      refine x_callS_3 c_W_within ok_W_within ml_W_101 dW_promisesBy_23 rfl rfl ?_
      refine ⟨_, _, _, rfl, fun a3 => ?_, fun a3 => ?_⟩
      · have a3 : inR n 0 8 := a3
        refine x_if_ne (tgt := 32) dW_promisesBy_26 (by decide) (fun _ => ?_) (fun h => absurd h (by decide))
        have hc : pbOk s so n := ⟨a1, a2, a3⟩
        rw [pbS, pbU, if_neg (not_not_intro hc), if_neg (not_not_intro hc)] at h1
        obtain ⟨i, hi, rfl⟩ := inR_of (n := 3) (by decide) a1
        obtain ⟨N, hN, rfl⟩ := inR_of (n := 8) (by decide) a3
        rw [cl_nI (by omega), cl_nI (by omega)] at h1
        refine x_aload_n dW_promisesBy_32 rfl ?_
        refine x_getR fl_W_70 rfl dW_promisesBy_33 rfl rfl rfl ?_
        refine x_iload_n dW_promisesBy_36 rfl ?_
        -- at 37: .invokevirtual 335
        refine x_callV_1 c_Sheets_isMissing ok_Sheets_isMissing ml_W_335 dW_promisesBy_37 rfl rfl rfl rfl rfl ?_
        refine ⟨i, rfl, rfl, by omega, fun a4 => ?_, fun a4 => ?_⟩
        · have a4 : cE I0 26 i = -1 := a4
          refine x_if_eq (tgt := 46) dW_promisesBy_40 (by decide) (fun h => absurd h (by decide)) (fun _ => ?_)
          rw [if_pos a4, if_pos a4] at h1
          refine x_bipush (v := -11) dW_promisesBy_43 rfl ?_
          -- at 45: .ireturn
          refine x_ireturn dW_promisesBy_45 rfl rfl ?_
          exact h1 I0 (fun _ _ => rfl) rfl
        · have a4 : ¬ cE I0 26 i = -1 := a4
          refine x_if_eq (tgt := 46) dW_promisesBy_40 (by decide) (fun _ => ?_) (fun h => absurd (by decide) h)
          rw [if_neg a4, if_neg a4] at h1
          refine x_aload_n dW_promisesBy_46 rfl ?_
          refine x_getR fl_W_70 rfl dW_promisesBy_47 rfl rfl rfl ?_
          refine x_getR fl_W_343 rfl dW_promisesBy_50 rfl rfl rfl ?_
          refine x_iload_n dW_promisesBy_53 rfl ?_
          refine x_ialdJ dW_promisesBy_54 rfl rfl rfl (by omega) ?_
          refine x_iload_n dW_promisesBy_55 rfl ?_
          -- at 56: .if_icmp .eq 6
          refine x_icmp_eq (tgt := 62) dW_promisesBy_56 (by decide) (fun c5 => ?_) (fun c5 => ?_)
          · have c5 : cE I0 26 i = so := c5
            rw [if_neg (not_not_intro c5), if_neg (not_not_intro c5)] at h1
            refine x_iconst (v := 0) dW_promisesBy_62 rfl ?_
            refine x_istore_5 dW_promisesBy_63 rfl rfl ?_
            refine x_iconst (v := 0) dW_promisesBy_65 rfl ?_
            refine x_istore_6 dW_promisesBy_66 rfl rfl ?_
            -- at 68: .iload 6
            have loop : ∀ (m k : Nat) (I : IM) (came : Int32) (a7 a8 a9 : Value), k + m = N → cOk I → (∀ k, 59 ≤ k → I k = I0 k) →
                (∀ I' : IM, (∀ k, 59 ≤ k → I' k = I0 k) → cE I' = (pbR i a0 m k came (cE I)).2 → Post (some (.int (pbR i a0 m k came (cE I)).1)) S1 I' L) →
                X mW_promisesBy G (4, 0, 0) S1 I L 68 [.ref 0, .int (nI i), .int so, .int a0, .int (nI N), .int came, .int (nI k), a7, a8, a9] [] Post := by
              intro m
              induction m with
              | zero =>
                intro k I came a7 a8 a9 hk ok st hcc
                obtain rfl : k = N := by omega
                refine x_iload dW_promisesBy_68 rfl ?_
                refine x_iload dW_promisesBy_70 rfl ?_
                -- at 72: .if_icmp .ge 96
                refine x_icmp_ge (tgt := 168) dW_promisesBy_72 (by decide) (fun _ => ?_) (fun h => absurd (Int32.le_refl _) h)
                refine x_iload dW_promisesBy_168 rfl ?_
                -- at 170: .ireturn
                refine x_ireturn dW_promisesBy_170 rfl rfl ?_
                exact hcc I st rfl
              | succ m ih =>
                intro k I came a7 a8 a9 hk ok st hcc
                obtain ⟨z, hz, ez⟩ := sz_nat ok (s := i) (by omega)
                have ez : I 57 i = nI z := ez
                rw [pbR, show cE I 27 i = nI z from ez] at hcc
                refine x_iload dW_promisesBy_68 rfl ?_
                refine x_iload dW_promisesBy_70 rfl ?_
                -- at 72: .if_icmp .ge 96
                refine x_icmp_ge (tgt := 168) dW_promisesBy_72 (by decide) (fun h => absurd h (nI_ge (b := N) (by omega) (by omega))) (fun _ => ?_)
                refine x_iconst (v := 4) dW_promisesBy_75 rfl ?_
                refine x_iload dW_promisesBy_76 rfl ?_
                refine x_imul dW_promisesBy_78 ?_
                refine x_istore_7 dW_promisesBy_79 rfl rfl ?_
                refine x_iload_n dW_promisesBy_81 rfl ?_
                refine x_iconst (v := 0) dW_promisesBy_82 rfl ?_
                refine x_aload_n dW_promisesBy_83 rfl ?_
                refine x_getR fl_W_70 rfl dW_promisesBy_84 rfl rfl rfl ?_
                refine x_getR fl_W_338 rfl dW_promisesBy_87 rfl rfl rfl ?_
                refine x_iload_n dW_promisesBy_90 rfl ?_
                refine x_ialdJ dW_promisesBy_91 rfl rfl rfl (by omega) ?_
                -- at 92: .iconst 4
                rw [ez]
                refine x_iconst (v := 4) dW_promisesBy_92 rfl ?_
                refine x_isub dW_promisesBy_93 ?_
                refine x_iload dW_promisesBy_94 rfl ?_
                refine x_isub dW_promisesBy_96 ?_
                -- at 97: .invokestatic 101
                refine x_callS_3 c_W_within ok_W_within ml_W_101 dW_promisesBy_97 rfl rfl ?_
                refine ⟨_, _, _, rfl, fun g => ?_, fun g => ?_⟩
                · have g : inR a0 0 (nI z - 4 - 4 * nI k) := g
                  refine x_if_ne (tgt := 106) dW_promisesBy_100 (by decide) (fun _ => ?_) (fun h => absurd h (by decide))
                  rw [if_neg (not_not_intro g)] at hcc
                  obtain ⟨a, rfl, hza⟩ := pb_nat hz (by omega) g
                  have ec : pbC i (nI a) k = i * 40 + a + 4 * k := by unfold pbC; rw [cl_nI (by omega)]
                  rw [ec] at hcc
                  refine x_iload_n dW_promisesBy_106 rfl ?_
                  refine x_bipush (v := 40) dW_promisesBy_107 rfl ?_
                  refine x_imul dW_promisesBy_109 ?_
                  refine x_iload_n dW_promisesBy_110 rfl ?_
                  refine x_iadd dW_promisesBy_111 ?_
                  refine x_iload dW_promisesBy_112 rfl ?_
                  refine x_iadd dW_promisesBy_114 ?_
                  -- at 115: .istore 8
                  refine x_eqi (y := nI (i * 40 + a + 4 * k)) (by rw [← nI_add, ← nI_add, ← pk_mul, ← pk_mul]; rfl) ?_
                  refine x_istore_8 dW_promisesBy_115 rfl rfl ?_
                  refine x_aload_n dW_promisesBy_117 rfl ?_
                  refine x_getR fl_W_70 rfl dW_promisesBy_118 rfl rfl rfl ?_
                  refine x_getR fl_W_346 rfl dW_promisesBy_121 rfl rfl rfl ?_
                  refine x_astore_9 dW_promisesBy_124 rfl rfl ?_
                  refine x_aload_n dW_promisesBy_126 rfl ?_
                  refine x_aload dW_promisesBy_127 rfl ?_
                  refine x_iload dW_promisesBy_129 rfl ?_
                  refine x_ialdJ (j := i * 40 + a + 4 * k) dW_promisesBy_131 rfl rfl (by first | rfl | (simp only [← nI_add, ← pk_mul]; rfl)) (by omega) ?_
                  refine x_aload dW_promisesBy_132 rfl ?_
                  refine x_iload dW_promisesBy_134 rfl ?_
                  refine x_iconst (v := 1) dW_promisesBy_136 rfl ?_
                  refine x_iadd dW_promisesBy_137 ?_
                  refine x_ialdJ (j := i * 40 + a + 4 * k + 1) dW_promisesBy_138 rfl rfl (by first | rfl | (simp only [← nI_add, ← pk_mul]; rfl)) (by omega) ?_
                  refine x_aload dW_promisesBy_139 rfl ?_
                  refine x_iload dW_promisesBy_141 rfl ?_
                  refine x_iconst (v := 2) dW_promisesBy_143 rfl ?_
                  refine x_iadd dW_promisesBy_144 ?_
                  refine x_ialdJ (j := i * 40 + a + 4 * k + 2) dW_promisesBy_145 rfl rfl (by first | rfl | (simp only [← nI_add, ← pk_mul]; rfl)) (by omega) ?_
                  refine x_aload dW_promisesBy_146 rfl ?_
                  refine x_iload dW_promisesBy_148 rfl ?_
                  refine x_iconst (v := 3) dW_promisesBy_150 rfl ?_
                  refine x_iadd dW_promisesBy_151 ?_
                  refine x_ialdJ (j := i * 40 + a + 4 * k + 3) dW_promisesBy_152 rfl rfl (by first | rfl | (simp only [← nI_add, ← pk_mul]; rfl)) (by omega) ?_
                  -- at 153: .invokevirtual 355
                  refine x_callV_4 c_W_promise ok_W_promise ml_W_355 dW_promisesBy_153 rfl rfl rfl rfl rfl ?_
                  refine ⟨_, _, _, _, rfl, rfl, ok, fun I' st' e' => ?_⟩
                  have ok' : cOk I' := by
                    unfold cOk
                    rw [e']
                    exact Inv_promise ok _ _ _ _
                  have st2 : ∀ k, 59 ≤ k → I' k = I0 k := fun k hk => (st' k hk).trans (st k hk)
                  refine x_if_lt (tgt := 162) dW_promisesBy_156 (by decide) (fun d1 => ?_) (fun d1 => ?_)
                  · have d1 : promiseS (cE I) (cE I 28 (i * 40 + a + 4 * k)) (cE I 28 (i * 40 + a + 4 * k + 1)) (cE I 28 (i * 40 + a + 4 * k + 2)) (cE I 28 (i * 40 + a + 4 * k + 3)) < 0 := d1
                    refine x_iincp_6 dW_promisesBy_162 rfl rfl ?_
                    refine x_goto (tgt := 68) dW_promisesBy_165 (by decide) ?_
                    -- at 68: .iload 6
                    rw [nI_1]
                    refine ih (k + 1) I' _ _ _ _ (by omega) ok' st2 ?_
                    rw [e']
                    rw [if_neg (Int32.not_le.mpr d1)] at hcc
                    exact hcc
                  · have d1 : ¬ promiseS (cE I) (cE I 28 (i * 40 + a + 4 * k)) (cE I 28 (i * 40 + a + 4 * k + 1)) (cE I 28 (i * 40 + a + 4 * k + 2)) (cE I 28 (i * 40 + a + 4 * k + 3)) < 0 := d1
                    refine x_iincp_5 dW_promisesBy_159 rfl rfl ?_
                    refine x_iincp_6 dW_promisesBy_162 rfl rfl ?_
                    refine x_goto (tgt := 68) dW_promisesBy_165 (by decide) ?_
                    -- at 68: .iload 6
                    rw [nI_1]
                    refine ih (k + 1) I' _ _ _ _ (by omega) ok' st2 ?_
                    rw [e']
                    rw [if_pos (Int32.not_lt.mp d1)] at hcc
                    exact hcc
                · have g : ¬ inR a0 0 (nI z - 4 - 4 * nI k) := g
                  refine x_if_ne (tgt := 106) dW_promisesBy_100 (by decide) (fun h => absurd (by decide) h) (fun _ => ?_)
                  rw [if_pos g] at hcc
                  refine x_bipush (v := -12) dW_promisesBy_103 rfl ?_
                  -- at 105: .ireturn
                  refine x_ireturn dW_promisesBy_105 rfl rfl ?_
                  exact hcc I st rfl
            exact loop N 0 I0 0 _ _ _ (by omega) hok (fun _ _ => rfl) h1
          · have c5 : ¬ cE I0 26 i = so := c5
            rw [if_pos c5, if_pos c5] at h1
            refine x_bipush (v := -13) dW_promisesBy_59 rfl ?_
            -- at 61: .ireturn
            refine x_ireturn dW_promisesBy_61 rfl rfl ?_
            exact h1 I0 (fun _ _ => rfl) rfl
      · refine x_if_ne (tgt := 32) dW_promisesBy_26 (by decide) (fun h => absurd (by decide) h) (fun _ => ?_)
        exact bad (fun z => a3 z.2.2)
    · refine x_if_eq (tgt := 29) dW_promisesBy_15 (by decide) (fun _ => ?_) (fun h => absurd (by decide) h)
      exact bad (fun z => a2 z.2.1)
  · refine x_if_eq (tgt := 29) dW_promisesBy_6 (by decide) (fun _ => ?_) (fun h => absurd (by decide) h)
    exact bad (fun z => a1 z.1)
def takenS (E : IM) (i k : Int32) : Int32 := if ¬ inR k 0 6 then -2 else if ¬ inR i 0 15 then -12 else if i < 8 then (if ¬ inR i 0 (E 29 2 - 1) then -11 else if k = 6 then E 11 (cl i) else -13) else
  if ¬ inR (i - 8) 0 (E 29 1 - 1) then -11 else if k < 6 ∧ isU (E 2 (cl (i - 8))) k then i - 8 else -13
def sp_W_taken : SpT := fun as S I L Post => ∃ i k : Int32, cSp [.int i, .int k] (fun E => .int (takenS E i k)) (fun E => E) as S I L Post
set_option maxHeartbeats 4000000 in
set_option maxRecDepth 100000 in
theorem c_W_taken : Con mW_taken 4 0 0 sp_W_taken := by
  refine con_of_X rfl fun G as S I L Post hs => ?_
  obtain ⟨i, k, rfl, rfl, hok, h1⟩ := hs
  dsimp only at h1
  have h1 := h1 I (fun _ _ => rfl) rfl
  refine ⟨1, Nat.le_of_ble_eq_true rfl, ?_⟩
  show X mW_taken G _ S1 I L 0 [.ref 0, .int i, .int k, .null] [] Post
  obtain ⟨v1, v2, -⟩ := hok.vow
  obtain ⟨c1, c2, -⟩ := hok.ppl
  refine x_iload_n dW_taken_0 rfl ?_
  refine x_iconst (v := 0) dW_taken_1 rfl ?_
  refine x_bipush (v := 6) dW_taken_2 rfl ?_
  -- at 4: .invokestatic 101
  refine x_callS_3 c_W_within ok_W_within ml_W_101 dW_taken_4 rfl rfl ?_
  refine ⟨_, _, _, rfl, fun a1 => ?_, fun a1 => ?_⟩
  · have a1 : inR k 0 6 := a1
    refine x_if_ne (tgt := 13) dW_taken_7 (by decide) (fun _ => ?_) (fun h => absurd h (by decide))
    rw [takenS, if_neg (not_not_intro a1)] at h1
    refine x_iload_n dW_taken_13 rfl ?_
    refine x_iconst (v := 0) dW_taken_14 rfl ?_
    refine x_bipush (v := 15) dW_taken_15 rfl ?_
    -- at 17: .invokestatic 101
    refine x_callS_3 c_W_within ok_W_within ml_W_101 dW_taken_17 rfl rfl ?_
    refine ⟨_, _, _, rfl, fun a2 => ?_, fun a2 => ?_⟩
    · have a2 : inR i 0 15 := a2
      refine x_if_ne (tgt := 26) dW_taken_20 (by decide) (fun _ => ?_) (fun h => absurd h (by decide))
      rw [if_neg (not_not_intro a2)] at h1
      refine x_iload_n dW_taken_26 rfl ?_
      refine x_bipush (v := 8) dW_taken_27 rfl ?_
      -- at 29: .if_icmp .ge 40
      refine x_icmp_ge (tgt := 69) dW_taken_29 (by decide) (fun c3 => ?_) (fun c3 => ?_)
      · rw [if_neg (Int32.not_lt.mpr c3)] at h1
        refine x_iload_n dW_taken_69 rfl ?_
        refine x_bipush (v := 8) dW_taken_70 rfl ?_
        refine x_isub dW_taken_72 ?_
        refine x_istoren_3 dW_taken_73 rfl rfl ?_
        refine x_aload_n dW_taken_74 rfl ?_
        refine x_getR fl_W_19 rfl dW_taken_75 rfl rfl rfl ?_
        refine x_iload_n dW_taken_78 rfl ?_
        -- at 79: .invokevirtual 143
        refine x_callV_1 c_Folk_has ok_Folk_has ml_W_143 dW_taken_79 rfl rfl rfl rfl rfl ?_
        refine ⟨_, rfl, rfl, fun a4 => ?_, fun a4 => ?_⟩
        · have a4 : inR (i - 8) 0 (cE I 29 1 - 1) := a4
          refine x_if_ne (tgt := 88) dW_taken_82 (by decide) (fun _ => ?_) (fun h => absurd h (by decide))
          rw [if_neg (not_not_intro a4)] at h1
          rw [show cE I 29 1 = nI (pN (cE I)) from c1] at a4
          obtain ⟨p, hp, ep⟩ := has_nat (by omega) a4
          rw [ep, cl_nI (by omega)] at h1
          rw [ep]
          refine x_iload_n dW_taken_88 rfl ?_
          refine x_bipush (v := 6) dW_taken_89 rfl ?_
          -- at 91: .if_icmp .ge 19
          obtain ⟨kk, hkk, ek⟩ := (hok.1.2.2 p hp).1
          refine x_icmp_ge (tgt := 110) dW_taken_91 (by decide) (fun c5 => ?_) (fun c5 => ?_)
          · rw [if_neg (fun z => absurd z.1 (Int32.not_lt.mpr c5))] at h1
            refine x_bipush (v := -13) dW_taken_110 rfl ?_
            -- at 112: .ireturn
            refine x_ireturn dW_taken_112 rfl rfl ?_
            exact h1
          · have c5 : k < 6 := Int32.not_le.mp c5
            refine x_aload_n dW_taken_94 rfl ?_
            refine x_getR fl_W_19 rfl dW_taken_95 rfl rfl rfl ?_
            refine x_iload_n dW_taken_98 rfl ?_
            refine x_iload_n dW_taken_99 rfl ?_
            -- at 100: .invokevirtual 358
            refine x_callV_2 c_Folk_isA ok_Folk_isA ml_W_358 dW_taken_100 rfl rfl rfl rfl rfl ?_
            refine ⟨p, kk, k, rfl, rfl, by omega, ek, hkk, fun z => absurd a1.1 (by rw [z]; decide), fun g => ?_, fun g => ?_⟩
            · rw [← ek] at g
              rw [if_pos ⟨c5, g⟩] at h1
              refine x_if_eq (tgt := 110) dW_taken_103 (by decide) (fun h => absurd h (by decide)) (fun _ => ?_)
              refine x_iload_n dW_taken_106 rfl ?_
              refine x_goto (tgt := 112) dW_taken_107 (by decide) ?_
              -- at 112: .ireturn
              refine x_ireturn dW_taken_112 rfl rfl ?_
              exact h1
            · rw [← ek] at g
              rw [if_neg (fun z => g z.2)] at h1
              refine x_if_eq (tgt := 110) dW_taken_103 (by decide) (fun _ => ?_) (fun h => absurd (by decide) h)
              refine x_bipush (v := -13) dW_taken_110 rfl ?_
              -- at 112: .ireturn
              refine x_ireturn dW_taken_112 rfl rfl ?_
              exact h1
        · have a4 : ¬ inR (i - 8) 0 (cE I 29 1 - 1) := a4
          refine x_if_ne (tgt := 88) dW_taken_82 (by decide) (fun h => absurd (by decide) h) (fun _ => ?_)
          rw [if_pos a4] at h1
          refine x_bipush (v := -11) dW_taken_85 rfl ?_
          -- at 87: .ireturn
          refine x_ireturn dW_taken_87 rfl rfl ?_
          exact h1
      · rw [if_pos (Int32.not_le.mp c3)] at h1
        refine x_aload_n dW_taken_32 rfl ?_
        refine x_getR fl_W_26 rfl dW_taken_33 rfl rfl rfl ?_
        refine x_iload_n dW_taken_36 rfl ?_
        -- at 37: .invokevirtual 174
        refine x_callV_1 c_Vows_has ok_Vows_has ml_W_174 dW_taken_37 rfl rfl rfl rfl rfl ?_
        refine ⟨_, rfl, rfl, fun a4 => ?_, fun a4 => ?_⟩
        · have a4 : inR i 0 (cE I 29 2 - 1) := a4
          refine x_if_ne (tgt := 48) dW_taken_40 (by decide) (fun _ => ?_) (fun h => absurd h (by decide))
          rw [if_neg (not_not_intro a4)] at h1
          rw [show cE I 29 2 = nI (qN (cE I)) from v1] at a4
          obtain ⟨q, hq, rfl⟩ := has_nat (by omega) a4
          rw [cl_nI (by omega)] at h1
          refine x_iload_n dW_taken_48 rfl ?_
          refine x_bipush (v := 6) dW_taken_49 rfl ?_
          -- at 51: .if_icmp .ne 15
          refine x_icmp_ne (tgt := 66) dW_taken_51 (by decide) (fun c5 => ?_) (fun c5 => ?_)
          · rw [if_neg c5] at h1
            refine x_bipush (v := -13) dW_taken_66 rfl ?_
            -- at 68: .ireturn
            refine x_ireturn dW_taken_68 rfl rfl ?_
            exact h1
          · rw [if_pos c5] at h1
            refine x_aload_n dW_taken_54 rfl ?_
            refine x_getR fl_W_26 rfl dW_taken_55 rfl rfl rfl ?_
            refine x_getR fl_W_178 rfl dW_taken_58 rfl rfl rfl ?_
            refine x_iload_n dW_taken_61 rfl ?_
            refine x_ialdJ (j := q) dW_taken_62 rfl rfl (by first | rfl | (simp only [← nI_add, ← pk_mul]; rfl)) (by omega) ?_
            refine x_goto (tgt := 68) dW_taken_63 (by decide) ?_
            -- at 68: .ireturn
            refine x_ireturn dW_taken_68 rfl rfl ?_
            exact h1
        · have a4 : ¬ inR i 0 (cE I 29 2 - 1) := a4
          refine x_if_ne (tgt := 48) dW_taken_40 (by decide) (fun h => absurd (by decide) h) (fun _ => ?_)
          rw [if_pos a4] at h1
          refine x_bipush (v := -11) dW_taken_43 rfl ?_
          refine x_goto (tgt := 68) dW_taken_45 (by decide) ?_
          -- at 68: .ireturn
          refine x_ireturn dW_taken_68 rfl rfl ?_
          exact h1
    · have a2 : ¬ inR i 0 15 := a2
      refine x_if_ne (tgt := 26) dW_taken_20 (by decide) (fun h => absurd (by decide) h) (fun _ => ?_)
      rw [if_pos a2] at h1
      refine x_bipush (v := -12) dW_taken_23 rfl ?_
      -- at 25: .ireturn
      refine x_ireturn dW_taken_25 rfl rfl ?_
      exact h1
  · have a1 : ¬ inR k 0 6 := a1
    refine x_if_ne (tgt := 13) dW_taken_7 (by decide) (fun h => absurd (by decide) h) (fun _ => ?_)
    rw [takenS, if_pos a1] at h1
    refine x_bipush (v := -2) dW_taken_10 rfl ?_
    -- at 12: .ireturn
    refine x_ireturn dW_taken_12 rfl rfl ?_
    exact h1
