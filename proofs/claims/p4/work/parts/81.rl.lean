/-! the reference: a text is read -/
abbrev srtP (s : Int32) : Prop := s = 0 ∨ s = 1 ∨ s = 2 ∨ s = 3 ∨ s = 4 ∨ s = 5 ∨ s = 6 ∨ s = 7 ∨ s = 8 ∨ s = 9 ∨ isSig s
theorem kindW_srt (w : List Int32) : srtP (kindW w).1 := by
  by_cases h : ∃ i, i < 12 ∧ w = Wd i
  · obtain ⟨i, hi, rfl⟩ := h
    rw [kindW_i i hi]
    rcases (show i = 0 ∨ i = 1 ∨ i = 2 ∨ i = 3 ∨ i = 4 ∨ i = 5 ∨ i = 6 ∨ i = 7 ∨ i = 8 ∨ i = 9 ∨ i = 10 ∨ i = 11 by omega) with rfl | rfl | rfl | rfl | rfl | rfl | rfl | rfl | rfl | rfl | rfl | rfl <;> decide
  · rw [kindW_no (fun i hi e => h ⟨i, hi, e⟩)]
    exact Or.inr (Or.inl rfl)
theorem tokAt_srt (f : Nat → Int32) (z a : Nat) : srtP (tokAt f z a).1.1 := by
  unfold tokAt
  split
  · exact kindW_srt _
  · split
    · split
      · exact Or.inr (Or.inl rfl)
      · exact Or.inr (Or.inr (Or.inl rfl))
    · by_cases h : isSig (f a)
      · rw [if_pos h]
        exact Or.inr (Or.inr (Or.inr (Or.inr (Or.inr (Or.inr (Or.inr (Or.inr (Or.inr (Or.inr h)))))))))
      · rw [if_neg h]
        exact Or.inr (Or.inl rfl)
/-- the first token from a byte on -/
theorem tokS_hd (f : Nat → Int32) (z : Nat) : ∀ (n a : Nat), z - a ≤ n → ∀ t T, tokS f z a = t :: T → srtP t.1 ∧ TokOk t ∧ (¬ t.1 = 0 → a < z) ∧ (t.1 = 0 → T = []) := by
  have end_ : ∀ a t T, ¬ a < z → tokS f z a = t :: T → srtP t.1 ∧ TokOk t ∧ (¬ t.1 = 0 → a < z) ∧ (t.1 = 0 → T = []) := by
    intro a t T ha h
    rw [tokS_end ha] at h
    injection h with h1 h2
    subst h1
    exact ⟨Or.inl rfl, TokOk_1 z (Or.inl rfl), fun y => absurd rfl y, fun _ => h2.symm⟩
  intro n
  induction n with
  | zero =>
    intro a h t T hT
    exact end_ a t T (by omega) hT
  | succ n ih =>
    intro a h t T hT
    by_cases ha : a < z
    · by_cases hb : isBla (f a)
      · rw [tokS_bla ha hb] at hT
        obtain ⟨i1, i2, i3, i4⟩ := ih (a + 1) (by omega) t T hT
        exact ⟨i1, i2, fun _ => ha, i4⟩
      · rw [tokS_tok ha hb] at hT
        injection hT with h1 h2
        subst h1
        obtain ⟨k1, k2⟩ := tokAt_ok (f := f) ha
        exact ⟨tokAt_srt f z a, k1, fun _ => ha, fun y => absurd y k2⟩
    · exact end_ a t T ha hT
def sp_R_signOf : SpT := fun as S I L Post => ∃ s : Int32, as = [.ref 59] ∧ S = S1 ∧ srtP s ∧ I 59 46 = rtok s ∧ Post (some (.int (sgn s))) S1 I L
set_option maxHeartbeats 4000000 in
set_option maxRecDepth 100000 in
theorem c_R_signOf : Con mR_signOf 2 0 0 sp_R_signOf := by
  refine con_of_X rfl fun G as S I L Post hs => ?_
  obtain ⟨s, rfl, rfl, hs, ht, h1⟩ := hs
  refine ⟨0, Nat.le_of_ble_eq_true rfl, ?_⟩
  show X mR_signOf G _ S1 I L 0 [.ref 59] [] Post
  have fin : ∀ x : Int32, sgn s = x → X mR_signOf G (2, 0, 0) S1 I L 97 [.ref 59] [.int x] Post := by
    intro x hx
    refine x_ireturn dR_signOf_97 rfl rfl ?_
    rw [← hx]
    exact h1
  have cs : ∀ P : Int32 → Prop, P 0 → P 1 → P 2 → P 3 → P 4 → P 5 → P 6 → P 7 → P 8 → P 9 → P 40 → P 41 → P 59 → P 43 → P 45 → P 42 → P 60 → P 61 → P s := by
    intro P p0 p1 p2 p3 p4 p5 p6 p7 p8 p9 q0 q1 q2 q3 q4 q5 q6 q7
    rcases hs with rfl | rfl | rfl | rfl | rfl | rfl | rfl | rfl | rfl | rfl | rfl | rfl | rfl | rfl | rfl | rfl | rfl | rfl <;> assumption
  refine x_aload_n dR_signOf_0 rfl ?_
  refine x_getI fl_R_177 rfl dR_signOf_1 rfl rfl ?_
  refine x_iconst (v := 4) dR_signOf_4 rfl ?_
  -- at 5: .if_icmp .ne 8
  rw [ht]
  refine x_icmp_ne (tgt := 13) dR_signOf_5 (by decide) (fun c1 => ?_) (fun c1 => ?_)
  · refine x_aload_n dR_signOf_13 rfl ?_
    refine x_getI fl_R_177 rfl dR_signOf_14 rfl rfl ?_
    refine x_iconst (v := 5) dR_signOf_17 rfl ?_
    -- at 18: .if_icmp .ne 8
    rw [ht]
    refine x_icmp_ne (tgt := 26) dR_signOf_18 (by decide) (fun c2 => ?_) (fun c2 => ?_)
    · refine x_aload_n dR_signOf_26 rfl ?_
      refine x_getI fl_R_177 rfl dR_signOf_27 rfl rfl ?_
      refine x_bipush (v := 60) dR_signOf_30 rfl ?_
      -- at 32: .if_icmp .ne 8
      rw [ht]
      refine x_icmp_ne (tgt := 40) dR_signOf_32 (by decide) (fun c3 => ?_) (fun c3 => ?_)
      · refine x_aload_n dR_signOf_40 rfl ?_
        refine x_getI fl_R_177 rfl dR_signOf_41 rfl rfl ?_
        refine x_bipush (v := 61) dR_signOf_44 rfl ?_
        -- at 46: .if_icmp .ne 8
        rw [ht]
        refine x_icmp_ne (tgt := 54) dR_signOf_46 (by decide) (fun c4 => ?_) (fun c4 => ?_)
        · refine x_aload_n dR_signOf_54 rfl ?_
          refine x_getI fl_R_177 rfl dR_signOf_55 rfl rfl ?_
          refine x_bipush (v := 43) dR_signOf_58 rfl ?_
          -- at 60: .if_icmp .ne 8
          rw [ht]
          refine x_icmp_ne (tgt := 68) dR_signOf_60 (by decide) (fun c5 => ?_) (fun c5 => ?_)
          · refine x_aload_n dR_signOf_68 rfl ?_
            refine x_getI fl_R_177 rfl dR_signOf_69 rfl rfl ?_
            refine x_bipush (v := 45) dR_signOf_72 rfl ?_
            -- at 74: .if_icmp .ne 8
            rw [ht]
            refine x_icmp_ne (tgt := 82) dR_signOf_74 (by decide) (fun c6 => ?_) (fun c6 => ?_)
            · refine x_aload_n dR_signOf_82 rfl ?_
              refine x_getI fl_R_177 rfl dR_signOf_83 rfl rfl ?_
              refine x_bipush (v := 42) dR_signOf_86 rfl ?_
              -- at 88: .if_icmp .ne 8
              rw [ht]
              refine x_icmp_ne (tgt := 96) dR_signOf_88 (by decide) (fun c7 => ?_) (fun c7 => ?_)
              · refine x_iconst (v := -1) dR_signOf_96 rfl ?_
                -- at 97: .ireturn
                refine fin _ ?_
                have cc : ¬ (rtok s = 4 ∨ rtok s = 5 ∨ rtok s = 60 ∨ rtok s = 61 ∨ rtok s = 43 ∨ rtok s = 45 ∨ rtok s = 42) := by
                  rintro (y | y | y | y | y | y | y)
                  · exact c1 y
                  · exact c2 y
                  · exact c3 y
                  · exact c4 y
                  · exact c5 y
                  · exact c6 y
                  · exact c7 y
                revert cc
                refine cs (fun s => ¬ (rtok s = 4 ∨ rtok s = 5 ∨ rtok s = 60 ∨ rtok s = 61 ∨ rtok s = 43 ∨ rtok s = 45 ∨ rtok s = 42) → sgn s = -1) ?_ ?_ ?_ ?_ ?_ ?_ ?_ ?_ ?_ ?_ ?_ ?_ ?_ ?_ ?_ ?_ ?_ ?_ <;> decide
              · refine x_bipush (v := 18) dR_signOf_91 rfl ?_
                refine x_goto (tgt := 97) dR_signOf_93 (by decide) ?_
                -- at 97: .ireturn
                refine fin _ ?_
                revert c7
                refine cs (fun s => rtok s = 42 → sgn s = 18) ?_ ?_ ?_ ?_ ?_ ?_ ?_ ?_ ?_ ?_ ?_ ?_ ?_ ?_ ?_ ?_ ?_ ?_ <;> decide
            · refine x_bipush (v := 17) dR_signOf_77 rfl ?_
              refine x_goto (tgt := 97) dR_signOf_79 (by decide) ?_
              -- at 97: .ireturn
              refine fin _ ?_
              revert c6
              refine cs (fun s => rtok s = 45 → sgn s = 17) ?_ ?_ ?_ ?_ ?_ ?_ ?_ ?_ ?_ ?_ ?_ ?_ ?_ ?_ ?_ ?_ ?_ ?_ <;> decide
          · refine x_bipush (v := 16) dR_signOf_63 rfl ?_
            refine x_goto (tgt := 97) dR_signOf_65 (by decide) ?_
            -- at 97: .ireturn
            refine fin _ ?_
            revert c5
            refine cs (fun s => rtok s = 43 → sgn s = 16) ?_ ?_ ?_ ?_ ?_ ?_ ?_ ?_ ?_ ?_ ?_ ?_ ?_ ?_ ?_ ?_ ?_ ?_ <;> decide
        · refine x_bipush (v := 15) dR_signOf_49 rfl ?_
          refine x_goto (tgt := 97) dR_signOf_51 (by decide) ?_
          -- at 97: .ireturn
          refine fin _ ?_
          revert c4
          refine cs (fun s => rtok s = 61 → sgn s = 15) ?_ ?_ ?_ ?_ ?_ ?_ ?_ ?_ ?_ ?_ ?_ ?_ ?_ ?_ ?_ ?_ ?_ ?_ <;> decide
      · refine x_bipush (v := 14) dR_signOf_35 rfl ?_
        refine x_goto (tgt := 97) dR_signOf_37 (by decide) ?_
        -- at 97: .ireturn
        refine fin _ ?_
        revert c3
        refine cs (fun s => rtok s = 60 → sgn s = 14) ?_ ?_ ?_ ?_ ?_ ?_ ?_ ?_ ?_ ?_ ?_ ?_ ?_ ?_ ?_ ?_ ?_ ?_ <;> decide
    · refine x_bipush (v := 12) dR_signOf_21 rfl ?_
      refine x_goto (tgt := 97) dR_signOf_23 (by decide) ?_
      -- at 97: .ireturn
      refine fin _ ?_
      revert c2
      refine cs (fun s => rtok s = 5 → sgn s = 12) ?_ ?_ ?_ ?_ ?_ ?_ ?_ ?_ ?_ ?_ ?_ ?_ ?_ ?_ ?_ ?_ ?_ ?_ <;> decide
  · refine x_bipush (v := 11) dR_signOf_8 rfl ?_
    refine x_goto (tgt := 97) dR_signOf_10 (by decide) ?_
    -- at 97: .ireturn
    refine fin _ ?_
    revert c1
    refine cs (fun s => rtok s = 4 → sgn s = 11) ?_ ?_ ?_ ?_ ?_ ?_ ?_ ?_ ?_ ?_ ?_ ?_ ?_ ?_ ?_ ?_ ?_ ?_ <;> decide

theorem srt_all {s : Int32} (hs : srtP s) (P : Int32 → Prop) (p0 : P 0) (p1 : P 1) (p2 : P 2) (p3 : P 3) (p4 : P 4) (p5 : P 5) (p6 : P 6) (p7 : P 7) (p8 : P 8) (p9 : P 9) (q0 : P 40) (q1 : P 41) (q2 : P 59) (q3 : P 43) (q4 : P 45) (q5 : P 42) (q6 : P 60) (q7 : P 61) : P s := by
  rcases hs with rfl | rfl | rfl | rfl | rfl | rfl | rfl | rfl | rfl | rfl | rfl | rfl | rfl | rfl | rfl | rfl | rfl | rfl <;> assumption
theorem rt_1 {s : Int32} (hs : srtP s) : rtok s = 1 ↔ s = 2 := srt_all hs (fun s => rtok s = 1 ↔ s = 2) (by decide) (by decide) (by decide) (by decide) (by decide) (by decide) (by decide) (by decide) (by decide) (by decide) (by decide) (by decide) (by decide) (by decide) (by decide) (by decide) (by decide) (by decide)
theorem rt_2 {s : Int32} (hs : srtP s) : rtok s = 2 ↔ s = 3 := srt_all hs (fun s => rtok s = 2 ↔ s = 3) (by decide) (by decide) (by decide) (by decide) (by decide) (by decide) (by decide) (by decide) (by decide) (by decide) (by decide) (by decide) (by decide) (by decide) (by decide) (by decide) (by decide) (by decide)
theorem rt_6 {s : Int32} (hs : srtP s) : rtok s = 6 ↔ s = 9 := srt_all hs (fun s => rtok s = 6 ↔ s = 9) (by decide) (by decide) (by decide) (by decide) (by decide) (by decide) (by decide) (by decide) (by decide) (by decide) (by decide) (by decide) (by decide) (by decide) (by decide) (by decide) (by decide) (by decide)
theorem rt_45 {s : Int32} (hs : srtP s) : rtok s = 45 ↔ s = 45 := srt_all hs (fun s => rtok s = 45 ↔ s = 45) (by decide) (by decide) (by decide) (by decide) (by decide) (by decide) (by decide) (by decide) (by decide) (by decide) (by decide) (by decide) (by decide) (by decide) (by decide) (by decide) (by decide) (by decide)
theorem rt_40 {s : Int32} (hs : srtP s) : rtok s = 40 ↔ s = 40 := srt_all hs (fun s => rtok s = 40 ↔ s = 40) (by decide) (by decide) (by decide) (by decide) (by decide) (by decide) (by decide) (by decide) (by decide) (by decide) (by decide) (by decide) (by decide) (by decide) (by decide) (by decide) (by decide) (by decide)
theorem rt_59 {s : Int32} (hs : srtP s) : rtok s = 59 ↔ s = 59 := srt_all hs (fun s => rtok s = 59 ↔ s = 59) (by decide) (by decide) (by decide) (by decide) (by decide) (by decide) (by decide) (by decide) (by decide) (by decide) (by decide) (by decide) (by decide) (by decide) (by decide) (by decide) (by decide) (by decide)
theorem rt_41 {s : Int32} (hs : srtP s) : rtok s = 41 ↔ s = 41 := srt_all hs (fun s => rtok s = 41 ↔ s = 41) (by decide) (by decide) (by decide) (by decide) (by decide) (by decide) (by decide) (by decide) (by decide) (by decide) (by decide) (by decide) (by decide) (by decide) (by decide) (by decide) (by decide) (by decide)
theorem rank_0 {c : Int32} (h : hcP c) (hr : rank c < 1) : c = 0 := by
  rcases h with rfl | rfl | rfl | rfl | rfl | rfl | rfl | rfl | rfl | rfl
  · rfl
  all_goals exact absurd hr (by decide)
theorem unw_top (r : Nat) : ∀ (h o : List Int32) (c : Int32) (t : List Int32), (unw r h o).1 = c :: t → rank c < r := by
  intro h
  induction h with
  | nil => intro o c t e; exact absurd e (by simp [unw])
  | cons x xs ih =>
    intro o c t e
    rw [unw] at e
    split at e
    · exact ih _ c t e
    · rename_i hx
      injection e with e1 e2
      subst e1
      omega
theorem sgn_bc {s : Int32} (h : ¬ sgn s = -1) : bcP (sgn s) := by
  rcases sgn_ne h with rfl | rfl | rfl | rfl | rfl | rfl | rfl <;> decide
def sp_R_eRead : SpT := fun as S I L Post => ∃ a z t a0 : Nat, as = [.ref 59] ∧ S = S1 ∧ I 59 44 = nI a ∧ a ≤ z ∧ z ≤ 160 ∧ I 59 23 = nI z ∧ (∀ k, k < 96 → I 92 k = wordsL.getD k 0) ∧ I 59 26 = nI t ∧ t < 6 ∧ I 59 52 = nI a0 ∧ a0 + (tokS (I 78) z a).length ≤ z + 1 ∧
  (∀ (x : Nat) (I' : IM), sy (tokS (I 78) z a) true true [] [] = .inl x → FrT t a0 I I' → I' 59 45 = nI x → Post (some (.int 0)) S1 I' L) ∧
  (∀ (C : List Int32) (I' : IM) (a' : Nat), sy (tokS (I 78) z a) true true [] [] = .inr (C, tokS (I 78) z a') → FrT t a0 I I' → I' 59 44 = nI a' → a' ≤ z → I' 59 52 = nI (a0 + C.length) → Outs (I' 79) t a0 C → a0 + C.length + (tokS (I 78) z a').length ≤ z + 1 → Post (some (.int 1)) S1 I' L)
set_option maxHeartbeats 4000000 in
set_option maxRecDepth 100000 in
theorem c_R_eRead : Con mR_eRead 5 0 0 sp_R_eRead := by
  refine con_of_X rfl fun G as S I L Post hs => ?_
  obtain ⟨a, z, t, a0, rfl, rfl, hat, haz, hz, htz, hw, htx, ht6, hout, hlen, h1, h2⟩ := hs
  refine ⟨3, Nat.le_of_ble_eq_true rfl, ?_⟩
  show X mR_eRead G _ S1 I L 0 [.ref 59, .null, .null, .null] [] Post
  have loop : ∀ (n a : Nat) (w m : Bool) (h o : List Int32) (I' : IM) (i2 : Int32) (i3 : Value), (tokS (I 78) z a).length ≤ n → cat1at [i3] 1 = true → (w = true → i2 = if m then 1 else 0) → a ≤ z → I' 59 44 = nI a → FrT t a0 I I' → RS I' t a0 h o → a0 + o.length + h.length + (tokS (I 78) z a).length ≤ z + 1 → cnt h ≤ 5 → sy (tokS (I 78) z a) w m h o = sy (tokS (I 78) z a) w m h o → (w = false → m = false) →
      (∀ (x : Nat) (I' : IM), sy (tokS (I 78) z a) w m h o = .inl x → FrT t a0 I I' → I' 59 45 = nI x → Post (some (.int 0)) S1 I' L) →
      (∀ (C : List Int32) (I' : IM) (a' : Nat), sy (tokS (I 78) z a) w m h o = .inr (C, tokS (I 78) z a') → FrT t a0 I I' → I' 59 44 = nI a' → a' ≤ z → I' 59 52 = nI (a0 + C.length) → Outs (I' 79) t a0 C → a0 + C.length + (tokS (I 78) z a').length ≤ z + 1 → Post (some (.int 1)) S1 I' L) →
      X mR_eRead G (5, 0, 0) S1 I' L 14 [.ref 59, .int (if w then 1 else 0), .int i2, i3] [] Post := by
    intro n
    induction n with
    | zero =>
      intro a w m h o I' i2 i3 hn
      have := (tokS_good (I 78) z (z - a) a (Nat.le_refl _)).1.1
      omega
    | succ n ih =>
      intro a w m h o I' i2 i3 hn q3 hi2 haz hat hF hrs hlen hc5 _ hwm no yes
      have f78 : I' 78 = I 78 := hF.1 78 (by decide) (by decide) (by decide)
      refine x_aload_n dR_eRead_14 rfl ?_
      -- at 15: .invokevirtual 209
      refine x_callV_0 c_R_next ok_R_next ml_R_209 dR_eRead_15 rfl rfl rfl rfl rfl ?_
      refine ⟨a, z, rfl, rfl, hat, haz, hz, (hF.2.1 23 (by decide)).trans htz, fun k hk => by rw [hF.1 92 (by decide) (by decide) (by decide)]; exact hw k hk, fun I1 a' tk T hT hFN hat1 haz1 htok hTT => ?_⟩
      rw [f78] at hT hTT
      obtain ⟨s1, s2, s3, s4⟩ := tokS_hd (I 78) z (z - a) a (Nat.le_refl _) tk T hT
      have hF1 : FrT t a0 I I1 := hF.tr (FrT.ofN hFN)
      have hrs1 := hrs.ofN hFN
      obtain ⟨t1, t2, t3, t4, t5, t6⟩ := htok
      rw [hT] at no yes hlen hn
      rw [List.length_cons] at hlen hn
      -- a refusal here
      have rf : ∀ (I2 : IM), sy (tk :: T) w m h o = .inl tk.2.1 → FrT t a0 I1 I2 → tokSame I1 I2 → Post (some (.int 0)) S1 I2 L := fun I2 e hF2 hts => no _ I2 e (hF1.tr hF2) (by rw [hts 45 (by decide)]; exact t6)
      have Tlen : ¬ tk.1 = 0 → 1 ≤ T.length := fun y => by
        rw [hTT y]
        exact (tokS_good (I 78) z (z - a') a' (Nat.le_refl _)).1.1
      -- on to the next token
      have go : ∀ (w2 m2 : Bool) (h2 o2 : List Int32) (I2 : IM) (j2 : Int32) (j3 : Value), ¬ tk.1 = 0 → sy (tk :: T) w m h o = sy T w2 m2 h2 o2 → FrT t a0 I1 I2 → tokSame I1 I2 → RS I2 t a0 h2 o2 → o2.length + h2.length ≤ o.length + h.length + 1 → cnt h2 ≤ 5 → cat1at [j3] 1 = true → (w2 = true → j2 = if m2 then 1 else 0) → (w2 = false → m2 = false) → X mR_eRead G (5, 0, 0) S1 I2 L 14 [.ref 59, .int (if w2 then 1 else 0), .int j2, j3] [] Post := by
        intro w2 m2 h2 o2 I2 j2 j3 h0 e hF2 hts hrs2 hl2 hc2 q3 g2 g3
        rw [e, hTT h0] at no yes
        rw [hTT h0] at hlen hn
        exact ih a' w2 m2 h2 o2 I2 j2 j3 (by omega) q3 g2 haz1 (by rw [hts 44 (by decide)]; exact hat1) (hF1.tr hF2) hrs2 (by omega) hc2 rfl g3 no yes
      cases w with
      | true =>
        have hi2 := hi2 rfl
        refine x_iload_n dR_eRead_18 rfl ?_
        -- at 19: .ifCond .eq 131
        refine x_if_eq (tgt := 150) dR_eRead_19 (by decide) (fun h => absurd h (by decide)) (fun _ => ?_)
        -- a number or a name
        have lit : (tk.1 = 2 ∨ tk.1 = 3) → X mR_eRead G (5, 0, 0) S1 I1 L 38 [.ref 59, .int 1, .int i2, i3] [] Post := by
          intro hl
          have h0 : ¬ tk.1 = 0 := by rintro y; rw [y] at hl; exact absurd hl (by decide)
          have tail : X mR_eRead G (5, 0, 0) S1 I1 L 61 [.ref 59, .int 1, .int i2, i3] [.int (cod tk), .ref 59] Post := by
            refine x_callV_1 c_R_puts ok_R_puts ml_R_199 dR_eRead_61 rfl rfl rfl rfl rfl ?_
            refine ⟨cod tk, t, a0, h, o, rfl, rfl, hrs1, ht6, by omega, fun I2 hF2 hts2 hrs2 => ?_⟩
            refine x_aload_n dR_eRead_64 rfl ?_
            refine x_bipush (v := 7) dR_eRead_65 rfl ?_
            -- at 67: .invokevirtual 206
            refine x_callV_1 c_R_unwinds ok_R_unwinds ml_R_206 dR_eRead_67 rfl rfl rfl rfl rfl ?_
            refine ⟨7, t, a0, h, o ++ [cod tk], rfl, rfl, by omega, by omega, hrs2, ht6, by rw [List.length_append, List.length_singleton]; omega, fun I3 hF3 hts3 hrs3 => ?_⟩
            obtain ⟨l1, l2, l3⟩ := unw_len 7 h (o ++ [cod tk])
            rw [List.length_append, List.length_singleton] at l1
            refine x_iconst (v := 0) dR_eRead_70 rfl ?_
            refine x_istoren_1 dR_eRead_71 rfl rfl ?_
            refine x_goto (tgt := 14) dR_eRead_72 (by decide) ?_
            -- at 14: .aload_n 0
            exact go false false _ _ I3 i2 i3 h0 (sy_lit hl) (hF2.tr hF3) (fun j hj => (hts3 j hj).trans (hts2 j hj)) hrs3 (by omega) (by omega) q3 (fun y => absurd y (by decide)) (fun _ => rfl)
          refine x_aload_n dR_eRead_38 rfl ?_
          refine x_aload_n dR_eRead_39 rfl ?_
          refine x_getI fl_R_177 rfl dR_eRead_40 rfl rfl ?_
          refine x_iconst (v := 1) dR_eRead_43 rfl ?_
          -- at 44: .if_icmp .ne 13
          rw [t1]
          by_cases c1 : tk.1 = 2
          · refine x_icmp_ne (tgt := 57) dR_eRead_44 (by decide) (fun h => absurd ((rt_1 s1).mpr c1) h) (fun _ => ?_)
            refine x_ldc dR_eRead_47 cn_R_212 ?_
            refine x_aload_n dR_eRead_49 rfl ?_
            refine x_getI fl_R_180 rfl dR_eRead_50 rfl rfl ?_
            -- at 53: .iadd
            rw [t2 hl]
            refine x_iadd dR_eRead_53 ?_
            refine x_goto (tgt := 61) dR_eRead_54 (by decide) ?_
            -- at 61: .invokevirtual 199
            have e : cod tk = 100000 + tk.2.2 := by unfold cod; rw [if_pos c1]
            rw [e] at tail
            exact tail
          · refine x_icmp_ne (tgt := 57) dR_eRead_44 (by decide) (fun _ => ?_) (fun h => absurd h (fun y => c1 ((rt_1 s1).mp y)))
            refine x_aload_n dR_eRead_57 rfl ?_
            refine x_getI fl_R_180 rfl dR_eRead_58 rfl rfl ?_
            -- at 61: .invokevirtual 199
            rw [t2 hl]
            have e : cod tk = tk.2.2 := by unfold cod; rw [if_neg c1]
            rw [e] at tail
            exact tail
        refine x_aload_n dR_eRead_22 rfl ?_
        refine x_getI fl_R_177 rfl dR_eRead_23 rfl rfl ?_
        refine x_iconst (v := 1) dR_eRead_26 rfl ?_
        -- at 27: .if_icmp .eq 11
        rw [t1]
        by_cases c1 : tk.1 = 2
        · refine x_icmp_eq (tgt := 38) dR_eRead_27 (by decide) (fun _ => ?_) (fun h => absurd ((rt_1 s1).mpr c1) h)
          exact lit (Or.inl c1)
        refine x_icmp_eq (tgt := 38) dR_eRead_27 (by decide) (fun h => absurd h (fun y => c1 ((rt_1 s1).mp y))) (fun _ => ?_)
        refine x_aload_n dR_eRead_30 rfl ?_
        refine x_getI fl_R_177 rfl dR_eRead_31 rfl rfl ?_
        refine x_iconst (v := 2) dR_eRead_34 rfl ?_
        -- at 35: .if_icmp .ne 40
        rw [t1]
        by_cases c2 : tk.1 = 3
        · refine x_icmp_ne (tgt := 75) dR_eRead_35 (by decide) (fun h => absurd ((rt_2 s1).mpr c2) h) (fun _ => ?_)
          exact lit (Or.inr c2)
        refine x_icmp_ne (tgt := 75) dR_eRead_35 (by decide) (fun _ => ?_) (fun h => absurd h (fun y => c2 ((rt_2 s1).mp y)))
        -- after NOT
        have rest : ¬ (tk.1 = 9 ∧ m = true) → X mR_eRead G (5, 0, 0) S1 I1 L 99 [.ref 59, .int 1, .int i2, i3] [] Post := by
          intro h9
          refine x_aload_n dR_eRead_99 rfl ?_
          refine x_getI fl_R_177 rfl dR_eRead_100 rfl rfl ?_
          refine x_bipush (v := 45) dR_eRead_103 rfl ?_
          -- at 105: .if_icmp .ne 19
          rw [t1]
          by_cases c3 : tk.1 = 45
          · have h0 : ¬ tk.1 = 0 := by rw [c3]; decide
            have e := sy_neg (ts := T) (m := m) (h := h) (o := o) c3
            refine x_icmp_ne (tgt := 124) dR_eRead_105 (by decide) (fun h => absurd ((rt_45 s1).mpr c3) h) (fun _ => ?_)
            refine x_aload_n dR_eRead_108 rfl ?_
            refine x_bipush (v := 19) dR_eRead_109 rfl ?_
            -- at 111: .invokevirtual 213
            refine x_callV_1 c_R_opensOne ok_R_opensOne ml_R_213 dR_eRead_111 rfl rfl rfl rfl rfl ?_
            refine ⟨19, t, a0, h, o, rfl, rfl, by decide, hrs1, by have := Tlen h0; omega, hc5, fun g => ?_, fun g I2 hF2 hts2 hrs2 => ?_⟩
            · rw [if_neg g] at e
              refine x_if_ne (tgt := 119) dR_eRead_114 (by decide) (fun h => absurd rfl h) (fun _ => ?_)
              refine x_iconst (v := 0) dR_eRead_117 rfl ?_
              -- at 118: .ireturn
              refine x_ireturn dR_eRead_118 rfl rfl ?_
              exact rf I1 e FrT.rfl (fun _ _ => rfl)
            · rw [if_pos g] at e
              refine x_if_ne (tgt := 119) dR_eRead_114 (by decide) (fun _ => ?_) (fun h => absurd h (by decide))
              refine x_iconst (v := 0) dR_eRead_119 rfl ?_
              refine x_istoren_2 dR_eRead_120 rfl rfl ?_
              refine x_goto (tgt := 14) dR_eRead_121 (by decide) ?_
              -- at 14: .aload_n 0
              exact go true false (19 :: h) o I2 0 i3 h0 e hF2 hts2 hrs2 (by rw [List.length_cons]; omega) (by rw [cnt, if_pos (by decide)]; omega) q3 (fun _ => rfl) (fun y => absurd y (by decide))
          refine x_icmp_ne (tgt := 124) dR_eRead_105 (by decide) (fun _ => ?_) (fun h => absurd h (fun y => c3 ((rt_45 s1).mp y)))
          refine x_aload_n dR_eRead_124 rfl ?_
          refine x_getI fl_R_177 rfl dR_eRead_125 rfl rfl ?_
          refine x_bipush (v := 40) dR_eRead_128 rfl ?_
          -- at 130: .if_icmp .ne 18
          rw [t1]
          by_cases c4 : tk.1 = 40
          · have h0 : ¬ tk.1 = 0 := by rw [c4]; decide
            have e := sy_par (ts := T) (m := m) (h := h) (o := o) c4
            refine x_icmp_ne (tgt := 148) dR_eRead_130 (by decide) (fun h => absurd ((rt_40 s1).mpr c4) h) (fun _ => ?_)
            refine x_aload_n dR_eRead_133 rfl ?_
            refine x_iconst (v := 0) dR_eRead_134 rfl ?_
            -- at 135: .invokevirtual 213
            refine x_callV_1 c_R_opensOne ok_R_opensOne ml_R_213 dR_eRead_135 rfl rfl rfl rfl rfl ?_
            refine ⟨0, t, a0, h, o, rfl, rfl, by decide, hrs1, by have := Tlen h0; omega, hc5, fun g => ?_, fun g I2 hF2 hts2 hrs2 => ?_⟩
            · rw [if_neg g] at e
              refine x_if_ne (tgt := 143) dR_eRead_138 (by decide) (fun h => absurd rfl h) (fun _ => ?_)
              refine x_iconst (v := 0) dR_eRead_141 rfl ?_
              -- at 142: .ireturn
              refine x_ireturn dR_eRead_142 rfl rfl ?_
              exact rf I1 e FrT.rfl (fun _ _ => rfl)
            · rw [if_pos g] at e
              refine x_if_ne (tgt := 143) dR_eRead_138 (by decide) (fun _ => ?_) (fun h => absurd h (by decide))
              refine x_iconst (v := 1) dR_eRead_143 rfl ?_
              refine x_istoren_2 dR_eRead_144 rfl rfl ?_
              refine x_goto (tgt := 14) dR_eRead_145 (by decide) ?_
              -- at 14: .aload_n 0
              exact go true true (0 :: h) o I2 1 i3 h0 e hF2 hts2 hrs2 (by rw [List.length_cons]; omega) (by rw [cnt, if_pos (by decide)]; omega) q3 (fun _ => rfl) (fun y => absurd y (by decide))
          refine x_icmp_ne (tgt := 148) dR_eRead_130 (by decide) (fun _ => ?_) (fun h => absurd h (fun y => c4 ((rt_40 s1).mp y)))
          refine x_iconst (v := 0) dR_eRead_148 rfl ?_
          -- at 149: .ireturn
          refine x_ireturn dR_eRead_149 rfl rfl ?_
          refine rf I1 ?_ FrT.rfl (fun _ _ => rfl)
          cases m with
          | true => rw [sy_mn (fun y => h9 ⟨y, rfl⟩)]; exact sy_bad c1 c2 c3 c4
          | false => exact sy_bad c1 c2 c3 c4
        refine x_aload_n dR_eRead_75 rfl ?_
        refine x_getI fl_R_177 rfl dR_eRead_76 rfl rfl ?_
        refine x_bipush (v := 6) dR_eRead_79 rfl ?_
        -- at 81: .if_icmp .ne 18
        rw [t1]
        by_cases c9 : tk.1 = 9
        · have h0 : ¬ tk.1 = 0 := by rw [c9]; decide
          refine x_icmp_ne (tgt := 99) dR_eRead_81 (by decide) (fun h => absurd ((rt_6 s1).mpr c9) h) (fun _ => ?_)
          refine x_iload_n dR_eRead_84 rfl ?_
          -- at 85: .ifCond .eq 14
          cases m with
          | true =>
            have e := sy_not (ts := T) (h := h) (o := o) c9
            rw [hi2]
            refine x_if_eq (tgt := 99) dR_eRead_85 (by decide) (fun h => absurd h (by decide)) (fun _ => ?_)
            refine x_aload_n dR_eRead_88 rfl ?_
            refine x_bipush (v := 13) dR_eRead_89 rfl ?_
            -- at 91: .invokevirtual 213
            refine x_callV_1 c_R_opensOne ok_R_opensOne ml_R_213 dR_eRead_91 rfl rfl rfl rfl rfl ?_
            refine ⟨13, t, a0, h, o, rfl, rfl, by decide, hrs1, by have := Tlen h0; omega, hc5, fun g => ?_, fun g I2 hF2 hts2 hrs2 => ?_⟩
            · rw [if_neg g] at e
              refine x_if_ne (tgt := 14) dR_eRead_94 (by decide) (fun h => absurd rfl h) (fun _ => ?_)
              refine x_iconst (v := 0) dR_eRead_97 rfl ?_
              -- at 98: .ireturn
              refine x_ireturn dR_eRead_98 rfl rfl ?_
              exact rf I1 e FrT.rfl (fun _ _ => rfl)
            · rw [if_pos g] at e
              refine x_if_ne (tgt := 14) dR_eRead_94 (by decide) (fun _ => ?_) (fun h => absurd h (by decide))
              exact go true true (13 :: h) o I2 1 i3 h0 e hF2 hts2 hrs2 (by rw [List.length_cons]; omega) (by rw [cnt, if_pos (by decide)]; omega) q3 (fun _ => rfl) (fun y => absurd y (by decide))
          | false =>
            rw [hi2] at rest ⊢
            refine x_if_eq (tgt := 99) dR_eRead_85 (by decide) (fun _ => ?_) (fun h => absurd rfl h)
            exact rest (fun y => absurd y.2 (by decide))
        · refine x_icmp_ne (tgt := 99) dR_eRead_81 (by decide) (fun _ => ?_) (fun h => absurd h (fun y => c9 ((rt_6 s1).mp y)))
          exact rest (fun y => c9 y.1)
      | false =>
        have hwm := hwm rfl
        subst hwm
        refine x_iload_n dR_eRead_18 rfl ?_
        -- at 19: .ifCond .eq 131
        refine x_if_eq (tgt := 150) dR_eRead_19 (by decide) (fun _ => ?_) (fun h => absurd rfl h)
        refine x_aload_n dR_eRead_150 rfl ?_
        refine x_getI fl_R_177 rfl dR_eRead_151 rfl rfl ?_
        refine x_bipush (v := 59) dR_eRead_154 rfl ?_
        -- at 156: .if_icmp .ne 21
        rw [t1]
        by_cases c1 : tk.1 = 59
        · have h0 : ¬ tk.1 = 0 := by rw [c1]; decide
          have e := sy_end (ts := T) (h := h) (o := o) c1
          refine x_icmp_ne (tgt := 177) dR_eRead_156 (by decide) (fun h => absurd ((rt_59 s1).mpr c1) h) (fun _ => ?_)
          refine x_aload_n dR_eRead_159 rfl ?_
          refine x_iconst (v := 1) dR_eRead_160 rfl ?_
          -- at 161: .invokevirtual 206
          refine x_callV_1 c_R_unwinds ok_R_unwinds ml_R_206 dR_eRead_161 rfl rfl rfl rfl rfl ?_
          refine ⟨1, t, a0, h, o, rfl, rfl, by omega, by omega, hrs1, ht6, by omega, fun I2 hF2 hts2 hrs2 => ?_⟩
          obtain ⟨l1, l2, l3⟩ := unw_len 1 h o
          obtain ⟨r1, r2, r3, r4, r5, r6, r7⟩ := hrs2
          refine x_aload_n dR_eRead_164 rfl ?_
          refine x_getI fl_R_190 rfl dR_eRead_165 rfl rfl ?_
          -- at 168: .ifCond .ne 7
          rw [r2]
          by_cases c2 : (unw 1 h o).1 = []
          · rw [if_pos c2, hTT h0] at e
            rw [c2] at l1 ⊢
            refine x_if_ne (tgt := 175) dR_eRead_168 (by decide) (fun h => absurd rfl h) (fun _ => ?_)
            refine x_iconst (v := 1) dR_eRead_171 rfl ?_
            refine x_goto (tgt := 176) dR_eRead_172 (by decide) ?_
            -- at 176: .ireturn
            refine x_ireturn dR_eRead_176 rfl rfl ?_
            rw [hTT h0] at hlen yes
            have l1' : (unw 1 h o).2.length = h.length + o.length := by simpa using l1
            exact yes _ I2 a' e (hF1.tr hF2) (by rw [hts2 44 (by decide)]; exact hat1) haz1 r4 r6 (by omega)
          · rw [if_neg c2] at e
            refine x_if_ne (tgt := 175) dR_eRead_168 (by decide) (fun _ => ?_) (fun h => absurd h (fun y => c2 (List.length_eq_zero_iff.mp ((nI_eq (b := 0) (by omega) (by omega)).mp y))))
            refine x_iconst (v := 0) dR_eRead_175 rfl ?_
            -- at 176: .ireturn
            refine x_ireturn dR_eRead_176 rfl rfl ?_
            exact rf I2 e hF2 hts2
        refine x_icmp_ne (tgt := 177) dR_eRead_156 (by decide) (fun _ => ?_) (fun h => absurd h (fun y => c1 ((rt_59 s1).mp y)))
        refine x_aload_n dR_eRead_177 rfl ?_
        refine x_getI fl_R_177 rfl dR_eRead_178 rfl rfl ?_
        refine x_bipush (v := 41) dR_eRead_181 rfl ?_
        -- at 183: .if_icmp .ne 46
        rw [t1]
        by_cases c2 : tk.1 = 41
        · have h0 : ¬ tk.1 = 0 := by rw [c2]; decide
          have e := sy_cls (ts := T) (h := h) (o := o) c2
          refine x_icmp_ne (tgt := 229) dR_eRead_183 (by decide) (fun h => absurd ((rt_41 s1).mpr c2) h) (fun _ => ?_)
          refine x_aload_n dR_eRead_186 rfl ?_
          refine x_iconst (v := 1) dR_eRead_187 rfl ?_
          -- at 188: .invokevirtual 206
          refine x_callV_1 c_R_unwinds ok_R_unwinds ml_R_206 dR_eRead_188 rfl rfl rfl rfl rfl ?_
          refine ⟨1, t, a0, h, o, rfl, rfl, by omega, by omega, hrs1, ht6, by omega, fun I2 hF2 hts2 hrs2 => ?_⟩
          obtain ⟨l1, l2, l3⟩ := unw_len 1 h o
          have htop := unw_top 1 h o
          obtain ⟨r1, r2, r3, r4, r5, r6, r7⟩ := hrs2
          refine x_aload_n dR_eRead_191 rfl ?_
          refine x_getI fl_R_190 rfl dR_eRead_192 rfl rfl ?_
          -- at 195: .ifCond .ne 5
          rw [r2]
          generalize (unw 1 h o).2 = o1 at l1 r4 r6 e
          cases hu : (unw 1 h o).1 with
          | nil =>
            rw [hu, if_pos rfl] at e
            refine x_if_ne (tgt := 200) dR_eRead_195 (by decide) (fun h => absurd rfl h) (fun _ => ?_)
            refine x_iconst (v := 0) dR_eRead_198 rfl ?_
            -- at 199: .ireturn
            refine x_ireturn dR_eRead_199 rfl rfl ?_
            exact rf I2 e hF2 hts2
          | cons c h' =>
            rw [hu, if_neg (by simp), List.tail_cons] at e
            rw [hu] at l1 l2 l3 r2 r3 r5 r7
            have hc0 : c = 0 := rank_0 (r7 c List.mem_cons_self) (htop c h' hu)
            subst hc0
            rw [List.length_cons] at l1 l2 r2
            rw [cnt, if_pos (show isOpn 0 from Or.inl rfl)] at l3 r3
            rw [List.length_cons]
            refine x_if_ne (tgt := 200) dR_eRead_195 (by decide) (fun _ => ?_) (fun h => absurd h (fun y => absurd ((nI_eq (b := 0) (by omega) (by omega)).mp y) (by omega)))
            refine x_aload_n dR_eRead_200 rfl ?_
            refine x_dup dR_eRead_201 rfl ?_
            refine x_getI fl_R_190 rfl dR_eRead_202 rfl rfl ?_
            -- at 205: .iconst 1
            rw [r2]
            refine x_iconst (v := 1) dR_eRead_205 rfl ?_
            refine x_isub dR_eRead_206 ?_
            -- at 207: .putfield 190
            refine x_eqi (y := nI h'.length) (nI_pred _) ?_
            refine x_putI fl_R_190 rfl dR_eRead_207 (by decide) rfl rfl rfl rfl ?_
            refine x_aload_n dR_eRead_210 rfl ?_
            refine x_dup dR_eRead_211 rfl ?_
            refine x_getI fl_R_196 rfl dR_eRead_212 rfl rfl ?_
            -- at 215: .iconst 1
            rw [f59_n (by decide), r3]
            refine x_iconst (v := 1) dR_eRead_215 rfl ?_
            refine x_isub dR_eRead_216 ?_
            -- at 217: .putfield 196
            refine x_eqi (y := nI (cnt h')) (nI_pred _) ?_
            refine x_putI fl_R_196 rfl dR_eRead_217 (by decide) rfl rfl rfl rfl ?_
            refine x_aload_n dR_eRead_220 rfl ?_
            refine x_bipush (v := 7) dR_eRead_221 rfl ?_
            -- at 223: .invokevirtual 206
            have hrs3 : RS (up2 (up2 I2 59 50 (nI h'.length)) 59 51 (nI (cnt h'))) t a0 h' o1 := by
              refine ⟨?_, ?_, ?_, ?_, ?_, ?_, fun x hx => r7 x (List.mem_cons_of_mem _ hx)⟩
              · rw [f59_n (by decide), f59_n (by decide)]; exact r1
              · rw [f59_n (by decide), f59_s]
              · rw [f59_s]
              · rw [f59_n (by decide), f59_n (by decide)]; exact r4
              · rw [up2_n _ _ _ (by decide), up2_n _ _ _ (by decide)]; exact r5.pop
              · rw [up2_n _ _ _ (by decide), up2_n _ _ _ (by decide)]; exact r6
            have hF3 : FrT t a0 I1 (up2 (up2 I2 59 50 (nI h'.length)) 59 51 (nI (cnt h'))) := (hF2.up59 (by decide) _).up59 (by decide) _
            have hts3 : tokSame I1 (up2 (up2 I2 59 50 (nI h'.length)) 59 51 (nI (cnt h'))) := fun j hj => by
              have g1 : j ≠ 50 := by rintro rfl; exact absurd hj (by decide)
              have g2 : j ≠ 51 := by rintro rfl; exact absurd hj (by decide)
              rw [f59_n g2, f59_n g1]
              exact hts2 j hj
            generalize up2 (up2 I2 59 50 (nI h'.length)) 59 51 (nI (cnt h')) = I3 at hrs3 hF3 hts3
            refine x_callV_1 c_R_unwinds ok_R_unwinds ml_R_206 dR_eRead_223 rfl rfl rfl rfl rfl ?_
            refine ⟨7, t, a0, h', o1, rfl, rfl, by omega, by omega, hrs3, ht6, by omega, fun I4 hF4 hts4 hrs4 => ?_⟩
            obtain ⟨m1, m2, m3⟩ := unw_len 7 h' o1
            refine x_goto (tgt := 14) dR_eRead_226 (by decide) ?_
            -- at 14: .aload_n 0
            exact go false false _ _ I4 i2 i3 h0 e (hF3.tr hF4) (fun j hj => (hts4 j hj).trans (hts3 j hj)) hrs4 (by omega) (by omega) q3 (fun y => absurd y (by decide)) (fun _ => rfl)
        refine x_icmp_ne (tgt := 229) dR_eRead_183 (by decide) (fun _ => ?_) (fun h => absurd h (fun y => c2 ((rt_41 s1).mp y)))
        refine x_aload_n dR_eRead_229 rfl ?_
        -- at 230: .invokevirtual 216
        refine x_callV_0 c_R_signOf ok_R_signOf ml_R_216 dR_eRead_230 rfl rfl rfl rfl rfl ?_
        refine ⟨tk.1, rfl, rfl, s1, t1, ?_⟩
        refine x_istoren_3 dR_eRead_233 rfl rfl ?_
        refine x_iload_n dR_eRead_234 rfl ?_
        refine x_iconst (v := -1) dR_eRead_235 rfl ?_
        -- at 236: .if_icmp .eq 11
        by_cases c3 : sgn tk.1 = -1
        · refine x_icmp_eq (tgt := 247) dR_eRead_236 (by decide) (fun _ => ?_) (fun h => absurd c3 h)
          refine x_iconst (v := 0) dR_eRead_247 rfl ?_
          -- at 248: .ireturn
          refine x_ireturn dR_eRead_248 rfl rfl ?_
          exact rf I1 (sy_oth c1 c2 c3) FrT.rfl (fun _ _ => rfl)
        · have h0 : ¬ tk.1 = 0 := by
            intro y
            rw [y] at c3
            exact c3 (by decide)
          have hbc := sgn_bc c3
          have e : sy (tk :: T) false false h o = if rank (sgn tk.1) = 4 ∧ top (unw 5 h o).1 = 4 then .inl tk.2.1 else sy T true (decide (sgn tk.1 ≤ 12)) (sgn tk.1 :: (unw (lst (sgn tk.1)) h o).1) (unw (lst (sgn tk.1)) h o).2 := by
            rw [sy, if_neg (by decide), if_neg c1, if_neg c2, if_neg c3]
          refine x_icmp_eq (tgt := 247) dR_eRead_236 (by decide) (fun h => absurd h c3) (fun _ => ?_)
          refine x_aload_n dR_eRead_239 rfl ?_
          refine x_iload_n dR_eRead_240 rfl ?_
          -- at 241: .invokevirtual 219
          refine x_callV_1 c_R_between ok_R_between ml_R_219 dR_eRead_241 rfl rfl rfl rfl rfl ?_
          have tl := Tlen h0
          refine ⟨sgn tk.1, t, a0, h, o, rfl, rfl, hbc, hrs1, ht6, by omega, fun g I2 hF2 hts2 => ?_, fun g I2 hF2 hts2 hrs2 => ?_⟩
          · rw [if_pos g] at e
            refine x_if_ne (tgt := 249) dR_eRead_244 (by decide) (fun h => absurd rfl h) (fun _ => ?_)
            refine x_iconst (v := 0) dR_eRead_247 rfl ?_
            -- at 248: .ireturn
            refine x_ireturn dR_eRead_248 rfl rfl ?_
            exact rf I2 e hF2 hts2
          · rw [if_neg g] at e
            obtain ⟨l1, l2, l3⟩ := unw_len (lst (sgn tk.1)) h o
            have hb := (bc_hc hbc).2.1
            refine x_if_ne (tgt := 249) dR_eRead_244 (by decide) (fun _ => ?_) (fun h => absurd h (by decide))
            refine x_iconst (v := 1) dR_eRead_249 rfl ?_
            refine x_istoren_1 dR_eRead_250 rfl rfl ?_
            refine x_iload_n dR_eRead_251 rfl ?_
            refine x_bipush (v := 12) dR_eRead_252 rfl ?_
            -- at 254: .if_icmp .gt 7
            by_cases c4 : sgn tk.1 ≤ 12
            · refine x_icmp_gt (tgt := 261) dR_eRead_254 (by decide) (fun h => absurd h (Int32.not_lt.mpr c4)) (fun _ => ?_)
              refine x_iconst (v := 1) dR_eRead_257 rfl ?_
              refine x_goto (tgt := 262) dR_eRead_258 (by decide) ?_
              refine x_istoren_2 dR_eRead_262 rfl rfl ?_
              refine x_goto (tgt := 14) dR_eRead_263 (by decide) ?_
              -- at 14: .aload_n 0
              exact go true (decide (sgn tk.1 ≤ 12)) _ _ I2 1 _ h0 e hF2 hts2 hrs2 (by rw [List.length_cons]; omega) (by rw [cnt, if_neg hb]; omega) rfl (fun _ => by rw [if_pos (decide_eq_true c4)]) (fun y => absurd y (by decide))
            · refine x_icmp_gt (tgt := 261) dR_eRead_254 (by decide) (fun _ => ?_) (fun h => absurd (Int32.not_le.mp c4) h)
              refine x_iconst (v := 0) dR_eRead_261 rfl ?_
              refine x_istoren_2 dR_eRead_262 rfl rfl ?_
              refine x_goto (tgt := 14) dR_eRead_263 (by decide) ?_
              -- at 14: .aload_n 0
              exact go true (decide (sgn tk.1 ≤ 12)) _ _ I2 0 _ h0 e hF2 hts2 hrs2 (by rw [List.length_cons]; omega) (by rw [cnt, if_neg hb]; omega) rfl (fun _ => by rw [if_neg (fun y => c4 (of_decide_eq_true y))]) (fun y => absurd y (by decide))
  refine x_aload_n dR_eRead_0 rfl ?_
  refine x_iconst (v := 0) dR_eRead_1 rfl ?_
  refine x_putI fl_R_190 rfl dR_eRead_2 (by decide) rfl rfl rfl rfl ?_
  refine x_aload_n dR_eRead_5 rfl ?_
  refine x_iconst (v := 0) dR_eRead_6 rfl ?_
  refine x_putI fl_R_196 rfl dR_eRead_7 (by decide) rfl rfl rfl rfl ?_
  refine x_iconst (v := 1) dR_eRead_10 rfl ?_
  refine x_istoren_1 dR_eRead_11 rfl rfl ?_
  refine x_iconst (v := 1) dR_eRead_12 rfl ?_
  refine x_istoren_2 dR_eRead_13 rfl rfl ?_
  -- at 14: .aload_n 0
  have hF0 : FrT t a0 I (up2 (up2 I 59 50 0) 59 51 0) := (FrT.rfl.up59 (by decide) _).up59 (by decide) _
  have hrs0 : RS (up2 (up2 I 59 50 0) 59 51 0) t a0 [] [] := by
    refine ⟨?_, ?_, ?_, ?_, fun k hk => absurd hk (Nat.not_lt_zero k), fun i hi => absurd hi (Nat.not_lt_zero i), fun c hc => absurd hc List.not_mem_nil⟩
    · rw [f59_n (by decide), f59_n (by decide)]; exact htx
    · rw [f59_n (by decide), f59_s]; rfl
    · rw [f59_s]; rfl
    · rw [f59_n (by decide), f59_n (by decide)]; exact hout
  have hat0 : up2 (up2 I 59 50 0) 59 51 0 59 44 = nI a := by rw [f59_n (by decide), f59_n (by decide)]; exact hat
  exact loop _ a true true [] [] _ 1 .null (Nat.le_refl _) rfl (fun _ => rfl) haz hat0 hF0 hrs0 (by simpa using hlen) (Nat.zero_le _) rfl (fun y => absurd y (by decide)) h1 h2
