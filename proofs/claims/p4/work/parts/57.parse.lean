/-! texts: the class reads an E: levels go down -/
def PS (I : IM) (T : List Tok) (i u : Nat) : Prop := Tin I T ∧ I 23 6 = nI i ∧ I 23 9 = nI u ∧ u ≤ i ∧ i < T.length ∧ Tgood T ∧ T.length ≤ 161
def PSf (I I' : IM) : Prop := Fr [23, 28] I I' ∧ ∀ q, q ≠ 6 → q ≠ 9 → I' 23 q = I 23 q
def PSok (I : IM) (u : Nat) (I' : IM) (j : Nat) (C : List Int32) : Prop := PSf I I' ∧ I' 23 6 = nI j ∧ I' 23 9 = nI (u + C.length) ∧ (∀ k, k < u → I' 28 k = I 28 k) ∧ ∀ k, k < C.length → enc (I' 28 (u + k)) = C.getD k 0
def PSno (I I' : IM) (j : Nat) : Prop := PSf I I' ∧ I' 23 6 = nI j
theorem PSf.rfl {I : IM} : PSf I I := ⟨Fr.rfl, fun _ _ _ => Eq.refl _⟩
theorem PSf.tr {I I1 I2 : IM} (h : PSf I I1) (h2 : PSf I1 I2) : PSf I I2 := ⟨h.1.tr h2.1, fun q a b => (h2.2 q a b).trans (h.2 q a b)⟩
theorem PSf.nx {I I1 : IM} (h : PSf I I1) (x : Int32) : PSf I (up2 I1 23 6 x) := ⟨h.1.up (by decide) _ _, fun q a b => by rw [up2_s, up1_n _ _ a]; exact h.2 q a b⟩
theorem PSf.us {I I1 : IM} (h : PSf I I1) (x : Int32) : PSf I (up2 I1 23 9 x) := ⟨h.1.up (by decide) _ _, fun q a b => by rw [up2_s, up1_n _ _ b]; exact h.2 q a b⟩
theorem PSf.st {I I1 : IM} (h : PSf I I1) (k : Nat) (x : Int32) : PSf I (up2 I1 28 k x) := ⟨h.1.up (by decide) _ _, fun q a b => by rw [up2_n _ _ _ (by decide)]; exact h.2 q a b⟩
theorem PSf.tin {I I1 : IM} (h : PSf I I1) {T : List Tok} (ht : Tin I T) : Tin I1 T := by
  unfold Tin at ht ⊢
  rw [h.1 25 (by decide), h.1 26 (by decide), h.1 27 (by decide)]
  exact ht
theorem PSok.nil {I : IM} {u i : Nat} (h1 : I 23 6 = nI i) (h2 : I 23 9 = nI u) : PSok I u I i [] := ⟨PSf.rfl, h1, h2, fun _ _ => rfl, fun k hk => absurd hk (Nat.not_lt_zero k)⟩
theorem PSok.tr {I I1 I2 : IM} {u j j2 : Nat} {C D : List Int32} (h : PSok I u I1 j C) (h2 : PSok I1 (u + C.length) I2 j2 D) : PSok I u I2 j2 (C ++ D) := by
  obtain ⟨a1, a2, a3, a4, a5⟩ := h
  obtain ⟨b1, b2, b3, b4, b5⟩ := h2
  refine ⟨a1.tr b1, b2, ?_, fun k hk => (b4 k (by omega)).trans (a4 k hk), fun k hk => ?_⟩
  · rw [b3, List.length_append, Nat.add_assoc]
  · by_cases z : k < C.length
    · rw [b4 (u + k) (by omega), a5 k z]
      simp [List.getD_eq_getElem?_getD, List.getElem?_append_left z]
    · have hk2 : k - C.length < D.length := by rw [List.length_append] at hk; omega
      have := b5 (k - C.length) hk2
      rw [show u + C.length + (k - C.length) = u + k by omega] at this
      rw [this]
      simp [List.getD_eq_getElem?_getD, List.getElem?_append_right (show C.length ≤ k by omega)]
theorem PSok.nx {I I1 : IM} {u j : Nat} {C : List Int32} (h : PSok I u I1 j C) (k : Nat) : PSok I u (up2 I1 23 6 (nI k)) k C := by
  obtain ⟨a1, a2, a3, a4, a5⟩ := h
  refine ⟨a1.nx _, by rw [up2_s, up1_s], by rw [up2_s, up1_n _ _ (by decide)]; exact a3, fun q hq => ?_, fun q hq => ?_⟩
  · rw [up2_n _ _ _ (by decide)]
    exact a4 q hq
  · rw [up2_n _ _ _ (by decide)]
    exact a5 q hq
/-- a step more -/
def stU (I : IM) (u : Nat) (x : Int32) : IM := up2 (up2 I 28 u x) 23 9 (nI u + 1)
theorem PSok.stp {I I1 : IM} {u v j : Nat} {C : List Int32} (h : PSok I u I1 j C) (hv : v = u + C.length) (x : Int32) : PSok I u (stU I1 v x) j (C ++ [enc x]) := by
  subst hv
  obtain ⟨a1, a2, a3, a4, a5⟩ := h
  unfold stU
  refine ⟨(a1.st _ _).us _, ?_, ?_, fun q hq => ?_, fun q hq => ?_⟩
  · rw [up2_s, up1_n _ _ (by decide), up2_n _ _ _ (by decide)]
    exact a2
  · rw [up2_s, up1_s, nI_1, List.length_append]
    rfl
  · rw [up2_n _ _ _ (by decide), up2_s, up1_n _ _ (by omega)]
    exact a4 q hq
  · rw [up2_n _ _ _ (by decide), up2_s]
    by_cases z : q = C.length
    · subst z
      rw [up1_s]
      simp [List.getD_eq_getElem?_getD]
    · have hq2 : q < C.length := by simp at hq; omega
      rw [up1_n _ _ (by omega), a5 q hq2]
      simp [List.getD_eq_getElem?_getD, List.getElem?_append_left hq2]
theorem PSok.ps {I I1 : IM} {T : List Tok} {i u j : Nat} {C : List Int32} (hP : PS I T i u) (h : PSok I u I1 j C) (h1 : u + C.length ≤ j) (h2 : j < T.length) : PS I1 T j (u + C.length) :=
  ⟨h.1.tin hP.1, h.2.1, h.2.2.1, h1, h2, hP.2.2.2.2.2.1, hP.2.2.2.2.2.2⟩
theorem PS.nx {I : IM} {T : List Tok} {i u : Nat} (hP : PS I T i u) (h : i + 1 < T.length) : PS (up2 I 23 6 (nI (i + 1))) T (i + 1) u := by
  obtain ⟨a1, a2, a3, a4, a5, a6, a7⟩ := hP
  exact ⟨(PSf.rfl.nx _).tin a1, by rw [up2_s, up1_s], by rw [up2_s, up1_n _ _ (by decide)]; exact a3, by omega, h, a6, a7⟩
theorem PS.more {I : IM} {T : List Tok} {i u : Nat} (hP : PS I T i u) (h : ¬ ts T i = 0) : i + 1 < T.length := hP.2.2.2.2.2.1.2.1 i hP.2.2.2.2.1 h
theorem PS.s25 {I : IM} {T : List Tok} {i u : Nat} (hP : PS I T i u) : I 25 i = ts T i := (hP.1 i hP.2.2.2.2.1).1
def sp_Reader_passes : SpT := fun as S I L Post => ∃ (T : List Tok) (i u : Nat) (w : Int32), as = [.ref 23, .int w] ∧ S = S1 ∧ PS I T i u ∧ (ts T i = w → Post (some (.int 1)) S1 (up2 I 23 6 (nI (i + 1))) L) ∧ (¬ ts T i = w → Post (some (.int 0)) S1 I L)
set_option maxHeartbeats 4000000 in
set_option maxRecDepth 100000 in
theorem c_Reader_passes : Con mReader_passes 2 0 0 sp_Reader_passes := by
  refine con_of_X rfl fun G as S I L Post hs => ?_
  obtain ⟨T, i, u, w, rfl, rfl, hP, h1, h2⟩ := hs
  have e6 := hP.2.1
  have hi : i < 161 := by have := hP.2.2.2.2.1; have := hP.2.2.2.2.2.2; omega
  refine ⟨0, Nat.le_of_ble_eq_true rfl, ?_⟩
  show X mReader_passes G _ S1 I L 0 [.ref 23, .int w] [] Post
  refine x_aload_n dReader_passes_0 rfl ?_
  refine x_getR fl_Reader_19 rfl dReader_passes_1 rfl rfl rfl ?_
  refine x_aload_n dReader_passes_4 rfl ?_
  refine x_getI fl_Reader_31 rfl dReader_passes_5 rfl rfl ?_
  -- at 8: .iaload
  rw [e6]
  refine x_ialdJ (j := i) dReader_passes_8 rfl rfl (by first | rfl | (simp only [← nI_add, ← pk_mul]; rfl)) (by omega) ?_
  -- at 9: .iload_n 1
  rw [hP.s25]
  refine x_iload_n dReader_passes_9 rfl ?_
  -- at 10: .if_icmp .eq 5
  refine x_icmp_eq (tgt := 15) dReader_passes_10 (by decide) (fun c1 => ?_) (fun c1 => ?_)
  · refine x_aload_n dReader_passes_15 rfl ?_
    refine x_dup dReader_passes_16 rfl ?_
    refine x_getI fl_Reader_31 rfl dReader_passes_17 rfl rfl ?_
    -- at 20: .iconst 1
    rw [e6]
    refine x_iconst (v := 1) dReader_passes_20 rfl ?_
    refine x_iadd dReader_passes_21 ?_
    refine x_putI fl_Reader_31 rfl dReader_passes_22 (by decide) rfl rfl rfl rfl ?_
    refine x_iconst (v := 1) dReader_passes_25 rfl ?_
    -- at 26: .ireturn
    rw [nI_1]
    refine x_ireturn dReader_passes_26 rfl rfl ?_
    exact h1 c1
  · refine x_iconst (v := 0) dReader_passes_13 rfl ?_
    -- at 14: .ireturn
    refine x_ireturn dReader_passes_14 rfl rfl ?_
    exact h2 c1
def sp_Reader_step : SpT := fun as S I L Post => ∃ (u : Nat) (x : Int32), as = [.ref 23, .int x] ∧ S = S1 ∧ I 23 9 = nI u ∧ u < 160 ∧ Post none S1 (stU I u x) L
set_option maxHeartbeats 4000000 in
set_option maxRecDepth 100000 in
theorem c_Reader_step : Con mReader_step 2 0 0 sp_Reader_step := by
  refine con_of_X rfl fun G as S I L Post hs => ?_
  obtain ⟨u, x, rfl, rfl, hu, h160, h1⟩ := hs
  refine ⟨0, Nat.le_of_ble_eq_true rfl, ?_⟩
  show X mReader_step G _ S1 I L 0 [.ref 23, .int x] [] Post
  refine x_aload_n dReader_step_0 rfl ?_
  refine x_getI fl_Reader_40 rfl dReader_step_1 rfl rfl ?_
  refine x_sipush (v := 160) dReader_step_4 rfl ?_
  -- at 7: .if_icmp .ge 23
  rw [hu]
  refine x_icmp_ge (tgt := 30) dReader_step_7 (by decide) (fun h => absurd h (nI_ge (b := 160) h160 (by omega))) (fun _ => ?_)
  refine x_aload_n dReader_step_10 rfl ?_
  refine x_getR fl_Reader_34 rfl dReader_step_11 rfl rfl rfl ?_
  refine x_aload_n dReader_step_14 rfl ?_
  refine x_getI fl_Reader_40 rfl dReader_step_15 rfl rfl ?_
  -- at 18: .iload_n 1
  rw [hu]
  refine x_iload_n dReader_step_18 rfl ?_
  refine x_iastJ (j := u) dReader_step_19 rfl rfl (by first | rfl | (simp only [← nI_add, ← pk_mul]; rfl)) (by omega) ?_
  refine x_aload_n dReader_step_20 rfl ?_
  refine x_dup dReader_step_21 rfl ?_
  refine x_getI fl_Reader_40 rfl dReader_step_22 rfl rfl ?_
  -- at 25: .iconst 1
  simp only [up2_n, up2_s, ne_eq, Nat.reduceEqDiff, not_false_eq_true, hu]
  refine x_iconst (v := 1) dReader_step_25 rfl ?_
  refine x_iadd dReader_step_26 ?_
  refine x_putI fl_Reader_40 rfl dReader_step_27 (by decide) rfl rfl rfl rfl ?_
  -- at 30: .return_
  refine x_return dReader_step_30 rfl ?_
  exact h1
def sp_Reader_did : SpT := fun as S I L Post => ∃ (u : Nat) (x : Int32), as = [.ref 23, .int x] ∧ S = S1 ∧ I 23 9 = nI u ∧ u < 160 ∧ Post (some (.int 1)) S1 (stU I u (20000 + x)) L
set_option maxHeartbeats 4000000 in
set_option maxRecDepth 100000 in
theorem c_Reader_did : Con mReader_did 3 0 0 sp_Reader_did := by
  refine con_of_X rfl fun G as S I L Post hs => ?_
  obtain ⟨u, x, rfl, rfl, hu, h160, h1⟩ := hs
  refine ⟨0, Nat.le_of_ble_eq_true rfl, ?_⟩
  show X mReader_did G _ S1 I L 0 [.ref 23, .int x] [] Post
  refine x_aload_n dReader_did_0 rfl ?_
  refine x_sipush (v := 20000) dReader_did_1 rfl ?_
  refine x_iload_n dReader_did_4 rfl ?_
  refine x_iadd dReader_did_5 ?_
  -- at 6: .invokevirtual 139
  refine x_callV_1 c_Reader_step ok_Reader_step ml_Reader_139 dReader_did_6 rfl rfl rfl rfl rfl ?_
  refine ⟨u, _, rfl, rfl, hu, h160, ?_⟩
  refine x_iconst (v := 1) dReader_did_9 rfl ?_
  -- at 10: .ireturn
  refine x_ireturn dReader_did_10 rfl rfl ?_
  exact h1
def sp_Reader_opens : SpT := fun as S I L Post => ∃ (T : List Tok) (i u op : Nat) (w : Int32), as = [.ref 23, .int w, .int (nI op)] ∧ S = S1 ∧ op ≤ 5 ∧ PS I T i u ∧ (op < 5 ∧ ts T i = w → Post (some (.int 1)) S1 (up2 I 23 6 (nI (i + 1))) L) ∧ (¬ (op < 5 ∧ ts T i = w) → Post (some (.int 0)) S1 I L)
set_option maxHeartbeats 4000000 in
set_option maxRecDepth 100000 in
theorem c_Reader_opens : Con mReader_opens 3 0 0 sp_Reader_opens := by
  refine con_of_X rfl fun G as S I L Post hs => ?_
  obtain ⟨T, i, u, op, w, rfl, rfl, hop, hP, h1, h2⟩ := hs
  refine ⟨0, Nat.le_of_ble_eq_true rfl, ?_⟩
  show X mReader_opens G _ S1 I L 0 [.ref 23, .int w, .int (nI op)] [] Post
  refine x_iload_n dReader_opens_0 rfl ?_
  refine x_iconst (v := 5) dReader_opens_1 rfl ?_
  -- at 2: .if_icmp .ge 15
  by_cases h5 : op < 5
  · refine x_icmp_ge (tgt := 17) dReader_opens_2 (by decide) (fun h => absurd h (nI_ge (b := 5) h5 (by omega))) (fun _ => ?_)
    refine x_aload_n dReader_opens_5 rfl ?_
    refine x_iload_n dReader_opens_6 rfl ?_
    -- at 7: .invokevirtual 46
    refine x_callV_1 c_Reader_passes ok_Reader_passes ml_Reader_46 dReader_opens_7 rfl rfl rfl rfl rfl ?_
    refine ⟨T, i, u, w, rfl, rfl, hP, fun q => ?_, fun q => ?_⟩
    · refine x_if_eq (tgt := 17) dReader_opens_10 (by decide) (fun h => absurd h (by decide)) (fun _ => ?_)
      refine x_iconst (v := 1) dReader_opens_13 rfl ?_
      refine x_goto (tgt := 18) dReader_opens_14 (by decide) ?_
      -- at 18: .ireturn
      refine x_ireturn dReader_opens_18 rfl rfl ?_
      exact h1 ⟨h5, q⟩
    · refine x_if_eq (tgt := 17) dReader_opens_10 (by decide) (fun _ => ?_) (fun h => absurd (by decide) h)
      refine x_iconst (v := 0) dReader_opens_17 rfl ?_
      -- at 18: .ireturn
      refine x_ireturn dReader_opens_18 rfl rfl ?_
      exact h2 (fun z => q z.2)
  · refine x_icmp_ge (tgt := 17) dReader_opens_2 (by decide) (fun _ => ?_) (fun h => absurd (nI_le (a := 5) (by omega) (by omega)) h)
    refine x_iconst (v := 0) dReader_opens_17 rfl ?_
    -- at 18: .ireturn
    refine x_ireturn dReader_opens_18 rfl rfl ?_
    exact h2 (fun z => h5 z.1)
def sp_Reader_joins : SpT := fun as S I L Post => ∃ (l : Nat) (s : Int32), as = [.int (nI l), .int s] ∧ isBin l ∧ bPost (joinsP l s) S I L Post
set_option maxHeartbeats 4000000 in
set_option maxRecDepth 100000 in
theorem c_Reader_joins : Con mReader_joins 2 0 0 sp_Reader_joins := by
  refine con_of_X rfl fun G as S I L Post hs => ?_
  obtain ⟨l, s, rfl, hl, h1, h2⟩ := hs
  refine ⟨0, Nat.le_of_ble_eq_true rfl, ?_⟩
  show X mReader_joins G _ S I L 0 [.int (nI l), .int s] [] Post
  refine x_iload_n dReader_joins_0 rfl ?_
  -- at 1: .tableswitch 89 0 4 #[35, 47, 89, 59, 77]
  rcases hl with rfl | rfl | rfl | rfl
  · refine x_tableIn (tgt := 36) dReader_joins_1 (by decide) (by decide) rfl (by decide) ?_
    refine x_iload_n dReader_joins_36 rfl ?_
    refine x_bipush (v := 7) dReader_joins_37 rfl ?_
    -- at 39: .if_icmp .ne 7
    refine x_icmp_ne (tgt := 46) dReader_joins_39 (by decide) (fun c1 => ?_) (fun c1 => ?_)
    · refine x_iconst (v := 0) dReader_joins_46 rfl ?_
      -- at 47: .ireturn
      refine x_ireturn dReader_joins_47 rfl rfl ?_
      exact h2 (by rintro (z | z | z | z) <;> first | exact c1 z.2 | exact absurd z.1 (by decide))
    · refine x_iconst (v := 1) dReader_joins_42 rfl ?_
      refine x_goto (tgt := 47) dReader_joins_43 (by decide) ?_
      -- at 47: .ireturn
      refine x_ireturn dReader_joins_47 rfl rfl ?_
      exact h1 (Or.inl ⟨rfl, c1⟩)
  · refine x_tableIn (tgt := 48) dReader_joins_1 (by decide) (by decide) rfl (by decide) ?_
    refine x_iload_n dReader_joins_48 rfl ?_
    refine x_bipush (v := 8) dReader_joins_49 rfl ?_
    -- at 51: .if_icmp .ne 7
    refine x_icmp_ne (tgt := 58) dReader_joins_51 (by decide) (fun c1 => ?_) (fun c1 => ?_)
    · refine x_iconst (v := 0) dReader_joins_58 rfl ?_
      -- at 59: .ireturn
      refine x_ireturn dReader_joins_59 rfl rfl ?_
      exact h2 (by rintro (z | z | z | z) <;> first | exact c1 z.2 | exact absurd z.1 (by decide))
    · refine x_iconst (v := 1) dReader_joins_54 rfl ?_
      refine x_goto (tgt := 59) dReader_joins_55 (by decide) ?_
      -- at 59: .ireturn
      refine x_ireturn dReader_joins_59 rfl rfl ?_
      exact h1 (Or.inr (Or.inl ⟨rfl, c1⟩))
  · refine x_tableIn (tgt := 60) dReader_joins_1 (by decide) (by decide) rfl (by decide) ?_
    refine x_iload_n dReader_joins_60 rfl ?_
    refine x_bipush (v := 43) dReader_joins_61 rfl ?_
    -- at 63: .if_icmp .eq 9
    refine x_icmp_eq (tgt := 72) dReader_joins_63 (by decide) (fun c1 => ?_) (fun c1 => ?_)
    · refine x_iconst (v := 1) dReader_joins_72 rfl ?_
      refine x_goto (tgt := 77) dReader_joins_73 (by decide) ?_
      -- at 77: .ireturn
      refine x_ireturn dReader_joins_77 rfl rfl ?_
      exact h1 (Or.inr (Or.inr (Or.inl ⟨rfl, Or.inl c1⟩)))
    · refine x_iload_n dReader_joins_66 rfl ?_
      refine x_bipush (v := 45) dReader_joins_67 rfl ?_
      -- at 69: .if_icmp .ne 7
      refine x_icmp_ne (tgt := 76) dReader_joins_69 (by decide) (fun c2 => ?_) (fun c2 => ?_)
      · refine x_iconst (v := 0) dReader_joins_76 rfl ?_
        -- at 77: .ireturn
        refine x_ireturn dReader_joins_77 rfl rfl ?_
        exact h2 (by rintro (z | z | z | z) <;> first | exact z.2.elim c1 c2 | exact absurd z.1 (by decide))
      · refine x_iconst (v := 1) dReader_joins_72 rfl ?_
        refine x_goto (tgt := 77) dReader_joins_73 (by decide) ?_
        -- at 77: .ireturn
        refine x_ireturn dReader_joins_77 rfl rfl ?_
        exact h1 (Or.inr (Or.inr (Or.inl ⟨rfl, Or.inr c2⟩)))
  · refine x_tableIn (tgt := 78) dReader_joins_1 (by decide) (by decide) rfl (by decide) ?_
    refine x_iload_n dReader_joins_78 rfl ?_
    refine x_bipush (v := 42) dReader_joins_79 rfl ?_
    -- at 81: .if_icmp .ne 7
    refine x_icmp_ne (tgt := 88) dReader_joins_81 (by decide) (fun c1 => ?_) (fun c1 => ?_)
    · refine x_iconst (v := 0) dReader_joins_88 rfl ?_
      -- at 89: .ireturn
      refine x_ireturn dReader_joins_89 rfl rfl ?_
      exact h2 (by rintro (z | z | z | z) <;> first | exact c1 z.2 | exact absurd z.1 (by decide))
    · refine x_iconst (v := 1) dReader_joins_84 rfl ?_
      refine x_goto (tgt := 89) dReader_joins_85 (by decide) ?_
      -- at 89: .ireturn
      refine x_ireturn dReader_joins_89 rfl rfl ?_
      exact h1 (Or.inr (Or.inr (Or.inr ⟨rfl, c1⟩)))
theorem ble_of {a b : Nat} (h : a ≤ b) : Nat.ble a b = true := by simpa using h
def sp_lev (l op : Nat) : SpT := fun as S I L Post => ∃ (T : List Tok) (i u : Nat), as = [.ref 23, .int (nI l), .int (nI op)] ∧ S = S1 ∧ PS I T i u ∧
  (∀ (I' : IM) (j : Nat) (C : List Int32), PSok I u I' j C → LevOk T l op i j C → Post (some (.int 1)) S1 I' L) ∧ (∀ (I' : IM) (j : Nat), PSno I I' j → LevNo T l op i j → Post (some (.int 0)) S1 I' L)
def sp_negn (op : Nat) : SpT := fun as S I L Post => ∃ (T : List Tok) (i u : Nat), as = [.ref 23, .int (nI op)] ∧ S = S1 ∧ PS I T i u ∧
  (∀ (I' : IM) (j : Nat) (C : List Int32), PSok I u I' j C → LevOk T 2 op i j C → Post (some (.int 1)) S1 I' L) ∧ (∀ (I' : IM) (j : Nat), PSno I I' j → LevNo T 2 op i j → Post (some (.int 0)) S1 I' L)
def sp_onen (op : Nat) : SpT := fun as S I L Post => ∃ (T : List Tok) (i u : Nat), as = [.ref 23, .int (nI op)] ∧ S = S1 ∧ PS I T i u ∧
  (∀ (I' : IM) (j : Nat) (C : List Int32), PSok I u I' j C → OneOk T op i j C → Post (some (.int 1)) S1 I' L) ∧ (∀ (I' : IM) (j : Nat), PSno I I' j → OneNo T op i j → Post (some (.int 0)) S1 I' L)
theorem enc_sgn {l : Nat} {s : Int32} (h : joinsP l s) : enc (20000 + s) = sgn s ∧ ¬ s = 0 := by
  rcases h with ⟨rfl, rfl⟩ | ⟨rfl, rfl⟩ | ⟨rfl, rfl | rfl⟩ | ⟨rfl, rfl⟩ <;> decide
set_option maxHeartbeats 4000000 in
set_option maxRecDepth 100000 in
theorem c_lev_bin {l op d : Nat} (hl : isBin l) (hd : 3 ≤ d) (h : Con mReader_level d 0 0 (sp_lev (l + 1) op)) : Con mReader_level (d + 1) 0 0 (sp_lev l op) := by
  refine con_of_X rfl fun G as S I L Post hs => ?_
  obtain ⟨T, i, u, rfl, rfl, hP, h1, h2⟩ := hs
  refine ⟨2, Nat.le_of_ble_eq_true rfl, ?_⟩
  show X mReader_level G (d + 1, 0, 0) S1 I L 0 [.ref 23, .int (nI l), .int (nI op), .null, .null] [] Post
  have hui := hP.2.2.2.1
  have h161 := hP.2.2.2.2.2.2
  refine x_iload_n dReader_level_0 rfl ?_
  refine x_iconst (v := 2) dReader_level_1 rfl ?_
  -- at 2: .if_icmp .ne 9
  refine x_icmp_ne (tgt := 11) dReader_level_2 (by decide) (fun _ => ?_) (fun h => absurd h (by rcases hl with rfl | rfl | rfl | rfl <;> decide))
  refine x_iload_n dReader_level_11 rfl ?_
  refine x_iconst (v := 5) dReader_level_12 rfl ?_
  -- at 13: .if_icmp .lt 9
  refine x_icmp_lt (tgt := 22) dReader_level_13 (by decide) (fun _ => ?_) (fun h => absurd (by rcases hl with rfl | rfl | rfl | rfl <;> decide) h)
  refine x_aload_n dReader_level_22 rfl ?_
  refine x_iload_n dReader_level_23 rfl ?_
  refine x_iconst (v := 1) dReader_level_24 rfl ?_
  refine x_iadd dReader_level_25 ?_
  -- at 26: .iload_n 2
  rw [nI_1]
  refine x_iload_n dReader_level_26 rfl ?_
  -- at 27: .invokevirtual 50
  refine x_callV_2 h ok_Reader_level ml_Reader_50 dReader_level_27 (ble_of (Nat.le_refl _)) rfl rfl rfl rfl ?_
  refine ⟨T, i, u, rfl, rfl, hP, fun I1 j C k1 k2 => ?_, fun I1 j k1 k2 => ?_⟩
  · refine x_if_ne (tgt := 35) dReader_level_30 (by decide) (fun _ => ?_) (fun h => absurd h (by decide))
    refine x_iconst (v := 0) dReader_level_35 rfl ?_
    refine x_istoren_3 dReader_level_36 rfl rfl ?_
    -- at 37: .iload_n 3
    have loop : ∀ (k n j : Nat) (I' : IM) (C : List Int32) (a4 : Value), n + k = 160 → i + n ≤ j → PSok I u I' j C → BinIn T l op i j C →
        X mReader_level G (d + 1, 0, 0) S1 I' L 37 [.ref 23, .int (nI l), .int (nI op), .int (nI n), a4] [] Post := by
      intro k
      induction k with
      | zero =>
        intro n j I' C a4 hn hj k1 k2
        obtain rfl : n = 160 := by omega
        refine x_iload_n dReader_level_37 rfl ?_
        refine x_sipush (v := 160) dReader_level_38 rfl ?_
        -- at 41: .if_icmp .ge 69
        refine x_icmp_ge (tgt := 110) dReader_level_41 (by decide) (fun _ => ?_) (fun h => absurd (Int32.le_refl _) h)
        refine x_iconst (v := 1) dReader_level_110 rfl ?_
        -- at 111: .ireturn
        refine x_ireturn dReader_level_111 rfl rfl ?_
        have hjT := k2.2.1
        refine h1 I' j C k1 (bin_done hl k2 (fun z => ?_))
        have := hP.2.2.2.2.2.1.2.1 j hjT (enc_sgn z).2
        omega
      | succ k ih =>
        intro n j I' C a4 hn hj k1 k2
        have hjT := k2.2.1
        have hPj : PS I' T j (u + C.length) := PSok.ps hP k1 (by have := k2.1; omega) hjT
        refine x_iload_n dReader_level_37 rfl ?_
        refine x_sipush (v := 160) dReader_level_38 rfl ?_
        -- at 41: .if_icmp .ge 69
        refine x_icmp_ge (tgt := 110) dReader_level_41 (by decide) (fun h => absurd h (nI_ge (b := 160) (by omega) (by omega))) (fun _ => ?_)
        refine x_iload_n dReader_level_44 rfl ?_
        refine x_aload_n dReader_level_45 rfl ?_
        refine x_getR fl_Reader_19 rfl dReader_level_46 rfl rfl rfl ?_
        refine x_aload_n dReader_level_49 rfl ?_
        refine x_getI fl_Reader_31 rfl dReader_level_50 rfl rfl ?_
        -- at 53: .iaload
        rw [k1.2.1]
        refine x_ialdJ (j := j) dReader_level_53 rfl rfl (by first | rfl | (simp only [← nI_add, ← pk_mul]; rfl)) (by omega) ?_
        -- at 54: .invokestatic 136
        rw [hPj.s25]
        refine x_callS_2 c_Reader_joins ok_Reader_joins ml_Reader_136 dReader_level_54 (ble_of (by omega)) rfl ?_
        refine ⟨l, _, rfl, hl, fun q => ?_, fun q => ?_⟩
        · obtain ⟨q1, q2⟩ := enc_sgn q
          have hj1 := hPj.more q2
          refine x_if_eq (tgt := 110) dReader_level_57 (by decide) (fun h => absurd h (by decide)) (fun _ => ?_)
          refine x_aload_n dReader_level_60 rfl ?_
          refine x_getR fl_Reader_19 rfl dReader_level_61 rfl rfl rfl ?_
          refine x_aload_n dReader_level_64 rfl ?_
          refine x_getI fl_Reader_31 rfl dReader_level_65 rfl rfl ?_
          -- at 68: .iaload
          rw [k1.2.1]
          refine x_ialdJ (j := j) dReader_level_68 rfl rfl (by first | rfl | (simp only [← nI_add, ← pk_mul]; rfl)) (by omega) ?_
          -- at 69: .istore 4
          rw [hPj.s25]
          refine x_istore_4 dReader_level_69 rfl rfl ?_
          refine x_aload_n dReader_level_71 rfl ?_
          refine x_dup dReader_level_72 rfl ?_
          refine x_getI fl_Reader_31 rfl dReader_level_73 rfl rfl ?_
          -- at 76: .iconst 1
          rw [k1.2.1]
          refine x_iconst (v := 1) dReader_level_76 rfl ?_
          refine x_iadd dReader_level_77 ?_
          -- at 78: .putfield 31
          rw [nI_1]
          refine x_putI fl_Reader_31 rfl dReader_level_78 (by decide) rfl rfl rfl rfl ?_
          refine x_aload_n dReader_level_81 rfl ?_
          refine x_iload_n dReader_level_82 rfl ?_
          refine x_iconst (v := 1) dReader_level_83 rfl ?_
          refine x_iadd dReader_level_84 ?_
          -- at 85: .iload_n 2
          rw [nI_1]
          refine x_iload_n dReader_level_85 rfl ?_
          -- at 86: .invokevirtual 50
          refine x_callV_2 h ok_Reader_level ml_Reader_50 dReader_level_86 (ble_of (Nat.le_refl _)) rfl rfl rfl rfl ?_
          refine ⟨T, j + 1, u + C.length, rfl, rfl, hPj.nx hj1, fun I3 j2 D k3 k4 => ?_, fun I3 j2 k3 k4 => ?_⟩
          · refine x_if_ne (tgt := 94) dReader_level_89 (by decide) (fun _ => ?_) (fun h => absurd h (by decide))
            refine x_aload_n dReader_level_94 rfl ?_
            refine x_sipush (v := 20000) dReader_level_95 rfl ?_
            refine x_iload dReader_level_98 rfl ?_
            refine x_iadd dReader_level_100 ?_
            -- at 101: .invokevirtual 139
            refine x_callV_1 c_Reader_step ok_Reader_step ml_Reader_139 dReader_level_101 (ble_of (by omega)) rfl rfl rfl rfl ?_
            have k5 : PSok I u I3 j2 (C ++ D) := (k1.nx (j + 1)).tr k3
            have hj2 := k4.2.1
            have hj3 := k4.1
            have hj4 := k2.1
            refine ⟨u + (C ++ D).length, _, rfl, rfl, k5.2.2.1, by rw [List.length_append]; omega, ?_⟩
            refine x_iincp_3 dReader_level_104 rfl rfl ?_
            refine x_goto (tgt := 37) dReader_level_107 (by decide) ?_
            -- at 37: .iload_n 3
            rw [nI_1]
            have k6 := k5.stp rfl (20000 + ts T j)
            rw [q1] at k6
            exact ih (n + 1) j2 _ _ _ (by omega) (by omega) k6 (bin_step hl k2 q k4)
          · refine x_if_ne (tgt := 94) dReader_level_89 (by decide) (fun h => absurd (by decide) h) (fun _ => ?_)
            refine x_iconst (v := 0) dReader_level_92 rfl ?_
            -- at 93: .ireturn
            refine x_ireturn dReader_level_93 rfl rfl ?_
            exact h2 I3 j2 ⟨((k1.1.nx _).tr k3.1), k3.2⟩ (bin_fail hl k2 q k4)
        · refine x_if_eq (tgt := 110) dReader_level_57 (by decide) (fun _ => ?_) (fun h => absurd (by decide) h)
          refine x_iconst (v := 1) dReader_level_110 rfl ?_
          -- at 111: .ireturn
          refine x_ireturn dReader_level_111 rfl rfl ?_
          exact h1 I' j C k1 (bin_done hl k2 q)
    exact loop 160 0 j I1 C _ rfl (by have := k2.1; omega) k1 (bin_init hl k2)
  · refine x_if_ne (tgt := 35) dReader_level_30 (by decide) (fun h => absurd (by decide) h) (fun _ => ?_)
    refine x_iconst (v := 0) dReader_level_33 rfl ?_
    -- at 34: .ireturn
    refine x_ireturn dReader_level_34 rfl rfl ?_
    exact h2 I1 j k1 (bin_no hl k2)
set_option maxHeartbeats 4000000 in
set_option maxRecDepth 100000 in
theorem c_lev_2 {op d : Nat} (h : Con mReader_negation d 0 0 (sp_negn op)) : Con mReader_level (d + 1) 0 0 (sp_lev 2 op) := by
  refine con_of_X rfl fun G as S I L Post hs => ?_
  obtain ⟨T, i, u, rfl, rfl, hP, h1, h2⟩ := hs
  refine ⟨2, Nat.le_of_ble_eq_true rfl, ?_⟩
  show X mReader_level G (d + 1, 0, 0) S1 I L 0 [.ref 23, .int (nI 2), .int (nI op), .null, .null] [] Post
  refine x_iload_n dReader_level_0 rfl ?_
  refine x_iconst (v := 2) dReader_level_1 rfl ?_
  -- at 2: .if_icmp .ne 9
  refine x_icmp_ne (tgt := 11) dReader_level_2 (by decide) (fun h => absurd rfl h) (fun _ => ?_)
  refine x_aload_n dReader_level_5 rfl ?_
  refine x_iload_n dReader_level_6 rfl ?_
  -- at 7: .invokevirtual 130
  refine x_callV_1 h ok_Reader_negation ml_Reader_130 dReader_level_7 (ble_of (Nat.le_refl _)) rfl rfl rfl rfl ?_
  refine ⟨T, i, u, rfl, rfl, hP, fun I1 j C k1 k2 => ?_, fun I1 j k1 k2 => ?_⟩
  · refine x_ireturn dReader_level_10 rfl rfl ?_
    exact h1 I1 j C k1 k2
  · refine x_ireturn dReader_level_10 rfl rfl ?_
    exact h2 I1 j k1 k2
set_option maxHeartbeats 4000000 in
set_option maxRecDepth 100000 in
theorem c_lev_5 {op d : Nat} (h : Con mReader_one d 0 0 (sp_onen op)) : Con mReader_level (d + 1) 0 0 (sp_lev 5 op) := by
  refine con_of_X rfl fun G as S I L Post hs => ?_
  obtain ⟨T, i, u, rfl, rfl, hP, h1, h2⟩ := hs
  refine ⟨2, Nat.le_of_ble_eq_true rfl, ?_⟩
  show X mReader_level G (d + 1, 0, 0) S1 I L 0 [.ref 23, .int (nI 5), .int (nI op), .null, .null] [] Post
  refine x_iload_n dReader_level_0 rfl ?_
  refine x_iconst (v := 2) dReader_level_1 rfl ?_
  -- at 2: .if_icmp .ne 9
  refine x_icmp_ne (tgt := 11) dReader_level_2 (by decide) (fun _ => ?_) (fun h => absurd h (by decide))
  refine x_iload_n dReader_level_11 rfl ?_
  refine x_iconst (v := 5) dReader_level_12 rfl ?_
  -- at 13: .if_icmp .lt 9
  refine x_icmp_lt (tgt := 22) dReader_level_13 (by decide) (fun h => absurd h (by decide)) (fun _ => ?_)
  refine x_aload_n dReader_level_16 rfl ?_
  refine x_iload_n dReader_level_17 rfl ?_
  -- at 18: .invokevirtual 133
  refine x_callV_1 h ok_Reader_one ml_Reader_133 dReader_level_18 (ble_of (Nat.le_refl _)) rfl rfl rfl rfl ?_
  refine ⟨T, i, u, rfl, rfl, hP, fun I1 j C k1 k2 => ?_, fun I1 j k1 k2 => ?_⟩
  · refine x_ireturn dReader_level_21 rfl rfl ?_
    exact h1 I1 j C k1 (one_lev k2)
  · refine x_ireturn dReader_level_21 rfl rfl ?_
    exact h2 I1 j k1 (one_levN k2)
