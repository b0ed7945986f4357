/-! texts: a TEXT is read, by the class -/
abbrev rdScr : List Nat := [23, 25, 26, 27, 28, 29]
def sp_Reader_reads : SpT := fun as S I L Post => ∃ z : Nat, as = [.ref 23] ∧ S = S1 ∧ I 23 1 = nI z ∧ z ≤ 160 ∧
  (∀ (a b c : List Int32), pt (tokS (I 24) z 0) = .inr (a, b, c) → ∀ I' : IM, Fr rdScr I I' → I' 23 1 = I 23 1 → (I' 29 0 = nI 0 ∧ I' 29 1 = nI a.length ∧ I' 29 2 = nI (a.length + b.length) ∧ I' 29 3 = nI (a.length + b.length + c.length)) →
    (∀ k, k < a.length + b.length + c.length → enc (I' 28 k) = (a ++ b ++ c).getD k 0) → a.length + b.length + c.length ≤ 160 → wfC a → wfC b → wfC c → Post (some (.int 1)) S1 I' L) ∧
  (∀ p : Nat, pt (tokS (I 24) z 0) = .inl p → ∀ (I' : IM) (j : Nat), Fr rdScr I I' → I' 23 1 = I 23 1 → I' 23 6 = nI j → j < 161 → I' 26 j = nI p → Post (some (.int 0)) S1 I' L)
theorem ptE_at {T : List Tok} {i p : Nat} (hi : i < T.length) : ptE (nI p) (T.drop i) = if ts T i = nI p then sy (T.drop (i + 1)) true true [] [] else .inl (tp T i) := by
  rw [drop_tk hi]
  rfl
set_option maxHeartbeats 4000000 in
set_option maxRecDepth 100000 in
theorem c_Reader_reads : Con mReader_reads 81 0 0 sp_Reader_reads := by
  refine con_of_X rfl fun G as S I L Post hs => ?_
  obtain ⟨z, rfl, rfl, hz, hz2, h1, h2⟩ := hs
  refine ⟨1, Nat.le_of_ble_eq_true rfl, ?_⟩
  show X mReader_reads G _ S1 I L 0 [.ref 23, .null] [] Post
  obtain ⟨hTg, hTl⟩ := tokS_good (I 24) z z 0 (by omega)
  generalize hT : tokS (I 24) z 0 = T at h1 h2 hTg hTl
  refine x_aload_n dReader_reads_0 rfl ?_
  -- at 1: .invokevirtual 43
  refine x_callV_0 c_Reader_cut ok_Reader_cut ml_Reader_43 dReader_reads_1 rfl rfl rfl rfl rfl ?_
  refine ⟨z, rfl, rfl, hz, hz2, fun I1 hF1 hs1 hTi => ?_⟩
  rw [hT] at hTi
  refine x_aload_n dReader_reads_4 rfl ?_
  refine x_iconst (v := 0) dReader_reads_5 rfl ?_
  refine x_putI fl_Reader_31 rfl dReader_reads_6 (by decide) rfl rfl rfl rfl ?_
  refine x_aload_n dReader_reads_9 rfl ?_
  refine x_iconst (v := 0) dReader_reads_10 rfl ?_
  refine x_putI fl_Reader_40 rfl dReader_reads_11 (by decide) rfl rfl rfl rfl ?_
  refine x_iconst (v := 0) dReader_reads_14 rfl ?_
  refine x_istoren_1 dReader_reads_15 rfl rfl ?_
  -- at 16: .iload_n 1
  have part : ∀ (p i u : Nat) (I1 : IM), p < 3 → PS I1 T i u →
      (∀ (I2 : IM) (j : Nat) (C : List Int32), PSok (up2 I1 29 p (nI u)) u I2 (j + 1) C → j + 1 < T.length → wfC C → u + C.length ≤ j + 1 → ptE (nI (4 + p)) (T.drop i) = .inr (C, T.drop (j + 1)) → X mReader_reads G (81, 0, 0) S1 I2 L 16 [.ref 23, .int (nI (p + 1))] [] Post) →
      (∀ (I2 : IM) (j : Nat), PSno (up2 I1 29 p (nI u)) I2 j → j < T.length → ptE (nI (4 + p)) (T.drop i) = .inl (tp T j) → Post (some (.int 0)) S1 I2 L) →
      X mReader_reads G (81, 0, 0) S1 I1 L 16 [.ref 23, .int (nI p)] [] Post := by
    intro p i u I1 hp hP k1 k2
    have hiT := hP.2.2.2.2.1
    have hP2 : PS (up2 I1 29 p (nI u)) T i u := by
      obtain ⟨a1, a2, a3, a4, a5, a6, a7⟩ := hP
      refine ⟨?_, by rw [up2_n _ _ _ (by decide)]; exact a2, by rw [up2_n _ _ _ (by decide)]; exact a3, a4, a5, a6, a7⟩
      unfold Tin at a1 ⊢
      rw [up2_n _ _ _ (by decide), up2_n _ _ _ (by decide), up2_n _ _ _ (by decide)]
      exact a1
    have no : ∀ (I2 : IM) (j : Nat), PSno (up2 I1 29 p (nI u)) I2 j → j < T.length → ptE (nI (4 + p)) (T.drop i) = .inl (tp T j) → X mReader_reads G (81, 0, 0) S1 I2 L 59 [.ref 23, .int (nI p)] [] Post := by
      intro I2 j q1 q2 q3
      refine x_iconst (v := 0) dReader_reads_59 rfl ?_
      -- at 60: .ireturn
      refine x_ireturn dReader_reads_60 rfl rfl ?_
      exact k2 I2 j q1 q2 q3
    refine x_iload_n dReader_reads_16 rfl ?_
    refine x_iconst (v := 3) dReader_reads_17 rfl ?_
    -- at 18: .if_icmp .ge 49
    refine x_icmp_ge (tgt := 67) dReader_reads_18 (by decide) (fun h => absurd h (nI_ge (b := 3) hp (by omega))) (fun _ => ?_)
    refine x_aload_n dReader_reads_21 rfl ?_
    refine x_getR fl_Reader_37 rfl dReader_reads_22 rfl rfl rfl ?_
    refine x_iload_n dReader_reads_25 rfl ?_
    refine x_aload_n dReader_reads_26 rfl ?_
    refine x_getI fl_Reader_40 rfl dReader_reads_27 rfl rfl ?_
    -- at 30: .iastore
    rw [hP.2.2.1]
    refine x_iastJ (j := p) dReader_reads_30 rfl rfl (by first | rfl | (simp only [← nI_add, ← pk_mul]; rfl)) (by omega) ?_
    refine x_aload_n dReader_reads_31 rfl ?_
    refine x_iconst (v := 4) dReader_reads_32 rfl ?_
    refine x_iload_n dReader_reads_33 rfl ?_
    refine x_iadd dReader_reads_34 ?_
    -- at 35: .invokevirtual 46
    refine x_eqi (y := nI (4 + p)) (nI_add 4 p) ?_
    refine x_callV_1 c_Reader_passes ok_Reader_passes ml_Reader_46 dReader_reads_35 rfl rfl rfl rfl rfl ?_
    refine ⟨T, i, u, _, rfl, rfl, hP2, fun q => ?_, fun q => ?_⟩
    · have hi1 := hP2.more (by rw [q]; exact fun y => absurd ((nI_eq (b := 0) (by omega) (by omega)).mp y) (by omega))
      have e0 := ptE_at (p := 4 + p) hiT
      rw [if_pos q] at e0
      refine x_if_eq (tgt := 59) dReader_reads_38 (by decide) (fun h => absurd h (by decide)) (fun _ => ?_)
      refine x_aload_n dReader_reads_41 rfl ?_
      refine x_iconst (v := 0) dReader_reads_42 rfl ?_
      refine x_iconst (v := 0) dReader_reads_43 rfl ?_
      -- at 44: .invokevirtual 50
      refine x_callV_2 c_E ok_Reader_level ml_Reader_50 dReader_reads_44 rfl rfl rfl rfl rfl ?_
      refine ⟨T, i + 1, u, rfl, rfl, hP2.nx hi1, fun I2 j C q1 q2 => ?_, fun I2 j q1 q2 => ?_⟩
      · have hj1 := q2.1
        have hj2 := q2.2.1
        have hui := hP.2.2.2.1
        have hPj : PS I2 T j (u + C.length) := PSok.ps (hP2.nx hi1) q1 (by omega) hj2
        have q3 : PSok (up2 I1 29 p (nI u)) u I2 j ([] ++ C) := ((PSok.nil hP2.2.1 hP2.2.2.1).nx (i + 1)).tr q1
        rw [e_end q2] at e0
        refine x_if_eq (tgt := 59) dReader_reads_47 (by decide) (fun h => absurd h (by decide)) (fun _ => ?_)
        refine x_aload_n dReader_reads_50 rfl ?_
        refine x_bipush (v := 59) dReader_reads_51 rfl ?_
        -- at 53: .invokevirtual 46
        refine x_callV_1 c_Reader_passes ok_Reader_passes ml_Reader_46 dReader_reads_53 rfl rfl rfl rfl rfl ?_
        refine ⟨T, j, u + C.length, _, rfl, rfl, hPj, fun g => ?_, fun g => ?_⟩
        · have hj3 := hPj.more (by rw [g]; decide)
          rw [if_pos g] at e0
          refine x_if_ne (tgt := 61) dReader_reads_56 (by decide) (fun _ => ?_) (fun h => absurd h (by decide))
          refine x_iincp_1 dReader_reads_61 rfl rfl ?_
          refine x_goto (tgt := 16) dReader_reads_64 (by decide) ?_
          -- at 16: .iload_n 1
          rw [nI_1]
          exact k1 _ j C (q3.nx (j + 1)) hj3 q2.2.2.2.1 (by omega) e0
        · rw [if_neg g] at e0
          refine x_if_ne (tgt := 61) dReader_reads_56 (by decide) (fun h => absurd (by decide) h) (fun _ => ?_)
          exact no I2 j ⟨q3.1, q3.2.1⟩ hj2 e0
      · refine x_if_eq (tgt := 59) dReader_reads_47 (by decide) (fun _ => ?_) (fun h => absurd (by decide) h)
        have e1 := q2.2.2 [] [] rfl (by decide)
        rw [show decide (0 ≤ 2) = true from rfl] at e1
        rw [e1] at e0
        exact no I2 j ⟨(PSf.rfl.nx _).tr q1.1, q1.2⟩ q2.2.1 e0
    · have e0 := ptE_at (p := 4 + p) hiT
      rw [if_neg q] at e0
      refine x_if_eq (tgt := 59) dReader_reads_38 (by decide) (fun _ => ?_) (fun h => absurd (by decide) h)
      exact no _ i ⟨PSf.rfl, hP2.2.1⟩ hiT e0
  generalize hJ : up2 (up2 I1 23 6 0) 23 9 0 = J
  have hJ25 : ∀ k, k ≠ 23 → J k = I1 k := fun k hk => by rw [← hJ, up2_n _ _ _ hk, up2_n _ _ _ hk]
  have hPJ : PS J T 0 0 := by
    refine ⟨?_, by rw [← hJ, up2_s, up1_n _ _ (by decide), up2_s, up1_s]; rfl, by rw [← hJ, up2_s, up1_s]; rfl, Nat.le_refl _, hTg.1, hTg, by omega⟩
    unfold Tin at hTi ⊢
    rw [hJ25 25 (by decide), hJ25 26 (by decide), hJ25 27 (by decide)]
    exact hTi
  have hFJ : Fr rdScr I J ∧ J 23 1 = I 23 1 := by
    refine ⟨fun k hk => ?_, ?_⟩
    · simp only [List.mem_cons, List.not_mem_nil, or_false, not_or] at hk
      rw [hJ25 k hk.1]
      exact hF1 k (by simp [hk])
    · rw [← hJ, up2_s, up1_n _ _ (by decide), up2_s, up1_n _ _ (by decide)]
      exact hs1 1 (by decide)
  have lift : ∀ (Ia Ib : IM) (p : Nat) (x : Int32), Fr rdScr I Ia → Ia 23 1 = I 23 1 → PSf (up2 Ia 29 p x) Ib → Fr rdScr I Ib ∧ Ib 23 1 = I 23 1 := by
    intro Ia Ib p x f1 f2 f3
    refine ⟨(f1.up (by decide) _ _).tr (f3.1.wk (by decide)), ?_⟩
    rw [f3.2 1 (by decide) (by decide), up2_n _ _ _ (by decide)]
    exact f2
  have bad : ∀ (Ib : IM) (j p : Nat), Fr rdScr I Ib → Ib 23 1 = I 23 1 → Ib 23 6 = nI j → j < T.length → Tin Ib T → pt T = .inl (tp T j) → Post (some (.int 0)) S1 Ib L := by
    intro Ib j p f1 f2 f3 f4 f5 f6
    exact h2 _ f6 Ib j f1 f2 f3 (by omega) (f5 j f4).2.1
  have tin29 : ∀ (Ia : IM) (p : Nat) (x : Int32), Tin Ia T → Tin (up2 Ia 29 p x) T := by
    intro Ia p x f
    unfold Tin at f ⊢
    rw [up2_n _ _ _ (by decide), up2_n _ _ _ (by decide), up2_n _ _ _ (by decide)]
    exact f
  refine part 0 0 0 J (by omega) hPJ (fun I2 j1 a q1 q2 q3 q4 q5 => ?_) (fun I2 j q1 q2 q3 => ?_)
  · obtain ⟨l1, l2⟩ := lift J I2 0 _ hFJ.1 hFJ.2 q1.1
    rw [Nat.zero_add] at q4
    have hP2 : PS I2 T (j1 + 1) a.length := ⟨q1.1.tin (tin29 _ _ _ hPJ.1), q1.2.1, by rw [q1.2.2.1, Nat.zero_add], q4, q2, hTg, by omega⟩
    refine part 1 (j1 + 1) a.length I2 (by omega) hP2 (fun I3 j2 b r1 r2 r3 r4 r5 => ?_) (fun I3 j r1 r2 r3 => ?_)
    · obtain ⟨m1, m2⟩ := lift I2 I3 1 _ l1 l2 r1.1
      have hP3 : PS I3 T (j2 + 1) (a.length + b.length) := ⟨r1.1.tin (tin29 _ _ _ hP2.1), r1.2.1, r1.2.2.1, r4, r2, hTg, by omega⟩
      refine part 2 (j2 + 1) (a.length + b.length) I3 (by omega) hP3 (fun I4 j3 c s1 s2 s3 s4 s5 => ?_) (fun I4 j s1 s2 s3 => ?_)
      · obtain ⟨n1, n2⟩ := lift I3 I4 2 _ m1 m2 s1.1
        have hT4 : Tin I4 T := s1.1.tin (tin29 _ _ _ hP3.1)
        have ept : pt T = if ts T (j3 + 1) = 0 then .inr (a, b, c) else .inl (tp T (j3 + 1)) := by
          unfold pt
          rw [show ptE 4 T = .inr (a, T.drop (j1 + 1)) from q5]
          dsimp only
          rw [show ptE 5 (T.drop (j1 + 1)) = .inr (b, T.drop (j2 + 1)) from r5]
          dsimp only
          rw [show ptE 6 (T.drop (j2 + 1)) = .inr (c, T.drop (j3 + 1)) from s5]
          dsimp only
          rw [drop_tk s2]
          rfl
        refine x_iload_n dReader_reads_16 rfl ?_
        refine x_iconst (v := 3) dReader_reads_17 rfl ?_
        -- at 18: .if_icmp .ge 49
        refine x_icmp_ge (tgt := 67) dReader_reads_18 (by decide) (fun _ => ?_) (fun h => absurd (Int32.le_refl _) h)
        refine x_aload_n dReader_reads_67 rfl ?_
        refine x_getR fl_Reader_37 rfl dReader_reads_68 rfl rfl rfl ?_
        refine x_iconst (v := 3) dReader_reads_71 rfl ?_
        refine x_aload_n dReader_reads_72 rfl ?_
        refine x_getI fl_Reader_40 rfl dReader_reads_73 rfl rfl ?_
        -- at 76: .iastore
        rw [s1.2.2.1]
        refine x_iastJ (j := 3) dReader_reads_76 rfl rfl (by first | rfl | (simp only [← nI_add, ← pk_mul]; rfl)) (by omega) ?_
        refine x_aload_n dReader_reads_77 rfl ?_
        refine x_getR fl_Reader_19 rfl dReader_reads_78 rfl rfl rfl ?_
        refine x_aload_n dReader_reads_81 rfl ?_
        refine x_getI fl_Reader_31 rfl dReader_reads_82 rfl rfl ?_
        -- at 85: .iaload
        simp only [up2_n, up2_s, ne_eq, Nat.reduceEqDiff, not_false_eq_true, s1.2.1]
        refine x_ialdJ (j := j3 + 1) dReader_reads_85 rfl rfl (by first | rfl | (simp only [← nI_add, ← pk_mul]; rfl)) (by omega) ?_
        -- at 86: .ifCond .ne 7
        simp only [up2_n, up2_s, ne_eq, Nat.reduceEqDiff, not_false_eq_true]
        rw [(hT4 (j3 + 1) s2).1]
        have n3 : Fr rdScr I (up2 I4 29 3 (nI (a.length + b.length + c.length))) := n1.up (by decide) _ _
        have n4 : up2 I4 29 3 (nI (a.length + b.length + c.length)) 23 1 = I 23 1 := by rw [up2_n _ _ _ (by decide)]; exact n2
        by_cases e0 : ts T (j3 + 1) = 0
        · rw [if_pos e0] at ept
          refine x_if_ne (tgt := 93) dReader_reads_86 (by decide) (fun h => absurd e0 h) (fun _ => ?_)
          refine x_iconst (v := 1) dReader_reads_89 rfl ?_
          refine x_goto (tgt := 94) dReader_reads_90 (by decide) ?_
          -- at 94: .ireturn
          refine x_ireturn dReader_reads_94 rfl rfl ?_
          refine h1 a b c ept _ n3 n4 ⟨?_, ?_, ?_, by rw [up2_s, up1_s]⟩ (fun k hk => ?_) (by omega) q3 r3 s3
          · rw [up2_s, up1_n _ _ (by decide), s1.1.1 29 (by decide), up2_s, up1_n _ _ (by decide), r1.1.1 29 (by decide), up2_s, up1_n _ _ (by decide), q1.1.1 29 (by decide), up2_s, up1_s]
          · rw [up2_s, up1_n _ _ (by decide), s1.1.1 29 (by decide), up2_s, up1_n _ _ (by decide), r1.1.1 29 (by decide), up2_s, up1_s]
          · rw [up2_s, up1_n _ _ (by decide), s1.1.1 29 (by decide), up2_s, up1_s]
          · rw [up2_n _ _ _ (by decide)]
            by_cases z1 : k < a.length
            · rw [s1.2.2.2.1 k (by omega), up2_n _ _ _ (by decide), r1.2.2.2.1 k z1, up2_n _ _ _ (by decide)]
              have := q1.2.2.2.2 k z1
              rw [Nat.zero_add] at this
              rw [this]
              simp [List.getD_eq_getElem?_getD, List.getElem?_append_left z1]
            · by_cases z2 : k < a.length + b.length
              · rw [s1.2.2.2.1 k z2, up2_n _ _ _ (by decide)]
                have := r1.2.2.2.2 (k - a.length) (by omega)
                rw [show a.length + (k - a.length) = k by omega] at this
                rw [this]
                simp [List.getD_eq_getElem?_getD, List.getElem?_append_right (show a.length ≤ k by omega), List.getElem?_append_left (show k - a.length < b.length by omega)]
              · have := s1.2.2.2.2 (k - (a.length + b.length)) (by omega)
                rw [show a.length + b.length + (k - (a.length + b.length)) = k by omega] at this
                rw [this]
                simp [List.getD_eq_getElem?_getD, List.getElem?_append_right (show a.length ≤ k by omega), List.getElem?_append_right (show b.length ≤ k - a.length by omega), Nat.sub_add_eq]
        · rw [if_neg e0] at ept
          refine x_if_ne (tgt := 93) dReader_reads_86 (by decide) (fun _ => ?_) (fun h => absurd h e0)
          refine x_iconst (v := 0) dReader_reads_93 rfl ?_
          -- at 94: .ireturn
          refine x_ireturn dReader_reads_94 rfl rfl ?_
          exact bad _ (j3 + 1) 0 n3 n4 (by rw [up2_n _ _ _ (by decide)]; exact s1.2.1) s2 (tin29 _ _ _ hT4) ept
      · obtain ⟨n1, n2⟩ := lift I3 I4 2 _ m1 m2 s1.1
        refine bad I4 j 0 n1 n2 s1.2 s2 (s1.1.tin (tin29 _ _ _ hP3.1)) ?_
        unfold pt
        rw [show ptE 4 T = .inr (a, T.drop (j1 + 1)) from q5]
        dsimp only
        rw [show ptE 5 (T.drop (j1 + 1)) = .inr (b, T.drop (j2 + 1)) from r5]
        dsimp only
        rw [show ptE 6 (T.drop (j2 + 1)) = .inl (tp T j) from s3]
    · obtain ⟨n1, n2⟩ := lift I2 I3 1 _ l1 l2 r1.1
      refine bad I3 j 0 n1 n2 r1.2 r2 (r1.1.tin (tin29 _ _ _ hP2.1)) ?_
      unfold pt
      rw [show ptE 4 T = .inr (a, T.drop (j1 + 1)) from q5]
      dsimp only
      rw [show ptE 5 (T.drop (j1 + 1)) = .inl (tp T j) from r3]
  · obtain ⟨n1, n2⟩ := lift J I2 0 _ hFJ.1 hFJ.2 q1.1
    refine bad I2 j 0 n1 n2 q1.2 q2 (q1.1.tin (tin29 _ _ _ hPJ.1)) ?_
    unfold pt
    rw [show ptE 4 T = .inl (tp T j) from q3]
def sp_Reader_put : SpT := fun as S I L Post => ∃ (z : Nat) (b : Int32), as = [.ref 23, .int b] ∧ S = S1 ∧ I 23 1 = nI z ∧ z < 160 ∧ Post none S1 (up2 (up2 I 24 z b) 23 1 (nI (z + 1))) L
set_option maxHeartbeats 4000000 in
set_option maxRecDepth 100000 in
theorem c_Reader_put : Con mReader_put 2 0 0 sp_Reader_put := by
  refine con_of_X rfl fun G as S I L Post hs => ?_
  obtain ⟨z, b, rfl, rfl, hz, h160, h1⟩ := hs
  refine ⟨0, Nat.le_of_ble_eq_true rfl, ?_⟩
  show X mReader_put G _ S1 I L 0 [.ref 23, .int b] [] Post
  refine x_aload_n dReader_put_0 rfl ?_
  refine x_getI fl_Reader_15 rfl dReader_put_1 rfl rfl ?_
  refine x_sipush (v := 160) dReader_put_4 rfl ?_
  -- at 7: .if_icmp .ge 23
  rw [hz]
  refine x_icmp_ge (tgt := 30) dReader_put_7 (by decide) (fun h => absurd h (nI_ge (b := 160) h160 (by omega))) (fun _ => ?_)
  refine x_aload_n dReader_put_10 rfl ?_
  refine x_getR fl_Reader_9 rfl dReader_put_11 rfl rfl rfl ?_
  refine x_aload_n dReader_put_14 rfl ?_
  refine x_getI fl_Reader_15 rfl dReader_put_15 rfl rfl ?_
  -- at 18: .iload_n 1
  rw [hz]
  refine x_iload_n dReader_put_18 rfl ?_
  refine x_iastJ (j := z) dReader_put_19 rfl rfl (by first | rfl | (simp only [← nI_add, ← pk_mul]; rfl)) (by omega) ?_
  refine x_aload_n dReader_put_20 rfl ?_
  refine x_dup dReader_put_21 rfl ?_
  refine x_getI fl_Reader_15 rfl dReader_put_22 rfl rfl ?_
  -- at 25: .iconst 1
  simp only [up2_n, up2_s, ne_eq, Nat.reduceEqDiff, not_false_eq_true, hz]
  refine x_iconst (v := 1) dReader_put_25 rfl ?_
  refine x_iadd dReader_put_26 ?_
  -- at 27: .putfield 15
  rw [nI_1]
  refine x_putI fl_Reader_15 rfl dReader_put_27 (by decide) rfl rfl rfl rfl ?_
  -- at 30: .return_
  refine x_return dReader_put_30 rfl ?_
  exact h1
def sp_Reader_clear : SpT := fun as S I L Post => as = [.ref 23] ∧ S = S1 ∧ Post none S1 (up2 I 23 1 0) L
set_option maxHeartbeats 4000000 in
set_option maxRecDepth 100000 in
theorem c_Reader_clear : Con mReader_clear 2 0 0 sp_Reader_clear := by
  refine con_of_X rfl fun G as S I L Post hs => ?_
  obtain ⟨rfl, rfl, h1⟩ := hs
  refine ⟨0, Nat.le_of_ble_eq_true rfl, ?_⟩
  show X mReader_clear G _ S1 I L 0 [.ref 23] [] Post
  refine x_aload_n dReader_clear_0 rfl ?_
  refine x_iconst (v := 0) dReader_clear_1 rfl ?_
  refine x_putI fl_Reader_15 rfl dReader_clear_2 (by decide) rfl rfl rfl rfl ?_
  -- at 5: .return_
  refine x_return dReader_clear_5 rfl ?_
  exact h1
def sp_Reader_fault : SpT := fun as S I L Post => ∃ j : Nat, as = [.ref 23] ∧ S = S1 ∧ I 23 6 = nI j ∧ j < 161 ∧ Post (some (.int (I 26 j))) S1 I L
set_option maxHeartbeats 4000000 in
set_option maxRecDepth 100000 in
theorem c_Reader_fault : Con mReader_fault 2 0 0 sp_Reader_fault := by
  refine con_of_X rfl fun G as S I L Post hs => ?_
  obtain ⟨j, rfl, rfl, hj, h161, h1⟩ := hs
  refine ⟨0, Nat.le_of_ble_eq_true rfl, ?_⟩
  show X mReader_fault G _ S1 I L 0 [.ref 23] [] Post
  refine x_aload_n dReader_fault_0 rfl ?_
  refine x_getR fl_Reader_22 rfl dReader_fault_1 rfl rfl rfl ?_
  refine x_aload_n dReader_fault_4 rfl ?_
  refine x_getI fl_Reader_31 rfl dReader_fault_5 rfl rfl ?_
  -- at 8: .iaload
  rw [hj]
  refine x_ialdJ (j := j) dReader_fault_8 rfl rfl (by first | rfl | (simp only [← nI_add, ← pk_mul]; rfl)) (by omega) ?_
  -- at 9: .ireturn
  refine x_ireturn dReader_fault_9 rfl rfl ?_
  exact h1
def taU (I : IM) (t : Nat) : IM := up2 (upr (upr I 31 (va_cpy (I 28) (I 31) 0 (t * 160) 160)) 32 (va_cpy (I 29) (I 32) 0 (t * 4) 4)) 30 2 (nI t + 1)
def sp_Texts_add : SpT := fun as S I L Post => ∃ t : Nat, as = [.ref 30, .ref 23] ∧ S = S1 ∧ I 30 2 = nI t ∧ t < 6 ∧ Post (some (.int (nI t))) S1 (taU I t) L
set_option maxHeartbeats 4000000 in
set_option maxRecDepth 100000 in
theorem c_Texts_add : Con mTexts_add 2 0 0 sp_Texts_add := by
  refine con_of_X rfl fun G as S I L Post hs => ?_
  obtain ⟨t, rfl, rfl, ht, h6, h1⟩ := hs
  have nn : ∀ k, k < 1000 → ¬ nI k < (0 : Int32) := fun k hk => Int32.not_lt.mpr (nI_le (a := 0) (by omega) (by omega))
  have c160 : (nI (t * 160)).toNatClampNeg = t * 160 := nI_clamp (by omega)
  have c4 : (nI (t * 4)).toNatClampNeg = t * 4 := nI_clamp (by omega)
  refine ⟨1, Nat.le_of_ble_eq_true rfl, ?_⟩
  show X mTexts_add G _ S1 I L 0 [.ref 30, .ref 23, .null] [] Post
  refine x_aload_n dTexts_add_0 rfl ?_
  refine x_getI fl_Texts_18 rfl dTexts_add_1 rfl rfl ?_
  -- at 4: .istore_n 2
  rw [ht]
  refine x_istoren_2 dTexts_add_4 rfl rfl ?_
  refine x_aload_n dTexts_add_5 rfl ?_
  refine x_getR fl_Texts_31 rfl dTexts_add_6 rfl rfl rfl ?_
  refine x_iconst (v := 0) dTexts_add_9 rfl ?_
  refine x_aload_n dTexts_add_10 rfl ?_
  refine x_getR fl_Texts_9 rfl dTexts_add_11 rfl rfl rfl ?_
  refine x_iload_n dTexts_add_14 rfl ?_
  refine x_sipush (v := 160) dTexts_add_15 rfl ?_
  refine x_imul dTexts_add_18 ?_
  -- at 19: .sipush 160
  rw [show nI t * 160 = nI (t * 160) from pk_mul t 160]
  refine x_sipush (v := 160) dTexts_add_19 rfl ?_
  -- at 22: .invokestatic 34
  refine x_acopy dTexts_add_22 ml_Texts_34 na_ac st_ac it_System rfl rfl rfl rfl rfl rfl (by decide) (nn _ (by omega)) (by decide) (by decide) (by rw [c160]; show t * 160 + 160 ≤ 960; omega) ?_
  refine x_aload_n dTexts_add_25 rfl ?_
  refine x_getR fl_Texts_40 rfl dTexts_add_26 rfl rfl rfl ?_
  refine x_iconst (v := 0) dTexts_add_29 rfl ?_
  refine x_aload_n dTexts_add_30 rfl ?_
  refine x_getR fl_Texts_15 rfl dTexts_add_31 rfl rfl rfl ?_
  refine x_iload_n dTexts_add_34 rfl ?_
  refine x_iconst (v := 4) dTexts_add_35 rfl ?_
  refine x_imul dTexts_add_36 ?_
  -- at 37: .iconst 4
  rw [show nI t * 4 = nI (t * 4) from pk_mul t 4]
  refine x_iconst (v := 4) dTexts_add_37 rfl ?_
  -- at 38: .invokestatic 34
  refine x_acopy dTexts_add_38 ml_Texts_34 na_ac st_ac it_System rfl rfl rfl rfl rfl rfl (by decide) (nn _ (by omega)) (by decide) (by decide) (by rw [c4]; show t * 4 + 4 ≤ 24; omega) ?_
  simp only [up2_n, up2_s, ne_eq, Nat.reduceEqDiff, not_false_eq_true, upr_n, c160, c4]
  refine x_aload_n dTexts_add_41 rfl ?_
  refine x_iload_n dTexts_add_42 rfl ?_
  refine x_iconst (v := 1) dTexts_add_43 rfl ?_
  refine x_iadd dTexts_add_44 ?_
  refine x_putI fl_Texts_18 rfl dTexts_add_45 (by decide) rfl rfl rfl rfl ?_
  refine x_iload_n dTexts_add_48 rfl ?_
  -- at 49: .ireturn
  refine x_ireturn dTexts_add_49 rfl rfl ?_
  exact h1
