/-! the reference: a text's program; how well one hears -/
theorem rE_fr {I I' : IM} (h : Fr [93, 94, 95, 96, 97, 98, 99] I I') : rE I' = rE I := by
  have e : ∀ k, k ∉ [93, 94, 95, 96, 97, 98, 99] → I' k = I k := h
  funext a
  have e29 : rSc I' = rSc I := by
    funext j
    unfold rSc
    rw [e 59 (by decide)]
  unfold rE
  rw [e29, e 59 (by decide), e 60 (by decide), e 61 (by decide), e 62 (by decide), e 63 (by decide), e 64 (by decide), e 65 (by decide), e 66 (by decide), e 67 (by decide), e 68 (by decide), e 69 (by decide), e 70 (by decide), e 71 (by decide), e 72 (by decide), e 73 (by decide), e 74 (by decide), e 75 (by decide), e 76 (by decide), e 77 (by decide), e 78 (by decide), e 79 (by decide), e 80 (by decide), e 81 (by decide), e 82 (by decide), e 83 (by decide), e 84 (by decide), e 85 (by decide), e 86 (by decide), e 87 (by decide), e 88 (by decide), e 89 (by decide), e 90 (by decide)]
theorem rV_fr {I I' : IM} (h : Fr [93, 94, 95, 96, 97, 98, 99] I I') : rV I' = rV I := by
  have e : ∀ k, k ∉ [93, 94, 95, 96, 97, 98, 99] → I' k = I k := h
  funext a
  unfold rV
  rw [e 60 (by decide), e 61 (by decide), e 62 (by decide), e 63 (by decide), e 64 (by decide), e 65 (by decide), e 66 (by decide), e 67 (by decide), e 68 (by decide), e 69 (by decide), e 70 (by decide), e 71 (by decide), e 72 (by decide), e 73 (by decide), e 74 (by decide), e 75 (by decide), e 76 (by decide), e 77 (by decide)]
theorem rOwn.fr {I I' : IM} (h : Fr [93, 94, 95, 96, 97, 98, 99] I I') (ho : rOwn I) : rOwn I' := by
  unfold rOwn
  rw [h 59 (by decide), h 92 (by decide)]
  exact ho
def TxtR (I : IM) (P : Nat → List Int32) (t : Nat) : Prop := t < 6 ∧ ∀ j, j < 3 → ∃ a, I 80 (4 * t + j) = nI a ∧ I 80 (4 * t + j + 1) = nI (a + (P j).length) ∧ a + (P j).length ≤ 160 ∧ (∀ i, i < (P j).length → I 79 (200 * t + (a + i)) = (P j).getD i 0) ∧ wfR (P j) 0 = some 1
def RTx (I : IM) (P : Nat → List Int32) : Prop := ∃ t, I 59 27 = nI t ∧ TxtR I P t
theorem RTx.fr {I I' : IM} {P : Nat → List Int32} (h : RTx I P) (h0 : I' 59 = I 59) (h1 : I' 79 = I 79) (h2 : I' 80 = I 80) : RTx I' P := by
  unfold RTx TxtR at h ⊢
  rw [h0, h1, h2]
  exact h
theorem wfR_cases {c : Int32} {t : List Int32} {h o : Nat} (hw : wfR (c :: t) h = some o) : (∃ n, n < 10000 ∧ c = nI (n + 100000)) ∨ (∃ n, n < 6 ∧ c = nI n) ∨ c = 13 ∨ c = 19 ∨ binC c := by
  rw [wfR] at hw
  by_cases h1 : (100000 ≤ c ∧ c < 110000) ∨ (0 ≤ c ∧ c < 6)
  · rcases h1 with ⟨a, b⟩ | ⟨a, b⟩
    · obtain ⟨n, hn, e⟩ := rng_of (n := 110000) rfl (by omega) (Int32.le_trans (by decide) a) b
      rw [e] at a
      have h3 := (nI_leI (a := 100000) (by omega) (by omega)).mp a
      exact Or.inl ⟨n - 100000, by omega, by rw [e]; congr 1; omega⟩
    · obtain ⟨n, hn, e⟩ := rng_of (n := 6) rfl (by omega) a b
      exact Or.inr (Or.inl ⟨n, hn, e⟩)
  · rw [if_neg h1] at hw
    by_cases h2 : c = 13 ∨ c = 19
    · exact Or.inr (Or.inr (h2.elim Or.inl (fun z => Or.inr (Or.inl z))))
    · rw [if_neg h2] at hw
      by_cases h3 : c = 11 ∨ c = 12 ∨ (14 ≤ c ∧ c ≤ 18)
      · refine Or.inr (Or.inr (Or.inr (Or.inr ?_)))
        rcases h3 with h3 | h3 | h3
        · exact Or.inl h3
        · exact Or.inr (Or.inl h3)
        · obtain ⟨k, hk, e⟩ := nat_of (n := 18) (by decide) (by decide) h3
          rw [e] at h3
          have h4 := (nI_leI (a := 14) (by omega) (by omega)).mp h3.1
          rw [e]
          rcases (show k = 14 ∨ k = 15 ∨ k = 16 ∨ k = 17 ∨ k = 18 by omega) with rfl | rfl | rfl | rfl | rfl <;> decide
      · rw [if_neg h3] at hw
        cases hw
def sp_R_two : SpT := fun as S I L Post => ∃ c x y : Int32, as = [.int c, .int x, .int y] ∧ binC c ∧ Post (some (.int (two c x y))) S I L
set_option maxHeartbeats 4000000 in
set_option maxRecDepth 100000 in
theorem c_R_two : Con mR_two 2 0 0 sp_R_two := by
  refine con_of_X rfl fun G as S I L Post hs => ?_
  obtain ⟨c, x, y, rfl, hc, h1⟩ := hs
  refine ⟨0, Nat.le_of_ble_eq_true rfl, ?_⟩
  show X mR_two G _ S I L 0 [.int c, .int x, .int y] [] Post
  refine x_iload_n dR_two_0 rfl ?_
  -- at 1: .tableswitch 101 11 17 #[43, 57, 101, 71, 82, 93, 97]
  rcases hc with rfl | rfl | rfl | rfl | rfl | rfl | rfl
  · refine x_tableIn (tgt := 44) dR_two_1 (by decide) (by decide) rfl (by decide) ?_
    have h1 : Post (some (.int (b2i (¬ x = 0 ∨ ¬ y = 0)))) S I L := h1
    have yes : (¬ x = 0 ∨ ¬ y = 0) → X mR_two G (2, 0, 0) S I L 52 [.int 11, .int x, .int y] [] Post := by
      intro h
      rw [b2i, if_pos h] at h1
      refine x_iconst (v := 1) dR_two_52 rfl ?_
      refine x_goto (tgt := 57) dR_two_53 (by decide) ?_
      -- at 57: .ireturn
      refine x_ireturn dR_two_57 rfl rfl ?_
      exact h1
    refine x_iload_n dR_two_44 rfl ?_
    -- at 45: .ifCond .ne 7
    refine x_if_ne (tgt := 52) dR_two_45 (by decide) (fun c1 => ?_) (fun c1 => ?_)
    · exact yes (Or.inl c1)
    · refine x_iload_n dR_two_48 rfl ?_
      -- at 49: .ifCond .eq 7
      refine x_if_eq (tgt := 56) dR_two_49 (by decide) (fun c2 => ?_) (fun c2 => ?_)
      · rw [b2i, if_neg (fun z => z.elim (fun y => y c1) (fun y => y c2))] at h1
        refine x_iconst (v := 0) dR_two_56 rfl ?_
        -- at 57: .ireturn
        refine x_ireturn dR_two_57 rfl rfl ?_
        exact h1
      · exact yes (Or.inr c2)
  · refine x_tableIn (tgt := 58) dR_two_1 (by decide) (by decide) rfl (by decide) ?_
    have h1 : Post (some (.int (b2i (¬ x = 0 ∧ ¬ y = 0)))) S I L := h1
    have no : ¬ (¬ x = 0 ∧ ¬ y = 0) → X mR_two G (2, 0, 0) S I L 70 [.int 12, .int x, .int y] [] Post := by
      intro h
      rw [b2i, if_neg h] at h1
      refine x_iconst (v := 0) dR_two_70 rfl ?_
      -- at 71: .ireturn
      refine x_ireturn dR_two_71 rfl rfl ?_
      exact h1
    refine x_iload_n dR_two_58 rfl ?_
    -- at 59: .ifCond .eq 11
    refine x_if_eq (tgt := 70) dR_two_59 (by decide) (fun c1 => ?_) (fun c1 => ?_)
    · exact no (fun z => z.1 c1)
    · refine x_iload_n dR_two_62 rfl ?_
      -- at 63: .ifCond .eq 7
      refine x_if_eq (tgt := 70) dR_two_63 (by decide) (fun c2 => ?_) (fun c2 => ?_)
      · exact no (fun z => z.2 c2)
      · rw [b2i, if_pos ⟨c1, c2⟩] at h1
        refine x_iconst (v := 1) dR_two_66 rfl ?_
        refine x_goto (tgt := 71) dR_two_67 (by decide) ?_
        -- at 71: .ireturn
        refine x_ireturn dR_two_71 rfl rfl ?_
        exact h1
  · refine x_tableIn (tgt := 72) dR_two_1 (by decide) (by decide) rfl (by decide) ?_
    have h1 : Post (some (.int (b2i (x < y)))) S I L := h1
    refine x_iload_n dR_two_72 rfl ?_
    refine x_iload_n dR_two_73 rfl ?_
    -- at 74: .if_icmp .ge 7
    refine x_icmp_ge (tgt := 81) dR_two_74 (by decide) (fun c1 => ?_) (fun c1 => ?_)
    · rw [b2i, if_neg (Int32.not_lt.mpr c1)] at h1
      refine x_iconst (v := 0) dR_two_81 rfl ?_
      -- at 82: .ireturn
      refine x_ireturn dR_two_82 rfl rfl ?_
      exact h1
    · rw [b2i, if_pos (Int32.not_le.mp c1)] at h1
      refine x_iconst (v := 1) dR_two_77 rfl ?_
      refine x_goto (tgt := 82) dR_two_78 (by decide) ?_
      -- at 82: .ireturn
      refine x_ireturn dR_two_82 rfl rfl ?_
      exact h1
  · refine x_tableIn (tgt := 83) dR_two_1 (by decide) (by decide) rfl (by decide) ?_
    have h1 : Post (some (.int (b2i (x = y)))) S I L := h1
    refine x_iload_n dR_two_83 rfl ?_
    refine x_iload_n dR_two_84 rfl ?_
    -- at 85: .if_icmp .ne 7
    refine x_icmp_ne (tgt := 92) dR_two_85 (by decide) (fun c1 => ?_) (fun c1 => ?_)
    · rw [b2i, if_neg c1] at h1
      refine x_iconst (v := 0) dR_two_92 rfl ?_
      -- at 93: .ireturn
      refine x_ireturn dR_two_93 rfl rfl ?_
      exact h1
    · rw [b2i, if_pos c1] at h1
      refine x_iconst (v := 1) dR_two_88 rfl ?_
      refine x_goto (tgt := 93) dR_two_89 (by decide) ?_
      -- at 93: .ireturn
      refine x_ireturn dR_two_93 rfl rfl ?_
      exact h1
  · refine x_tableIn (tgt := 94) dR_two_1 (by decide) (by decide) rfl (by decide) ?_
    refine x_iload_n dR_two_94 rfl ?_
    refine x_iload_n dR_two_95 rfl ?_
    refine x_iadd dR_two_96 ?_
    -- at 97: .ireturn
    refine x_ireturn dR_two_97 rfl rfl ?_
    exact h1
  · refine x_tableIn (tgt := 98) dR_two_1 (by decide) (by decide) rfl (by decide) ?_
    refine x_iload_n dR_two_98 rfl ?_
    refine x_iload_n dR_two_99 rfl ?_
    refine x_isub dR_two_100 ?_
    -- at 101: .ireturn
    refine x_ireturn dR_two_101 rfl rfl ?_
    exact h1
  · refine x_tableOut (tgt := 102) dR_two_1 (by decide) (by decide) ?_
    refine x_iload_n dR_two_102 rfl ?_
    refine x_iload_n dR_two_103 rfl ?_
    refine x_imul dR_two_104 ?_
    -- at 105: .ireturn
    refine x_ireturn dR_two_105 rfl rfl ?_
    exact h1
theorem r4 (a b : Nat) : (4 : Int32) * nI a + nI b = nI (4 * a + b) := by
  rw [show (4 : Int32) = nI 4 from rfl, pk_mul, nI_add]
theorem r41 (a b : Nat) : (4 : Int32) * nI a + nI b + 1 = nI (4 * a + b + 1) := by
  rw [r4, nI_1]
theorem r200 (a b : Nat) : (200 : Int32) * nI a + nI b = nI (200 * a + b) := by
  rw [show (200 : Int32) = nI 200 from rfl, pk_mul, nI_add]
def sp_R_worthOf : SpT := fun as S I L Post => ∃ (j : Nat) (P : Nat → List Int32), as = [.ref 59, .int (nI j)] ∧ S = S1 ∧ j < 3 ∧ RTx I P ∧ ∀ I' : IM, Fr [94] I I' → Post (some (.int (valP (I 95) (P j)))) S1 I' L
set_option maxHeartbeats 4000000 in
set_option maxRecDepth 100000 in
theorem worth_loop {G : WG} {I : IM} {L : LM} {Post : PostT} {t j e : Nat} {V : Int32} (ht : t < 6) (hj : j < 3) (hr : I 59 27 = nI t) (hE : I 80 (4 * t + j + 1) = nI e) (he : e ≤ 160) (hp : ∀ I' : IM, Fr [94] I I' → Post (some (.int V)) S1 I' L) :
    ∀ (rs : List Int32) (i : Nat) (st : List Int32) (I' : IM) (a4 : Value), Fr [94] I I' → i + rs.length = e → (∀ k, k < rs.length → I 79 (200 * t + (i + k)) = rs.getD k 0) → wfR rs st.length = some 1 → st.length ≤ i → Held (I' 94) st → (runP (I 95) rs st).headD 0 = V →
    X mR_worthOf G (3, 0, 0) S1 I' L 16 [.ref 59, .int (nI j), .int (nI st.length), .int (nI i), a4] [] Post := by
  intro rs
  induction rs with
  | nil =>
    intro i st I' a4 hF hi hc hw hst hH hV
    have e59 : I' 59 = I 59 := hF 59 (by decide)
    have e80 : I' 80 = I 80 := hF 80 (by decide)
    refine x_iload_n dR_worthOf_16 rfl ?_
    refine x_aload_n dR_worthOf_17 rfl ?_
    refine x_getR fl_R_74 rfl dR_worthOf_18 rfl rfl rfl ?_
    refine x_iconst (v := 4) dR_worthOf_21 rfl ?_
    refine x_aload_n dR_worthOf_22 rfl ?_
    refine x_getI fl_R_164 rfl dR_worthOf_23 rfl rfl ?_
    -- at 26: .imul
    rw [e59, hr]
    refine x_imul dR_worthOf_26 ?_
    refine x_iload_n dR_worthOf_27 rfl ?_
    refine x_iadd dR_worthOf_28 ?_
    refine x_iconst (v := 1) dR_worthOf_29 rfl ?_
    refine x_iadd dR_worthOf_30 ?_
    refine x_ialdJ dR_worthOf_31 rfl rfl (r41 t j) (by omega) ?_
    -- at 32: .if_icmp .ge 165
    rw [e80, hE]
    obtain rfl : i = e := by simpa using hi
    refine x_icmp_ge (tgt := 197) dR_worthOf_32 (by decide) (fun _ => ?_) (fun h => absurd (Int32.le_refl _) h)
    have h1 : st.length = 1 := by simpa [wfR] using hw
    refine x_aload_n dR_worthOf_197 rfl ?_
    refine x_getR fl_R_116 rfl dR_worthOf_198 rfl rfl rfl ?_
    refine x_iconst (v := 0) dR_worthOf_201 rfl ?_
    -- at 202: .iaload
    refine x_ialdJ (j := 0) dR_worthOf_202 rfl rfl rfl (by omega) ?_
    refine x_ireturn dR_worthOf_203 rfl rfl ?_
    match st, h1 with
    | [y], _ =>
      rw [show I' 94 0 = y from hH.top, show y = V from hV]
      exact hp I' hF
  | cons c rs ih =>
    intro i st I' a4 hF hi hc hw hst hH hV
    have e59 : I' 59 = I 59 := hF 59 (by decide)
    have e80 : I' 80 = I 80 := hF 80 (by decide)
    have e79 : I' 79 = I 79 := hF 79 (by decide)
    have e95 : I' 95 = I 95 := hF 95 (by decide)
    rw [List.length_cons] at hi
    have hc0 := hc 0 (by simp)
    have hcr : ∀ k, k < rs.length → I 79 (200 * t + (i + 1 + k)) = rs.getD k 0 := fun k hk => by
      have := hc (k + 1) (by simp; omega)
      rw [show i + 1 + k = i + (k + 1) by omega, this]
      simp
    simp only [Nat.add_zero, List.getD_cons_zero] at hc0
    refine x_iload_n dR_worthOf_16 rfl ?_
    refine x_aload_n dR_worthOf_17 rfl ?_
    refine x_getR fl_R_74 rfl dR_worthOf_18 rfl rfl rfl ?_
    refine x_iconst (v := 4) dR_worthOf_21 rfl ?_
    refine x_aload_n dR_worthOf_22 rfl ?_
    refine x_getI fl_R_164 rfl dR_worthOf_23 rfl rfl ?_
    -- at 26: .imul
    rw [e59, hr]
    refine x_imul dR_worthOf_26 ?_
    refine x_iload_n dR_worthOf_27 rfl ?_
    refine x_iadd dR_worthOf_28 ?_
    refine x_iconst (v := 1) dR_worthOf_29 rfl ?_
    refine x_iadd dR_worthOf_30 ?_
    refine x_ialdJ dR_worthOf_31 rfl rfl (r41 t j) (by omega) ?_
    -- at 32: .if_icmp .ge 165
    rw [e80, hE]
    refine x_icmp_ge (tgt := 197) dR_worthOf_32 (by decide) (fun h => absurd h (nI_ge (b := e) (by omega) (by omega))) (fun _ => ?_)
    refine x_aload_n dR_worthOf_35 rfl ?_
    refine x_getR fl_R_71 rfl dR_worthOf_36 rfl rfl rfl ?_
    refine x_sipush (v := 200) dR_worthOf_39 rfl ?_
    refine x_aload_n dR_worthOf_42 rfl ?_
    refine x_getI fl_R_164 rfl dR_worthOf_43 rfl rfl ?_
    -- at 46: .imul
    rw [e59, hr]
    refine x_imul dR_worthOf_46 ?_
    refine x_iload_n dR_worthOf_47 rfl ?_
    refine x_iadd dR_worthOf_48 ?_
    refine x_ialdJ dR_worthOf_49 rfl rfl (r200 t i) (by omega) ?_
    -- at 50: .istore 4
    rw [e79, hc0]
    have at66 : ∀ y : Int32, wfR rs (st.length + 1) = some 1 → runP (I 95) rs (y :: st) = runP (I 95) (c :: rs) st → ∀ (hst2 : st.length < 160), X mR_worthOf G (3, 0, 0) S1 I' L 93 [.ref 59, .int (nI j), .int (nI st.length), .int (nI i), .int c] [.int y, .int (nI st.length), .ref 94] Post := by
      intro y w2 hy hst2
      refine x_iastJ (j := st.length) dR_worthOf_93 rfl rfl (by first | rfl | (simp only [← nI_add, ← pk_mul]; rfl)) (by omega) ?_
      refine x_iincp_2 dR_worthOf_94 rfl rfl ?_
      refine x_goto (tgt := 191) dR_worthOf_97 (by decide) ?_
      -- at 191: .iinc 3 1
      refine x_iincp_3 dR_worthOf_191 rfl rfl ?_
      refine x_goto (tgt := 16) dR_worthOf_194 (by decide) ?_
      -- at 16: .iload_n 3
      rw [nI_1, nI_1]
      exact ih (i + 1) (y :: st) _ _ (hF.up (by decide) _ _) (by omega) hcr w2 (by simp; omega) (by rw [up2_s]; exact hH.push _) (by rw [hy]; exact hV)
    rcases wfR_cases hw with ⟨n, hn, rfl⟩ | ⟨n, hn, rfl⟩ | rfl | rfl | hb
    · rw [wfR_num _ _ hn] at hw
      refine x_istore_4 dR_worthOf_50 rfl rfl ?_
      refine x_iload dR_worthOf_52 rfl ?_
      refine x_ldc dR_worthOf_54 cn_R_212 ?_
      -- at 56: .if_icmp .ge 10
      refine x_icmp_ge (tgt := 66) dR_worthOf_56 (by decide) (fun _ => ?_) (fun h => absurd (nI_le (a := 100000) (by omega) (by omega)) h)
      refine x_aload_n dR_worthOf_66 rfl ?_
      refine x_getR fl_R_116 rfl dR_worthOf_67 rfl rfl rfl ?_
      refine x_iload_n dR_worthOf_70 rfl ?_
      refine x_iload dR_worthOf_71 rfl ?_
      refine x_bipush (v := 11) dR_worthOf_73 rfl ?_
      -- at 75: .if_icmp .ge 13
      refine x_icmp_ge (tgt := 88) dR_worthOf_75 (by decide) (fun _ => ?_) (fun h => absurd (nI_le (a := 11) (by omega) (by omega)) h)
      refine x_iload dR_worthOf_88 rfl ?_
      refine x_ldc dR_worthOf_90 cn_R_212 ?_
      refine x_isub dR_worthOf_92 ?_
      -- at 93: .iastore
      refine x_eqi (y := nI n) (by rw [show (100000 : Int32) = nI 100000 from rfl, pk_sub (by omega), Nat.add_sub_cancel]) ?_
      exact at66 (nI n) hw (by rw [runP, stp_num _ _ hn]) (by omega)
    · rw [wfR_nm _ _ hn] at hw
      refine x_istore_4 dR_worthOf_50 rfl rfl ?_
      refine x_iload dR_worthOf_52 rfl ?_
      refine x_ldc dR_worthOf_54 cn_R_212 ?_
      -- at 56: .if_icmp .ge 10
      refine x_icmp_ge (tgt := 66) dR_worthOf_56 (by decide) (fun h => absurd h (nI_ge (b := 100000) (by omega) (by omega))) (fun _ => ?_)
      refine x_iload dR_worthOf_59 rfl ?_
      refine x_bipush (v := 11) dR_worthOf_61 rfl ?_
      -- at 63: .if_icmp .ge 37
      refine x_icmp_ge (tgt := 100) dR_worthOf_63 (by decide) (fun h => absurd h (nI_ge (b := 11) (by omega) (by omega))) (fun _ => ?_)
      refine x_aload_n dR_worthOf_66 rfl ?_
      refine x_getR fl_R_116 rfl dR_worthOf_67 rfl rfl rfl ?_
      refine x_iload_n dR_worthOf_70 rfl ?_
      refine x_iload dR_worthOf_71 rfl ?_
      refine x_bipush (v := 11) dR_worthOf_73 rfl ?_
      -- at 75: .if_icmp .ge 13
      refine x_icmp_ge (tgt := 88) dR_worthOf_75 (by decide) (fun h => absurd h (nI_ge (b := 11) (by omega) (by omega))) (fun _ => ?_)
      refine x_aload_n dR_worthOf_78 rfl ?_
      refine x_getR fl_R_119 rfl dR_worthOf_79 rfl rfl rfl ?_
      refine x_iload dR_worthOf_82 rfl ?_
      refine x_ialdJ (j := n) dR_worthOf_84 rfl rfl (by first | rfl | (simp only [← nI_add, ← pk_mul]; rfl)) (by omega) ?_
      -- at 85: .goto 8
      rw [e95]
      refine x_goto (tgt := 93) dR_worthOf_85 (by decide) ?_
      -- at 93: .iastore
      exact at66 (I 95 n) hw (by rw [runP, stp_nm _ _ hn]) (by omega)
    · obtain ⟨w1, w2⟩ := wfR_un (Or.inl rfl) hw
      match st, w1, w2, hst, hH, hV with
      | y :: u, w1, w2, hst, hH, hV =>
        rw [List.length_cons] at hst w2 ⊢
        refine x_istore_4 dR_worthOf_50 rfl rfl ?_
        refine x_iload dR_worthOf_52 rfl ?_
        refine x_ldc dR_worthOf_54 cn_R_212 ?_
        -- at 56: .if_icmp .ge 10
        refine x_icmp_ge (tgt := 66) dR_worthOf_56 (by decide) (fun h => absurd h (by decide)) (fun _ => ?_)
        refine x_iload dR_worthOf_59 rfl ?_
        refine x_bipush (v := 11) dR_worthOf_61 rfl ?_
        -- at 63: .if_icmp .ge 37
        refine x_icmp_ge (tgt := 100) dR_worthOf_63 (by decide) (fun _ => ?_) (fun h => absurd (by decide) h)
        refine x_iload dR_worthOf_100 rfl ?_
        refine x_bipush (v := 13) dR_worthOf_102 rfl ?_
        -- at 104: .if_icmp .ne 30
        refine x_icmp_ne (tgt := 134) dR_worthOf_104 (by decide) (fun h => absurd rfl h) (fun _ => ?_)
        refine x_aload_n dR_worthOf_107 rfl ?_
        refine x_getR fl_R_116 rfl dR_worthOf_108 rfl rfl rfl ?_
        refine x_iload_n dR_worthOf_111 rfl ?_
        refine x_iconst (v := 1) dR_worthOf_112 rfl ?_
        refine x_isub dR_worthOf_113 ?_
        -- at 114: .aload_n 0
        refine x_eqi (nI_pred u.length) ?_
        refine x_aload_n dR_worthOf_114 rfl ?_
        refine x_getR fl_R_116 rfl dR_worthOf_115 rfl rfl rfl ?_
        refine x_iload_n dR_worthOf_118 rfl ?_
        refine x_iconst (v := 1) dR_worthOf_119 rfl ?_
        refine x_isub dR_worthOf_120 ?_
        refine x_ialdJ dR_worthOf_121 rfl rfl (nI_pred u.length) (by omega) ?_
        -- at 122: .ifCond .ne 7
        rw [hH.top]
        have tail : ∀ x : Int32, x = b2i (y = 0) → X mR_worthOf G (3, 0, 0) S1 I' L 130 [.ref 59, .int (nI j), .int (nI (u.length + 1)), .int (nI i), .int 13] [.int x, .int (nI u.length), .ref 94] Post := by
          intro x hx
          refine x_iastJ (j := u.length) dR_worthOf_130 rfl rfl (by first | rfl | (simp only [← nI_add, ← pk_mul]; rfl)) (by omega) ?_
          refine x_goto (tgt := 191) dR_worthOf_131 (by decide) ?_
          -- at 191: .iinc 3 1
          refine x_iincp_3 dR_worthOf_191 rfl rfl ?_
          refine x_goto (tgt := 16) dR_worthOf_194 (by decide) ?_
          -- at 16: .iload_n 3
          rw [nI_1]
          exact ih (i + 1) (x :: u) _ _ (hF.up (by decide) _ _) (by omega) hcr w2 (by simp; omega) (by rw [up2_s]; exact hH.pop.push _) (by rw [hx]; exact hV)
        refine x_if_ne (tgt := 129) dR_worthOf_122 (by decide) (fun d1 => ?_) (fun d1 => ?_)
        · refine x_iconst (v := 0) dR_worthOf_129 rfl ?_
          -- at 130: .iastore
          exact tail 0 (by rw [b2i, if_neg d1])
        · refine x_iconst (v := 1) dR_worthOf_125 rfl ?_
          refine x_goto (tgt := 130) dR_worthOf_126 (by decide) ?_
          -- at 130: .iastore
          exact tail 1 (by rw [b2i, if_pos d1])
    · obtain ⟨w1, w2⟩ := wfR_un (Or.inr rfl) hw
      match st, w1, w2, hst, hH, hV with
      | y :: u, w1, w2, hst, hH, hV =>
        rw [List.length_cons] at hst w2 ⊢
        refine x_istore_4 dR_worthOf_50 rfl rfl ?_
        refine x_iload dR_worthOf_52 rfl ?_
        refine x_ldc dR_worthOf_54 cn_R_212 ?_
        -- at 56: .if_icmp .ge 10
        refine x_icmp_ge (tgt := 66) dR_worthOf_56 (by decide) (fun h => absurd h (by decide)) (fun _ => ?_)
        refine x_iload dR_worthOf_59 rfl ?_
        refine x_bipush (v := 11) dR_worthOf_61 rfl ?_
        -- at 63: .if_icmp .ge 37
        refine x_icmp_ge (tgt := 100) dR_worthOf_63 (by decide) (fun _ => ?_) (fun h => absurd (by decide) h)
        refine x_iload dR_worthOf_100 rfl ?_
        refine x_bipush (v := 13) dR_worthOf_102 rfl ?_
        -- at 104: .if_icmp .ne 30
        refine x_icmp_ne (tgt := 134) dR_worthOf_104 (by decide) (fun _ => ?_) (fun h => absurd h (by decide))
        refine x_iload dR_worthOf_134 rfl ?_
        refine x_bipush (v := 19) dR_worthOf_136 rfl ?_
        -- at 138: .if_icmp .ne 23
        refine x_icmp_ne (tgt := 161) dR_worthOf_138 (by decide) (fun h => absurd rfl h) (fun _ => ?_)
        refine x_aload_n dR_worthOf_141 rfl ?_
        refine x_getR fl_R_116 rfl dR_worthOf_142 rfl rfl rfl ?_
        refine x_iload_n dR_worthOf_145 rfl ?_
        refine x_iconst (v := 1) dR_worthOf_146 rfl ?_
        refine x_isub dR_worthOf_147 ?_
        -- at 148: .aload_n 0
        refine x_eqi (nI_pred u.length) ?_
        refine x_aload_n dR_worthOf_148 rfl ?_
        refine x_getR fl_R_116 rfl dR_worthOf_149 rfl rfl rfl ?_
        refine x_iload_n dR_worthOf_152 rfl ?_
        refine x_iconst (v := 1) dR_worthOf_153 rfl ?_
        refine x_isub dR_worthOf_154 ?_
        refine x_ialdJ dR_worthOf_155 rfl rfl (nI_pred u.length) (by omega) ?_
        -- at 156: .ineg
        rw [hH.top]
        refine x_ineg dR_worthOf_156 ?_
        refine x_iastJ (j := u.length) dR_worthOf_157 rfl rfl (by first | rfl | (simp only [← nI_add, ← pk_mul]; rfl)) (by omega) ?_
        refine x_goto (tgt := 191) dR_worthOf_158 (by decide) ?_
        -- at 191: .iinc 3 1
        refine x_iincp_3 dR_worthOf_191 rfl rfl ?_
        refine x_goto (tgt := 16) dR_worthOf_194 (by decide) ?_
        -- at 16: .iload_n 3
        rw [nI_1]
        exact ih (i + 1) (-y :: u) _ _ (hF.up (by decide) _ _) (by omega) hcr w2 (by simp; omega) (by rw [up2_s]; exact hH.pop.push _) hV
    · obtain ⟨w1, w2⟩ := wfR_bin hb hw
      match st, w1, w2, hst, hH, hV with
      | y :: z :: u, w1, w2, hst, hH, hV =>
        rw [List.length_cons, List.length_cons] at hst w2 ⊢
        rw [runP, stp_bin _ hb] at hV
        have hb13 : ¬ c = 13 ∧ ¬ c = 19 ∧ ¬ 100000 ≤ c ∧ 11 ≤ c := by
          rcases hb with rfl | rfl | rfl | rfl | rfl | rfl | rfl <;> decide
        refine x_istore_4 dR_worthOf_50 rfl rfl ?_
        refine x_iload dR_worthOf_52 rfl ?_
        refine x_ldc dR_worthOf_54 cn_R_212 ?_
        -- at 56: .if_icmp .ge 10
        refine x_icmp_ge (tgt := 66) dR_worthOf_56 (by decide) (fun h => absurd h hb13.2.2.1) (fun _ => ?_)
        refine x_iload dR_worthOf_59 rfl ?_
        refine x_bipush (v := 11) dR_worthOf_61 rfl ?_
        -- at 63: .if_icmp .ge 37
        refine x_icmp_ge (tgt := 100) dR_worthOf_63 (by decide) (fun _ => ?_) (fun h => absurd hb13.2.2.2 h)
        refine x_iload dR_worthOf_100 rfl ?_
        refine x_bipush (v := 13) dR_worthOf_102 rfl ?_
        -- at 104: .if_icmp .ne 30
        refine x_icmp_ne (tgt := 134) dR_worthOf_104 (by decide) (fun _ => ?_) (fun h => absurd h hb13.1)
        refine x_iload dR_worthOf_134 rfl ?_
        refine x_bipush (v := 19) dR_worthOf_136 rfl ?_
        -- at 138: .if_icmp .ne 23
        refine x_icmp_ne (tgt := 161) dR_worthOf_138 (by decide) (fun _ => ?_) (fun h => absurd h hb13.2.1)
        refine x_iinc_2 (v := nI (u.length + 1)) dR_worthOf_161 (by rw [show Int32.ofInt (-1) = -1 from rfl, ← Int32.sub_eq_add_neg]; exact nI_pred _) rfl rfl ?_
        have hy : I' 94 (u.length + 1) = y := by simpa using hH.top
        refine x_aload_n dR_worthOf_164 rfl ?_
        refine x_getR fl_R_116 rfl dR_worthOf_165 rfl rfl rfl ?_
        refine x_iload_n dR_worthOf_168 rfl ?_
        refine x_iconst (v := 1) dR_worthOf_169 rfl ?_
        refine x_isub dR_worthOf_170 ?_
        -- at 171: .iload 4
        refine x_eqi (nI_pred u.length) ?_
        refine x_iload dR_worthOf_171 rfl ?_
        refine x_aload_n dR_worthOf_173 rfl ?_
        refine x_getR fl_R_116 rfl dR_worthOf_174 rfl rfl rfl ?_
        refine x_iload_n dR_worthOf_177 rfl ?_
        refine x_iconst (v := 1) dR_worthOf_178 rfl ?_
        refine x_isub dR_worthOf_179 ?_
        -- at 180: .iaload
        refine x_eqi (nI_pred u.length) ?_
        refine x_ialdJ (j := u.length) dR_worthOf_180 rfl rfl (by first | rfl | (simp only [← nI_add, ← pk_mul]; rfl)) (by omega) ?_
        -- at 181: .aload_n 0
        rw [hH.pop.top]
        refine x_aload_n dR_worthOf_181 rfl ?_
        refine x_getR fl_R_116 rfl dR_worthOf_182 rfl rfl rfl ?_
        refine x_iload_n dR_worthOf_185 rfl ?_
        refine x_ialdJ (j := u.length + 1) dR_worthOf_186 rfl rfl (by first | rfl | (simp only [← nI_add, ← pk_mul]; rfl)) (by omega) ?_
        -- at 187: .invokestatic 226
        rw [hy]
        refine x_callS_3 c_R_two ok_R_two ml_R_226 dR_worthOf_187 rfl rfl ?_
        refine ⟨c, z, y, rfl, hb, ?_⟩
        refine x_iastJ (j := u.length) dR_worthOf_190 rfl rfl (by first | rfl | (simp only [← nI_add, ← pk_mul]; rfl)) (by omega) ?_
        -- at 191: .iinc 3 1
        refine x_iincp_3 dR_worthOf_191 rfl rfl ?_
        refine x_goto (tgt := 16) dR_worthOf_194 (by decide) ?_
        -- at 16: .iload_n 3
        rw [nI_1]
        have ej : two c z y = jnS c z y := by rw [jnS, if_neg hb13.1, if_neg hb13.2.1]
        exact ih (i + 1) (two c z y :: u) _ _ (hF.up (by decide) _ _) (by omega) hcr w2 (by simp; omega) (by rw [up2_s]; exact hH.pop.pop.push _) (by rw [ej]; exact hV)
set_option maxHeartbeats 4000000 in
set_option maxRecDepth 100000 in
theorem c_R_worthOf : Con mR_worthOf 3 0 0 sp_R_worthOf := by
  refine con_of_X rfl fun G as S I L Post hs => ?_
  obtain ⟨j, P, rfl, rfl, hj, ⟨t, hr, ht6, htx⟩, h1⟩ := hs
  obtain ⟨a, ha, hb, hab, hc, hw⟩ := htx j hj
  refine ⟨3, Nat.le_of_ble_eq_true rfl, ?_⟩
  show X mR_worthOf G _ S1 I L 0 [.ref 59, .int (nI j), .null, .null, .null] [] Post
  refine x_iconst (v := 0) dR_worthOf_0 rfl ?_
  refine x_istoren_2 dR_worthOf_1 rfl rfl ?_
  refine x_aload_n dR_worthOf_2 rfl ?_
  refine x_getR fl_R_74 rfl dR_worthOf_3 rfl rfl rfl ?_
  refine x_iconst (v := 4) dR_worthOf_6 rfl ?_
  refine x_aload_n dR_worthOf_7 rfl ?_
  refine x_getI fl_R_164 rfl dR_worthOf_8 rfl rfl ?_
  -- at 11: .imul
  rw [hr]
  refine x_imul dR_worthOf_11 ?_
  refine x_iload_n dR_worthOf_12 rfl ?_
  refine x_iadd dR_worthOf_13 ?_
  refine x_ialdJ dR_worthOf_14 rfl rfl (r4 t j) (by omega) ?_
  -- at 15: .istore_n 3
  rw [ha]
  refine x_istoren_3 dR_worthOf_15 rfl rfl ?_
  -- at 16: .iload_n 3
  exact worth_loop ht6 hj hr hb hab h1 (P j) a [] I _ Fr.rfl rfl hc hw (by simp) (fun k hk => absurd hk (Nat.not_lt_zero k)) rfl
def sp_R_names : SpT := fun as S I L Post => ∃ a b c d e f : Int32, as = [.ref 59, .int a, .int b, .int c, .int d, .int e, .int f] ∧ S = S1 ∧ ∀ I' : IM, Fr [95] I I' → (∀ j, j < 6 → I' 95 j = nm6 a b c d e f j) → Post none S1 I' L
set_option maxHeartbeats 4000000 in
set_option maxRecDepth 100000 in
theorem c_R_names : Con mR_names 2 0 0 sp_R_names := by
  refine con_of_X rfl fun G as S I L Post hs => ?_
  obtain ⟨a, b, c, d, e, f, rfl, rfl, h1⟩ := hs
  refine ⟨0, Nat.le_of_ble_eq_true rfl, ?_⟩
  show X mR_names G _ S1 I L 0 [.ref 59, .int a, .int b, .int c, .int d, .int e, .int f] [] Post
  refine x_aload_n dR_names_0 rfl ?_
  refine x_getR fl_R_119 rfl dR_names_1 rfl rfl rfl ?_
  refine x_iconst (v := 0) dR_names_4 rfl ?_
  refine x_iload_n dR_names_5 rfl ?_
  refine x_iastJ (j := 0) dR_names_6 rfl rfl (by first | rfl | (simp only [← nI_add, ← pk_mul]; rfl)) (by omega) ?_
  refine x_aload_n dR_names_7 rfl ?_
  refine x_getR fl_R_119 rfl dR_names_8 rfl rfl rfl ?_
  refine x_iconst (v := 1) dR_names_11 rfl ?_
  refine x_iload_n dR_names_12 rfl ?_
  refine x_iastJ (j := 1) dR_names_13 rfl rfl (by first | rfl | (simp only [← nI_add, ← pk_mul]; rfl)) (by omega) ?_
  refine x_aload_n dR_names_14 rfl ?_
  refine x_getR fl_R_119 rfl dR_names_15 rfl rfl rfl ?_
  refine x_iconst (v := 2) dR_names_18 rfl ?_
  refine x_iload_n dR_names_19 rfl ?_
  refine x_iastJ (j := 2) dR_names_20 rfl rfl (by first | rfl | (simp only [← nI_add, ← pk_mul]; rfl)) (by omega) ?_
  refine x_aload_n dR_names_21 rfl ?_
  refine x_getR fl_R_119 rfl dR_names_22 rfl rfl rfl ?_
  refine x_iconst (v := 3) dR_names_25 rfl ?_
  refine x_iload dR_names_26 rfl ?_
  refine x_iastJ (j := 3) dR_names_28 rfl rfl (by first | rfl | (simp only [← nI_add, ← pk_mul]; rfl)) (by omega) ?_
  refine x_aload_n dR_names_29 rfl ?_
  refine x_getR fl_R_119 rfl dR_names_30 rfl rfl rfl ?_
  refine x_iconst (v := 4) dR_names_33 rfl ?_
  refine x_iload dR_names_34 rfl ?_
  refine x_iastJ (j := 4) dR_names_36 rfl rfl (by first | rfl | (simp only [← nI_add, ← pk_mul]; rfl)) (by omega) ?_
  refine x_aload_n dR_names_37 rfl ?_
  refine x_getR fl_R_119 rfl dR_names_38 rfl rfl rfl ?_
  refine x_iconst (v := 5) dR_names_41 rfl ?_
  refine x_iload dR_names_42 rfl ?_
  refine x_iastJ (j := 5) dR_names_44 rfl rfl (by first | rfl | (simp only [← nI_add, ← pk_mul]; rfl)) (by omega) ?_
  -- at 45: .return_
  refine x_return dR_names_45 rfl ?_
  refine h1 _ (((((Fr.rfl.up (by decide) _ _).up (by decide) _ _).up (by decide) _ _).up (by decide) _ _).up (by decide) _ _ |>.up (by decide) _ _) (fun j hj => ?_)
  simp only [up2_n, up2_s, ne_eq, Nat.reduceEqDiff, not_false_eq_true]
  rcases (show j = 0 ∨ j = 1 ∨ j = 2 ∨ j = 3 ∨ j = 4 ∨ j = 5 by omega) with rfl | rfl | rfl | rfl | rfl | rfl <;> simp [up1, nm6]
def sp_R_can : SpT := fun as S I L Post => ∃ p q : Nat, as = [.ref 59, .int (nI p), .int (nI q)] ∧ S = S1 ∧ p < 8 ∧ q < 8 ∧ bPost (canV (rV I) p q = true) S1 I L Post
set_option maxHeartbeats 4000000 in
set_option maxRecDepth 100000 in
theorem c_R_can : Con mR_can 2 0 0 sp_R_can := by
  refine con_of_X rfl fun G as S I L Post hs => ?_
  obtain ⟨p, q, rfl, rfl, hp, hq, h1, h2⟩ := hs
  refine ⟨0, Nat.le_of_ble_eq_true rfl, ?_⟩
  show X mR_can G _ S1 I L 0 [.ref 59, .int (nI p), .int (nI q)] [] Post
  refine x_aload_n dR_can_0 rfl ?_
  refine x_getR fl_R_32 rfl dR_can_1 rfl rfl rfl ?_
  refine x_iload_n dR_can_4 rfl ?_
  refine x_ialdJ (j := p) dR_can_5 rfl rfl (by first | rfl | (simp only [← nI_add, ← pk_mul]; rfl)) (by omega) ?_
  refine x_aload_n dR_can_6 rfl ?_
  refine x_getR fl_R_44 rfl dR_can_7 rfl rfl rfl ?_
  refine x_iload_n dR_can_10 rfl ?_
  refine x_ialdJ (j := q) dR_can_11 rfl rfl (by first | rfl | (simp only [← nI_add, ← pk_mul]; rfl)) (by omega) ?_
  refine x_ishr dR_can_12 ?_
  refine x_iconst (v := 1) dR_can_13 rfl ?_
  refine x_iand dR_can_14 ?_
  refine x_iconst (v := 1) dR_can_15 rfl ?_
  -- at 16: .if_icmp .ne 7
  refine x_icmp_ne (tgt := 23) dR_can_16 (by decide) (fun c1 => ?_) (fun c1 => ?_)
  · refine x_iconst (v := 0) dR_can_23 rfl ?_
    -- at 24: .ireturn
    refine x_ireturn dR_can_24 rfl rfl ?_
    exact h2 (fun z => c1 (of_decide_eq_true z))
  · refine x_iconst (v := 1) dR_can_19 rfl ?_
    refine x_goto (tgt := 24) dR_can_20 (by decide) ?_
    -- at 24: .ireturn
    refine x_ireturn dR_can_24 rfl rfl ?_
    exact h1 (decide_eq_true c1)
def sp_R_ones : SpT := fun as S I L Post => ∃ x : Int32, as = [.int x] ∧ Post (some (.int (onesR x 8))) S I L
set_option maxHeartbeats 4000000 in
set_option maxRecDepth 100000 in
theorem c_R_ones : Con mR_ones 2 0 0 sp_R_ones := by
  refine con_of_X rfl fun G as S I L Post hs => ?_
  obtain ⟨x, rfl, h1⟩ := hs
  refine ⟨2, Nat.le_of_ble_eq_true rfl, ?_⟩
  show X mR_ones G _ S I L 0 [.int x, .null, .null] [] Post
  refine x_iconst (v := 0) dR_ones_0 rfl ?_
  refine x_istoren_1 dR_ones_1 rfl rfl ?_
  refine x_iconst (v := 0) dR_ones_2 rfl ?_
  refine x_istoren_2 dR_ones_3 rfl rfl ?_
  -- at 4: .iload_n 2
  have loop : ∀ (k i : Nat), i + k = 8 → X mR_ones G (2, 0, 0) S I L 4 [.int x, .int (onesR x i), .int (nI i)] [] Post := by
    intro k
    induction k with
    | zero =>
      intro i hi
      obtain rfl : i = 8 := by omega
      refine x_iload_n dR_ones_4 rfl ?_
      refine x_bipush (v := 8) dR_ones_5 rfl ?_
      -- at 7: .if_icmp .ge 17
      refine x_icmp_ge (tgt := 24) dR_ones_7 (by decide) (fun _ => ?_) (fun h => absurd (Int32.le_refl _) h)
      refine x_iload_n dR_ones_24 rfl ?_
      -- at 25: .ireturn
      refine x_ireturn dR_ones_25 rfl rfl ?_
      exact h1
    | succ k ih =>
      intro i hi
      refine x_iload_n dR_ones_4 rfl ?_
      refine x_bipush (v := 8) dR_ones_5 rfl ?_
      -- at 7: .if_icmp .ge 17
      refine x_icmp_ge (tgt := 24) dR_ones_7 (by decide) (fun h => absurd h (nI_ge (b := 8) (by omega) (by omega))) (fun _ => ?_)
      refine x_iload_n dR_ones_10 rfl ?_
      refine x_iload_n dR_ones_11 rfl ?_
      refine x_iload_n dR_ones_12 rfl ?_
      refine x_ishr dR_ones_13 ?_
      refine x_iconst (v := 1) dR_ones_14 rfl ?_
      refine x_iand dR_ones_15 ?_
      refine x_iadd dR_ones_16 ?_
      refine x_istoren_1 dR_ones_17 rfl rfl ?_
      refine x_iincp_2 dR_ones_18 rfl rfl ?_
      refine x_goto (tgt := 4) dR_ones_21 (by decide) ?_
      -- at 4: .iload_n 2
      rw [nI_1]
      exact ih (i + 1) (by omega)
  exact loop 8 0 rfl
def sp_R_hearsOf : SpT := fun as S I L Post => ∃ (s p : Nat) (P : Nat → List Int32), as = [.ref 59, .int (nI s), .int (nI p)] ∧ S = S1 ∧ s < 11 ∧ p < 8 ∧ SayV (rV I) s ∧ PerV (rV I) p ∧ RTx I P ∧ ∀ I' : IM, Fr [94, 95] I I' → Post (some (.int (hearV (rV I) P s p))) S1 I' L
set_option maxHeartbeats 4000000 in
set_option maxRecDepth 100000 in
theorem c_R_hearsOf : Con mR_hearsOf 4 0 0 sp_R_hearsOf := by
  refine con_of_X rfl fun G as S I L Post hs => ?_
  obtain ⟨s, p, P, rfl, rfl, hs, hp, ⟨hq, ⟨u, hu, eu⟩, ⟨m, hm, em⟩⟩, hper, hT, h1⟩ := hs
  have eu : I 75 s = nI u := eu
  have em : I 76 s = nI m := em
  obtain ⟨w, hw, ew⟩ := where_rng hper hm
  obtain ⟨t, hr, ht6, htx⟩ := hT
  obtain ⟨a, ha, hb, hab, hc, hwf⟩ := htx 0 (by omega)
  refine ⟨2, Nat.le_of_ble_eq_true rfl, ?_⟩
  show X mR_hearsOf G _ S1 I L 0 [.ref 59, .int (nI s), .int (nI p), .null, .null] [] Post
  refine x_aload_n dR_hearsOf_0 rfl ?_
  refine x_getR fl_R_7 rfl dR_hearsOf_1 rfl rfl rfl ?_
  refine x_bipush (v := 6) dR_hearsOf_4 rfl ?_
  refine x_aload_n dR_hearsOf_6 rfl ?_
  refine x_iload_n dR_hearsOf_7 rfl ?_
  refine x_aload_n dR_hearsOf_8 rfl ?_
  refine x_getR fl_R_62 rfl dR_hearsOf_9 rfl rfl rfl ?_
  refine x_iload_n dR_hearsOf_12 rfl ?_
  refine x_ialdJ (j := s) dR_hearsOf_13 rfl rfl (by first | rfl | (simp only [← nI_add, ← pk_mul]; rfl)) (by omega) ?_
  -- at 14: .invokevirtual 233
  rw [em]
  refine x_callV_2 c_R_whereIs ok_R_whereIs ml_R_233 dR_hearsOf_14 rfl rfl rfl rfl rfl ?_
  refine ⟨p, _, rfl, rfl, hp, hper, ?_⟩
  rw [ew]
  refine x_imul dR_hearsOf_17 ?_
  refine x_aload_n dR_hearsOf_18 rfl ?_
  refine x_getR fl_R_59 rfl dR_hearsOf_19 rfl rfl rfl ?_
  refine x_iload_n dR_hearsOf_22 rfl ?_
  refine x_ialdJ (j := s) dR_hearsOf_23 rfl rfl (by first | rfl | (simp only [← nI_add, ← pk_mul]; rfl)) (by omega) ?_
  -- at 24: .iadd
  rw [eu]
  refine x_iadd dR_hearsOf_24 ?_
  refine x_ialdJ dR_hearsOf_25 rfl rfl (r6 w u) (by omega) ?_
  -- at 26: .istore_n 3
  refine x_istoren_3 dR_hearsOf_26 rfl rfl ?_
  refine x_aload_n dR_hearsOf_27 rfl ?_
  refine x_aload_n dR_hearsOf_28 rfl ?_
  refine x_getR fl_R_65 rfl dR_hearsOf_29 rfl rfl rfl ?_
  refine x_iload_n dR_hearsOf_32 rfl ?_
  refine x_ialdJ (j := s) dR_hearsOf_33 rfl rfl (by first | rfl | (simp only [← nI_add, ← pk_mul]; rfl)) (by omega) ?_
  refine x_iload_n dR_hearsOf_34 rfl ?_
  refine x_aload_n dR_hearsOf_35 rfl ?_
  refine x_getR fl_R_26 rfl dR_hearsOf_36 rfl rfl rfl ?_
  refine x_iload_n dR_hearsOf_39 rfl ?_
  refine x_ialdJ (j := p) dR_hearsOf_40 rfl rfl (by first | rfl | (simp only [← nI_add, ← pk_mul]; rfl)) (by omega) ?_
  refine x_iconst (v := 0) dR_hearsOf_41 rfl ?_
  refine x_iconst (v := 0) dR_hearsOf_42 rfl ?_
  refine x_aload_n dR_hearsOf_43 rfl ?_
  refine x_getR fl_R_13 rfl dR_hearsOf_44 rfl rfl rfl ?_
  refine x_aload_n dR_hearsOf_47 rfl ?_
  refine x_getR fl_R_62 rfl dR_hearsOf_48 rfl rfl rfl ?_
  refine x_iload_n dR_hearsOf_51 rfl ?_
  refine x_ialdJ (j := s) dR_hearsOf_52 rfl rfl (by first | rfl | (simp only [← nI_add, ← pk_mul]; rfl)) (by omega) ?_
  -- at 53: .iaload
  rw [em]
  refine x_ialdJ (j := m) dR_hearsOf_53 rfl rfl (by first | rfl | (simp only [← nI_add, ← pk_mul]; rfl)) (by omega) ?_
  -- at 54: .invokevirtual 246
  refine x_callV_6 c_R_names ok_R_names ml_R_246 dR_hearsOf_54 rfl rfl rfl rfl rfl ?_
  refine ⟨_, _, _, _, _, _, rfl, rfl, fun I1 hF1 hn => ?_⟩
  refine x_aload_n dR_hearsOf_57 rfl ?_
  refine x_iconst (v := 0) dR_hearsOf_58 rfl ?_
  -- at 59: .invokevirtual 250
  refine x_callV_1 c_R_worthOf ok_R_worthOf ml_R_250 dR_hearsOf_59 rfl rfl rfl rfl rfl ?_
  refine ⟨0, P, rfl, rfl, by omega, (RTx.fr ⟨t, hr, ht6, htx⟩ (hF1 59 (by decide)) (hF1 79 (by decide)) (hF1 80 (by decide))), fun I2 hF2 => ?_⟩
  have hF3 : Fr [94, 95] I I2 := (hF1.wk (by decide)).tr (hF2.wk (by decide))
  have eV : valP (I1 95) (P 0) = valP (nm6 (rV I 17 s) (farV (rV I) s p) (rV I 4 p) 0 0 (rV I 1 (cl (rV I 16 s)))) (P 0) := by
    refine valP_congr (h := 0) (o := 1) (fun j hj => ?_) hwf
    rw [hn j hj]
    have efar : farV (rV I) s p = I 60 (w * 6 + u) := by
      unfold farV
      rw [show rV I 16 s = nI m from em, show rV I 15 s = nI u from eu, ew, cl_nI (by omega), cl_nI (by omega)]
      rfl
    rw [efar, show rV I 16 s = nI m from em, cl_nI (by omega)]
    rfl
  rw [eV]
  refine x_iconst (v := 0) dR_hearsOf_62 rfl ?_
  refine x_bipush (v := 100) dR_hearsOf_63 rfl ?_
  -- at 65: .invokestatic 253
  refine x_callS_3 c_R_within ok_R_within ml_R_253 dR_hearsOf_65 rfl rfl ?_
  refine ⟨_, _, _, rfl, by decide, ?_⟩
  have fin : ∀ x : Int32, x = hearV (rV I) P s p → ∀ a3 a4 : Value, X mR_hearsOf G (4, 0, 0) S1 I2 L 118 [.ref 59, .int (nI s), .int (nI p), a3, a4] [.int x] Post := by
    intro x hx a3 a4
    refine x_ireturn dR_hearsOf_118 rfl rfl ?_
    rw [hx]
    exact h1 I2 hF3
  have e62 : I2 62 = I 62 := hF3 62 (by decide)
  have e77 : I2 77 = I 77 := hF3 77 (by decide)
  have e65 : I2 65 = I 65 := hF3 65 (by decide)
  refine x_istore_4 dR_hearsOf_68 rfl rfl ?_
  refine x_aload_n dR_hearsOf_70 rfl ?_
  refine x_getR fl_R_20 rfl dR_hearsOf_71 rfl rfl rfl ?_
  refine x_iload_n dR_hearsOf_74 rfl ?_
  refine x_ialdJ (j := p) dR_hearsOf_75 rfl rfl (by first | rfl | (simp only [← nI_add, ← pk_mul]; rfl)) (by omega) ?_
  refine x_iconst (v := 2) dR_hearsOf_76 rfl ?_
  -- at 77: .if_icmp .ne 10
  rw [e62]
  refine x_icmp_ne (tgt := 87) dR_hearsOf_77 (by decide) (fun c1 => ?_) (fun c1 => ?_)
  · refine x_aload_n dR_hearsOf_87 rfl ?_
    refine x_getR fl_R_20 rfl dR_hearsOf_88 rfl rfl rfl ?_
    refine x_iload_n dR_hearsOf_91 rfl ?_
    refine x_ialdJ (j := p) dR_hearsOf_92 rfl rfl (by first | rfl | (simp only [← nI_add, ← pk_mul]; rfl)) (by omega) ?_
    refine x_iconst (v := 5) dR_hearsOf_93 rfl ?_
    -- at 94: .if_icmp .ne 22
    rw [e62]
    refine x_icmp_ne (tgt := 116) dR_hearsOf_94 (by decide) (fun c2 => ?_) (fun c2 => ?_)
    · refine x_iload dR_hearsOf_116 rfl ?_
      -- at 118: .ireturn
      refine fin _ ?_ _ _
      unfold hearV hrK
      rw [if_neg (fun z => c2 z.1), if_neg (show ¬ rV I 2 p = 2 from c1)]
      rfl
    · refine x_aload_n dR_hearsOf_97 rfl ?_
      refine x_getR fl_R_65 rfl dR_hearsOf_98 rfl rfl rfl ?_
      refine x_iload_n dR_hearsOf_101 rfl ?_
      refine x_ialdJ (j := s) dR_hearsOf_102 rfl rfl (by first | rfl | (simp only [← nI_add, ← pk_mul]; rfl)) (by omega) ?_
      refine x_aload_n dR_hearsOf_103 rfl ?_
      refine x_getR fl_R_29 rfl dR_hearsOf_104 rfl rfl rfl ?_
      refine x_iload_n dR_hearsOf_107 rfl ?_
      refine x_ialdJ (j := p) dR_hearsOf_108 rfl rfl (by first | rfl | (simp only [← nI_add, ← pk_mul]; rfl)) (by omega) ?_
      -- at 109: .if_icmp .le 7
      rw [e77, e65]
      refine x_icmp_le (tgt := 116) dR_hearsOf_109 (by decide) (fun c3 => ?_) (fun c3 => ?_)
      · refine x_iload dR_hearsOf_116 rfl ?_
        -- at 118: .ireturn
        refine fin _ ?_ _ _
        unfold hearV hrK
        rw [if_neg (fun z => absurd z.2 (Int32.not_lt.mpr c3)), if_neg (show ¬ rV I 2 p = 2 from c1)]
        rfl
      · refine x_iconst (v := 0) dR_hearsOf_112 rfl ?_
        refine x_goto (tgt := 118) dR_hearsOf_113 (by decide) ?_
        -- at 118: .ireturn
        refine fin _ ?_ _ _
        unfold hearV hrK
        rw [if_pos ⟨c2, Int32.not_le.mp c3⟩]
  · refine x_iload dR_hearsOf_80 rfl ?_
    refine x_iconst (v := 2) dR_hearsOf_82 rfl ?_
    refine x_idiv dR_hearsOf_83 (by decide) ?_
    refine x_goto (tgt := 118) dR_hearsOf_84 (by decide) ?_
    -- at 118: .ireturn
    refine fin _ ?_ _ _
    unfold hearV hrK
    rw [if_neg (fun z => absurd (z.1.symm.trans c1) (by decide)), if_pos (show rV I 2 p = 2 from c1)]
    rfl
