/-! a text's program on the class's stack -/
theorem nI_lit (x : Int32) (h0 : 0 ≤ x) : x = nI (cl x) := by
  have h := nI_of (x := x) (Int32.not_lt.mpr h0)
  obtain ⟨j, hj, e⟩ := h
  rw [e]
  show nI j = nI (nI j).toNatClampNeg
  rw [nI_clamp hj]
theorem rng_of {x M : Int32} {n : Nat} (hM : M = nI n) (hn : n < 2 ^ 31) (h0 : 0 ≤ x) (h1 : x < M) : ∃ k, k < n ∧ x = nI k := by
  obtain ⟨j, hj, e⟩ := nI_of (x := x) (Int32.not_lt.mpr h0)
  refine ⟨j, ?_, e⟩
  rw [e, hM] at h1
  exact (nI_ltI hj hn).mp h1
abbrev isOp (s : Int32) : Prop := s = 7 ∨ s = 8 ∨ s = 9 ∨ s = 10 ∨ s = 42 ∨ s = 43 ∨ s = 45 ∨ s = 60 ∨ s = 61
abbrev binC (c : Int32) : Prop := c = 11 ∨ c = 12 ∨ c = 14 ∨ c = 15 ∨ c = 16 ∨ c = 17 ∨ c = 18
theorem enc_cases (x : Int32) : (∃ n, n < 10000 ∧ x = nI n ∧ enc x = nI (n + 100000)) ∨ (∃ n, n < 6 ∧ x = nI (n + 10000) ∧ enc x = nI n) ∨ (x = 20009 ∧ enc x = 13) ∨ (x = 20010 ∧ enc x = 19) ∨ (¬ x < 20000 ∧ ¬ x = 20009 ∧ ¬ x = 20010 ∧ isOp (x - 20000) ∧ binC (enc x)) ∨ enc x = 999 := by
  by_cases h1 : 0 ≤ x ∧ x < 10000
  · obtain ⟨n, hn, e⟩ := rng_of (n := 10000) rfl (by omega) h1.1 h1.2
    refine Or.inl ⟨n, hn, e, ?_⟩
    rw [enc, if_pos h1, e]
    exact nI_add n 100000
  by_cases h2 : 10000 ≤ x ∧ x < 10006
  · obtain ⟨n, hn, e⟩ := rng_of (n := 10006) rfl (by omega) (Int32.le_trans (by decide) h2.1) h2.2
    have h3 : 10000 ≤ n := by
      have h4 := h2.1
      rw [e] at h4
      exact (nI_leI (a := 10000) (by omega) (by omega)).mp h4
    refine Or.inr (Or.inl ⟨n - 10000, by omega, by rw [e]; congr 1; omega, ?_⟩)
    rw [enc, if_neg h1, if_pos h2, e]
    exact pk_sub (b := 10000) h3
  rw [enc, if_neg h1, if_neg h2]
  by_cases a1 : x = 20007
  · subst a1; exact Or.inr (Or.inr (Or.inr (Or.inr (Or.inl (by decide)))))
  by_cases a2 : x = 20008
  · subst a2; exact Or.inr (Or.inr (Or.inr (Or.inr (Or.inl (by decide)))))
  by_cases a3 : x = 20009
  · subst a3; exact Or.inr (Or.inr (Or.inl (by decide)))
  by_cases a4 : x = 20010
  · subst a4; exact Or.inr (Or.inr (Or.inr (Or.inl (by decide))))
  by_cases a5 : x = 20060
  · subst a5; exact Or.inr (Or.inr (Or.inr (Or.inr (Or.inl (by decide)))))
  by_cases a6 : x = 20061
  · subst a6; exact Or.inr (Or.inr (Or.inr (Or.inr (Or.inl (by decide)))))
  by_cases a7 : x = 20043
  · subst a7; exact Or.inr (Or.inr (Or.inr (Or.inr (Or.inl (by decide)))))
  by_cases a8 : x = 20045
  · subst a8; exact Or.inr (Or.inr (Or.inr (Or.inr (Or.inl (by decide)))))
  by_cases a9 : x = 20042
  · subst a9; exact Or.inr (Or.inr (Or.inr (Or.inr (Or.inl (by decide)))))
  exact Or.inr (Or.inr (Or.inr (Or.inr (Or.inr (by simp [a1, a2, a3, a4, a5, a6, a7, a8, a9])))))
theorem stp_num (nm : Nat → Int32) (st : List Int32) {n : Nat} (hn : n < 10000) : stp nm (nI (n + 100000)) st = nI n :: st := by
  have h : (100000 : Int32) ≤ nI (n + 100000) := (nI_leI (a := 100000) (by omega) (by omega)).mpr (by omega)
  unfold stp
  rw [if_pos h]
  have h3 := pk_sub (a := n + 100000) (b := 100000) (by omega)
  rw [Nat.add_sub_cancel] at h3
  exact congrArg (· :: st) h3
theorem stp_nm (nm : Nat → Int32) (st : List Int32) {n : Nat} (hn : n < 6) : stp nm (nI n) st = nm n :: st := by
  have h : ¬ (100000 : Int32) ≤ nI n := fun q => by
    have := (nI_leI (a := 100000) (by omega) (by omega)).mp q
    omega
  have h2 : nI n < (11 : Int32) := (nI_ltI (b := 11) (by omega) (by omega)).mpr (by omega)
  unfold stp
  rw [if_neg h, if_pos h2]
  congr 1
  show nm (nI n).toNatClampNeg = _
  rw [nI_clamp (by omega)]
theorem wfR_num (t : List Int32) (h : Nat) {n : Nat} (hn : n < 10000) : wfR (nI (n + 100000) :: t) h = wfR t (h + 1) := by
  rw [wfR, if_pos (Or.inl ⟨(nI_leI (a := 100000) (by omega) (by omega)).mpr (by omega), (nI_ltI (b := 110000) (by omega) (by omega)).mpr (by omega)⟩)]
theorem wfR_nm (t : List Int32) (h : Nat) {n : Nat} (hn : n < 6) : wfR (nI n :: t) h = wfR t (h + 1) := by
  rw [wfR, if_pos (Or.inr ⟨nI_pos' (by omega), (nI_ltI (b := 6) (by omega) (by omega)).mpr (by omega)⟩)]
theorem wfR_un {c : Int32} {t : List Int32} {h : Nat} {o : Nat} (hc : c = 13 ∨ c = 19) (hw : wfR (c :: t) h = some o) : 1 ≤ h ∧ wfR t h = some o := by
  rw [wfR, if_neg (by rcases hc with rfl | rfl <;> decide), if_pos hc] at hw
  split at hw
  · exact ⟨by assumption, hw⟩
  · cases hw
theorem wfR_bin {c : Int32} {t : List Int32} {h : Nat} {o : Nat} (hc : binC c) (hw : wfR (c :: t) h = some o) : 2 ≤ h ∧ wfR t (h - 1) = some o := by
  rw [wfR, if_neg (by rcases hc with rfl | rfl | rfl | rfl | rfl | rfl | rfl <;> decide), if_neg (by rcases hc with rfl | rfl | rfl | rfl | rfl | rfl | rfl <;> decide), if_pos (by rcases hc with rfl | rfl | rfl | rfl | rfl | rfl | rfl <;> decide)] at hw
  split at hw
  · exact ⟨by assumption, hw⟩
  · cases hw
theorem wfR_999 (t : List Int32) (h o : Nat) : ¬ wfR (999 :: t) h = some o := by
  rw [wfR, if_neg (by decide), if_neg (by decide), if_neg (by decide)]
  exact fun q => by cases q
theorem stp_un (nm : Nat → Int32) {c y z : Int32} {t : List Int32} (hc : c = 13 ∨ c = 19) : stp nm c (y :: t) = jnS c y z :: t := by
  rcases hc with rfl | rfl <;> rfl
theorem stp_bin (nm : Nat → Int32) {c y x : Int32} {t : List Int32} (hc : binC c) : stp nm c (y :: x :: t) = jnS c x y :: t := by
  rcases hc with rfl | rfl | rfl | rfl | rfl | rfl | rfl <;> rfl
theorem imax1n {h : Nat} (h1 : 1 ≤ h) (h2 : h < 2 ^ 31) : imax 1 (nI h) = nI h := by
  unfold imax
  split
  · rfl
  · rename_i q
    have h3 : ¬ 1 < h := fun z => q ((nI_ltI (a := 1) (by omega) h2).mpr z)
    obtain rfl : h = 1 := by omega
    rfl
/-- the class's stack holds the numbers, the last on top -/
def Held (f : Nat → Int32) (st : List Int32) : Prop := ∀ h, h < st.length → f h = st.getD (st.length - 1 - h) 0
theorem Held.push {f : Nat → Int32} {st : List Int32} (h : Held f st) (x : Int32) : Held (up1 f st.length x) (x :: st) := by
  intro k hk
  rw [List.length_cons] at hk
  unfold up1
  by_cases e : k = st.length
  · subst e
    simp
  · rw [if_neg e, h k (by omega)]
    rw [List.length_cons, show st.length + 1 - 1 - k = (st.length - 1 - k) + 1 by omega]
    simp
theorem Held.top {f : Nat → Int32} {y : Int32} {t : List Int32} (h : Held f (y :: t)) : f t.length = y := by
  have := h t.length (by simp)
  simpa using this
theorem Held.pop {f : Nat → Int32} {y : Int32} {t : List Int32} (h : Held f (y :: t)) : Held f t := by
  intro k hk
  have := h k (by simp; omega)
  rw [List.length_cons, show t.length + 1 - 1 - k = (t.length - 1 - k) + 1 by omega] at this
  simpa using this
def sp_Texts_value : SpT := fun as S I L Post => ∃ (t j a : Nat) (cs : List Int32), as = [.ref 30, .int (nI t), .int (nI j)] ∧ S = S1 ∧ t < 6 ∧ j < 3 ∧ I 32 (t * 4 + j) = nI a ∧ I 32 (t * 4 + j + 1) = nI (a + cs.length) ∧ a + cs.length ≤ 160 ∧
  (∀ i, i < cs.length → enc (I 31 (t * 160 + a + i)) = cs.getD i 0) ∧ wfR cs 0 = some 1 ∧ ∀ I' : IM, Fr [34] I I' → Post (some (.int (valP (I 33) cs))) S I' L
set_option maxHeartbeats 4000000 in
set_option maxRecDepth 100000 in
theorem value_tail {G : WG} {I' : IM} {L : LM} {Post : PostT} {h : Nat} {i x : Int32} {a1 a2 a3 a4 a8 : Value} (hh : h < 160) (hx : isOp (x - 20000)) (k : X mTexts_value G (3, 0, 0) S1 (up2 I' 34 h (jnS (enc x) (I' 34 h) (I' 34 (h + 1)))) L 43 [.ref 30, a1, a2, a3, a4, .int (nI (h + 1)), .int (i + 1), .int x, a8] [] Post) :
    X mTexts_value G (3, 0, 0) S1 I' L 147 [.ref 30, a1, a2, a3, a4, .int (nI (h + 1)), .int i, .int x, a8] [] Post := by
  refine x_aload_n dTexts_value_147 rfl ?_
  refine x_getR fl_Texts_28 rfl dTexts_value_148 rfl rfl rfl ?_
  refine x_iload dTexts_value_151 rfl ?_
  refine x_iconst (v := 1) dTexts_value_153 rfl ?_
  refine x_isub dTexts_value_154 ?_
  -- at 155: .iload 7
  refine x_eqi (nI_pred h) ?_
  refine x_iload dTexts_value_155 rfl ?_
  refine x_sipush (v := 20000) dTexts_value_157 rfl ?_
  refine x_isub dTexts_value_160 ?_
  refine x_aload_n dTexts_value_161 rfl ?_
  refine x_getR fl_Texts_28 rfl dTexts_value_162 rfl rfl rfl ?_
  refine x_iload dTexts_value_165 rfl ?_
  refine x_iconst (v := 1) dTexts_value_167 rfl ?_
  refine x_isub dTexts_value_168 ?_
  refine x_ialdJ dTexts_value_169 rfl rfl (nI_pred h) (by omega) ?_
  refine x_aload_n dTexts_value_170 rfl ?_
  refine x_getR fl_Texts_28 rfl dTexts_value_171 rfl rfl rfl ?_
  refine x_iload dTexts_value_174 rfl ?_
  refine x_ialdJ dTexts_value_176 rfl rfl rfl (by omega) ?_
  -- at 177: .invokestatic 47
  refine x_callS_3 c_Texts_joined ok_Texts_joined ml_Texts_47 dTexts_value_177 rfl rfl ?_
  refine ⟨_, _, _, rfl, hx, ?_⟩
  rw [Int32.sub_add_cancel]
  refine x_iastJ dTexts_value_180 rfl rfl rfl (by omega) ?_
  refine x_iincp_6 dTexts_value_181 rfl rfl ?_
  refine x_goto (tgt := 43) dTexts_value_184 (by decide) ?_
  -- at 43: .iload 6
  exact k
set_option maxHeartbeats 4000000 in
set_option maxRecDepth 100000 in
theorem value_loop {G : WG} {I : IM} {L : LM} {Post : PostT} {t j e : Nat} {V : Int32} {av : Value} (ht : t < 6) (he : e ≤ t * 160 + 160) (hp : ∀ I' : IM, Fr [34] I I' → Post (some (.int V)) S1 I' L) :
    ∀ (rs : List Int32) (i : Nat) (st : List Int32) (I' : IM) (a7 a8 : Value), Fr [34] I I' → i + rs.length = e → t * 160 ≤ i → (∀ k, k < rs.length → enc (I 31 (i + k)) = rs.getD k 0) → wfR rs st.length = some 1 → t * 160 + st.length ≤ i → Held (I' 34) st → (runP (I 33) rs st).headD 0 = V →
    X mTexts_value G (3, 0, 0) S1 I' L 43 [.ref 30, .int (nI t), .int (nI j), av, .int (nI e), .int (nI st.length), .int (nI i), a7, a8] [] Post := by
  intro rs
  induction rs with
  | nil =>
    intro i st I' a7 a8 hF hi hti hc hw hst hH hV
    refine x_iload dTexts_value_43 rfl ?_
    refine x_iload dTexts_value_45 rfl ?_
    -- at 47: .if_icmp .ge 140
    obtain rfl : i = e := by simpa using hi
    refine x_icmp_ge (tgt := 187) dTexts_value_47 (by decide) (fun _ => ?_) (fun h => absurd (Int32.le_refl _) h)
    have h1 : st.length = 1 := by simpa [wfR] using hw
    refine x_aload_n dTexts_value_187 rfl ?_
    refine x_getR fl_Texts_28 rfl dTexts_value_188 rfl rfl rfl ?_
    refine x_iconst (v := 0) dTexts_value_191 rfl ?_
    -- at 192: .iaload
    refine x_ialdJ (j := 0) dTexts_value_192 rfl rfl rfl (by omega) ?_
    refine x_ireturn dTexts_value_193 rfl rfl ?_
    match st, h1 with
    | [y], _ =>
      rw [show I' 34 0 = y from hH.top, show y = V from hV]
      exact hp I' hF
  | cons c rs ih =>
    intro i st I' a7 a8 hF hi hti hc hw hst hH hV
    rw [List.length_cons] at hi
    have hc0 := hc 0 (by simp)
    have hcr : ∀ k, k < rs.length → enc (I 31 (i + 1 + k)) = rs.getD k 0 := fun k hk => by
      have := hc (k + 1) (by simp; omega)
      rw [show i + 1 + k = i + (k + 1) by omega, this]
      simp
    simp only [Nat.add_zero, List.getD_cons_zero] at hc0
    refine x_iload dTexts_value_43 rfl ?_
    refine x_iload dTexts_value_45 rfl ?_
    -- at 47: .if_icmp .ge 140
    refine x_icmp_ge (tgt := 187) dTexts_value_47 (by decide) (fun h => absurd h (nI_ge (b := e) (by omega) (by omega))) (fun _ => ?_)
    refine x_aload_n dTexts_value_50 rfl ?_
    refine x_getR fl_Texts_9 rfl dTexts_value_51 rfl rfl rfl ?_
    refine x_iload dTexts_value_54 rfl ?_
    refine x_ialdJ dTexts_value_56 rfl rfl rfl (by omega) ?_
    refine x_istore_7 dTexts_value_57 rfl rfl ?_
    -- at 59: .iload 7
    rw [hF 31 (by decide)]
    generalize hx : I 31 i = x at hc0 ⊢
    rcases enc_cases x with ⟨n, hn, e1, e2⟩ | ⟨n, hn, e1, e2⟩ | ⟨e1, e2⟩ | ⟨e1, e2⟩ | ⟨q1, q2, q3, q4, q5⟩ | e2
    · rw [e2] at hc0
      subst hc0
      rw [wfR_num _ _ hn] at hw
      rw [runP, stp_num _ _ hn] at hV
      subst e1
      refine x_iload dTexts_value_59 rfl ?_
      refine x_sipush (v := 20000) dTexts_value_61 rfl ?_
      -- at 64: .if_icmp .ge 40
      refine x_icmp_ge (tgt := 104) dTexts_value_64 (by decide) (fun h => absurd h (nI_ge (b := 20000) (by omega) (by omega))) (fun _ => ?_)
      refine x_aload_n dTexts_value_67 rfl ?_
      refine x_getR fl_Texts_28 rfl dTexts_value_68 rfl rfl rfl ?_
      refine x_iload dTexts_value_71 rfl ?_
      refine x_iload dTexts_value_73 rfl ?_
      refine x_sipush (v := 10000) dTexts_value_75 rfl ?_
      -- at 78: .if_icmp .ge 8
      refine x_icmp_ge (tgt := 86) dTexts_value_78 (by decide) (fun h => absurd h (nI_ge (b := 10000) (by omega) (by omega))) (fun _ => ?_)
      refine x_iload dTexts_value_81 rfl ?_
      refine x_goto (tgt := 97) dTexts_value_83 (by decide) ?_
      refine x_iastJ dTexts_value_97 rfl rfl rfl (by omega) ?_
      refine x_iincp_5 dTexts_value_98 rfl rfl ?_
      refine x_goto (tgt := 181) dTexts_value_101 (by decide) ?_
      refine x_iincp_6 dTexts_value_181 rfl rfl ?_
      refine x_goto (tgt := 43) dTexts_value_184 (by decide) ?_
      -- at 43: .iload 6
      rw [nI_1, nI_1]
      exact ih (i + 1) (nI n :: st) _ _ _ (hF.up (by decide) _ _) (by omega) (by omega) hcr hw (by simp; omega) (by rw [up2_s]; exact hH.push _) hV
    · rw [e2] at hc0
      subst hc0
      rw [wfR_nm _ _ hn] at hw
      rw [runP, stp_nm _ _ hn] at hV
      subst e1
      refine x_iload dTexts_value_59 rfl ?_
      refine x_sipush (v := 20000) dTexts_value_61 rfl ?_
      -- at 64: .if_icmp .ge 40
      refine x_icmp_ge (tgt := 104) dTexts_value_64 (by decide) (fun h => absurd h (nI_ge (b := 20000) (by omega) (by omega))) (fun _ => ?_)
      refine x_aload_n dTexts_value_67 rfl ?_
      refine x_getR fl_Texts_28 rfl dTexts_value_68 rfl rfl rfl ?_
      refine x_iload dTexts_value_71 rfl ?_
      refine x_iload dTexts_value_73 rfl ?_
      refine x_sipush (v := 10000) dTexts_value_75 rfl ?_
      -- at 78: .if_icmp .ge 8
      refine x_icmp_ge (tgt := 86) dTexts_value_78 (by decide) (fun _ => ?_) (fun h => absurd (nI_le (a := 10000) (by omega) (by omega)) h)
      refine x_aload_n dTexts_value_86 rfl ?_
      refine x_getR fl_Texts_25 rfl dTexts_value_87 rfl rfl rfl ?_
      refine x_iload dTexts_value_90 rfl ?_
      refine x_sipush (v := 10000) dTexts_value_92 rfl ?_
      refine x_isub dTexts_value_95 ?_
      -- at 96: .iaload
      refine x_ialdJ (j := n) dTexts_value_96 rfl rfl (pk_sub (b := 10000) (by omega)) (by omega) ?_
      rw [hF 33 (by decide)]
      refine x_iastJ dTexts_value_97 rfl rfl rfl (by omega) ?_
      refine x_iincp_5 dTexts_value_98 rfl rfl ?_
      refine x_goto (tgt := 181) dTexts_value_101 (by decide) ?_
      refine x_iincp_6 dTexts_value_181 rfl rfl ?_
      refine x_goto (tgt := 43) dTexts_value_184 (by decide) ?_
      -- at 43: .iload 6
      rw [nI_1, nI_1]
      exact ih (i + 1) (I 33 n :: st) _ _ _ (hF.up (by decide) _ _) (by omega) (by omega) hcr hw (by simp; omega) (by rw [up2_s]; exact hH.push _) hV
    · obtain ⟨w1, w2⟩ := wfR_un (Or.inl (hc0.symm.trans e2)) hw
      match st, w1, w2, hst, hH, hV with
      | y :: u, w1, w2, hst, hH, hV =>
        rw [List.length_cons] at hst w2 ⊢
        rw [runP, stp_un (z := I' 34 (u.length + 1)) _ (Or.inl (hc0.symm.trans e2))] at hV
        refine x_iload dTexts_value_59 rfl ?_
        refine x_sipush (v := 20000) dTexts_value_61 rfl ?_
        -- at 64: .if_icmp .ge 40
        refine x_icmp_ge (tgt := 104) dTexts_value_64 (by decide) (fun _ => ?_) (fun h => absurd (by rw [e1]; decide) h)
        refine x_iload dTexts_value_104 rfl ?_
        refine x_sipush (v := 20010) dTexts_value_106 rfl ?_
        -- at 109: .if_icmp .eq 11
        refine x_icmp_eq (tgt := 120) dTexts_value_109 (by decide) (fun h => absurd h (by rw [e1]; decide)) (fun _ => ?_)
        refine x_iload dTexts_value_112 rfl ?_
        refine x_sipush (v := 20009) dTexts_value_114 rfl ?_
        -- at 117: .if_icmp .ne 7
        refine x_icmp_ne (tgt := 124) dTexts_value_117 (by decide) (fun h => absurd e1 h) (fun _ => ?_)
        refine x_iconst (v := 1) dTexts_value_120 rfl ?_
        refine x_goto (tgt := 125) dTexts_value_121 (by decide) ?_
        refine x_istore_8 dTexts_value_125 rfl rfl ?_
        refine x_iconst (v := 1) dTexts_value_127 rfl ?_
        refine x_iload dTexts_value_128 rfl ?_
        -- at 130: .ifCond .eq 8
        refine x_if_eq (tgt := 138) dTexts_value_130 (by decide) (fun h => absurd h (by decide)) (fun _ => ?_)
        refine x_iload dTexts_value_133 rfl ?_
        refine x_goto (tgt := 142) dTexts_value_135 (by decide) ?_
        -- at 142: .invokestatic 41
        refine x_mmax dTexts_value_142 ml_Texts_41 st_max it_Math co_max rfl rfl ?_
        refine x_eqi (imax1n (h := u.length + 1) (by omega) (by omega)) ?_
        refine x_istore_5 dTexts_value_145 rfl rfl ?_
        -- at 147: .aload_n 0
        refine value_tail (by omega) (by rw [e1]; decide) ?_
        rw [nI_1, hH.top, hc0]
        exact ih (i + 1) (_ :: u) _ _ _ (hF.up (by decide) _ _) (by omega) (by omega) hcr w2 (by simp; omega) (by rw [up2_s]; exact hH.pop.push _) hV
    · obtain ⟨w1, w2⟩ := wfR_un (Or.inr (hc0.symm.trans e2)) hw
      match st, w1, w2, hst, hH, hV with
      | y :: u, w1, w2, hst, hH, hV =>
        rw [List.length_cons] at hst w2 ⊢
        rw [runP, stp_un (z := I' 34 (u.length + 1)) _ (Or.inr (hc0.symm.trans e2))] at hV
        refine x_iload dTexts_value_59 rfl ?_
        refine x_sipush (v := 20000) dTexts_value_61 rfl ?_
        -- at 64: .if_icmp .ge 40
        refine x_icmp_ge (tgt := 104) dTexts_value_64 (by decide) (fun _ => ?_) (fun h => absurd (by rw [e1]; decide) h)
        refine x_iload dTexts_value_104 rfl ?_
        refine x_sipush (v := 20010) dTexts_value_106 rfl ?_
        -- at 109: .if_icmp .eq 11
        refine x_icmp_eq (tgt := 120) dTexts_value_109 (by decide) (fun _ => ?_) (fun h => absurd e1 h)
        refine x_iconst (v := 1) dTexts_value_120 rfl ?_
        refine x_goto (tgt := 125) dTexts_value_121 (by decide) ?_
        refine x_istore_8 dTexts_value_125 rfl rfl ?_
        refine x_iconst (v := 1) dTexts_value_127 rfl ?_
        refine x_iload dTexts_value_128 rfl ?_
        -- at 130: .ifCond .eq 8
        refine x_if_eq (tgt := 138) dTexts_value_130 (by decide) (fun h => absurd h (by decide)) (fun _ => ?_)
        refine x_iload dTexts_value_133 rfl ?_
        refine x_goto (tgt := 142) dTexts_value_135 (by decide) ?_
        -- at 142: .invokestatic 41
        refine x_mmax dTexts_value_142 ml_Texts_41 st_max it_Math co_max rfl rfl ?_
        refine x_eqi (imax1n (h := u.length + 1) (by omega) (by omega)) ?_
        refine x_istore_5 dTexts_value_145 rfl rfl ?_
        -- at 147: .aload_n 0
        refine value_tail (by omega) (by rw [e1]; decide) ?_
        rw [nI_1, hH.top, hc0]
        exact ih (i + 1) (_ :: u) _ _ _ (hF.up (by decide) _ _) (by omega) (by omega) hcr w2 (by simp; omega) (by rw [up2_s]; exact hH.pop.push _) hV
    · rw [hc0] at q5
      obtain ⟨w1, w2⟩ := wfR_bin q5 hw
      match st, w1, w2, hst, hH, hV with
      | y :: z :: u, w1, w2, hst, hH, hV =>
        rw [List.length_cons, List.length_cons] at hst w2 ⊢
        rw [runP, stp_bin _ q5] at hV
        refine x_iload dTexts_value_59 rfl ?_
        refine x_sipush (v := 20000) dTexts_value_61 rfl ?_
        -- at 64: .if_icmp .ge 40
        refine x_icmp_ge (tgt := 104) dTexts_value_64 (by decide) (fun _ => ?_) (fun h => absurd (Int32.not_lt.mp q1) h)
        refine x_iload dTexts_value_104 rfl ?_
        refine x_sipush (v := 20010) dTexts_value_106 rfl ?_
        -- at 109: .if_icmp .eq 11
        refine x_icmp_eq (tgt := 120) dTexts_value_109 (by decide) (fun h => absurd h q3) (fun _ => ?_)
        refine x_iload dTexts_value_112 rfl ?_
        refine x_sipush (v := 20009) dTexts_value_114 rfl ?_
        -- at 117: .if_icmp .ne 7
        refine x_icmp_ne (tgt := 124) dTexts_value_117 (by decide) (fun _ => ?_) (fun h => absurd h q2)
        refine x_iconst (v := 0) dTexts_value_124 rfl ?_
        refine x_istore_8 dTexts_value_125 rfl rfl ?_
        refine x_iconst (v := 1) dTexts_value_127 rfl ?_
        refine x_iload dTexts_value_128 rfl ?_
        -- at 130: .ifCond .eq 8
        refine x_if_eq (tgt := 138) dTexts_value_130 (by decide) (fun _ => ?_) (fun h => absurd (by decide) h)
        refine x_iload dTexts_value_138 rfl ?_
        refine x_iconst (v := 1) dTexts_value_140 rfl ?_
        refine x_isub dTexts_value_141 ?_
        -- at 142: .invokestatic 41
        refine x_eqi (nI_pred (u.length + 1)) ?_
        refine x_mmax dTexts_value_142 ml_Texts_41 st_max it_Math co_max rfl rfl ?_
        refine x_eqi (imax1n (h := u.length + 1) (by omega) (by omega)) ?_
        refine x_istore_5 dTexts_value_145 rfl rfl ?_
        -- at 147: .aload_n 0
        refine value_tail (by omega) q4 ?_
        have hy : I' 34 (u.length + 1) = y := by simpa using hH.top
        rw [nI_1, hH.pop.top, hy, hc0]
        exact ih (i + 1) (_ :: u) _ _ _ (hF.up (by decide) _ _) (by omega) (by omega) hcr w2 (by simp; omega) (by rw [up2_s]; exact hH.pop.pop.push _) hV
    · rw [e2] at hc0
      subst hc0
      exact absurd hw (wfR_999 _ _ _)
set_option maxHeartbeats 4000000 in
set_option maxRecDepth 100000 in
theorem c_Texts_value : Con mTexts_value 3 0 0 sp_Texts_value := by
  refine con_of_X rfl fun G as S I L Post hs => ?_
  obtain ⟨t, j, a, cs, rfl, rfl, ht, hj, ha, hb, hab, hc, hw, h1⟩ := hs
  refine ⟨6, Nat.le_of_ble_eq_true rfl, ?_⟩
  show X mTexts_value G _ S1 I L 0 [.ref 30, .int (nI t), .int (nI j), .null, .null, .null, .null, .null, .null] [] Post
  refine x_iload_n dTexts_value_0 rfl ?_
  refine x_sipush (v := 160) dTexts_value_1 rfl ?_
  refine x_imul dTexts_value_4 ?_
  refine x_aload_n dTexts_value_5 rfl ?_
  refine x_getR fl_Texts_15 rfl dTexts_value_6 rfl rfl rfl ?_
  refine x_iload_n dTexts_value_9 rfl ?_
  refine x_iconst (v := 4) dTexts_value_10 rfl ?_
  refine x_imul dTexts_value_11 ?_
  refine x_iload_n dTexts_value_12 rfl ?_
  refine x_iadd dTexts_value_13 ?_
  refine x_ialdJ (j := t * 4 + j) dTexts_value_14 rfl rfl (by first | rfl | (simp only [← nI_add, ← pk_mul]; rfl)) (by omega) ?_
  -- at 15: .iadd
  rw [ha]
  refine x_iadd dTexts_value_15 ?_
  refine x_istoren_3 dTexts_value_16 rfl rfl ?_
  refine x_iload_n dTexts_value_17 rfl ?_
  refine x_sipush (v := 160) dTexts_value_18 rfl ?_
  refine x_imul dTexts_value_21 ?_
  refine x_aload_n dTexts_value_22 rfl ?_
  refine x_getR fl_Texts_15 rfl dTexts_value_23 rfl rfl rfl ?_
  refine x_iload_n dTexts_value_26 rfl ?_
  refine x_iconst (v := 4) dTexts_value_27 rfl ?_
  refine x_imul dTexts_value_28 ?_
  refine x_iload_n dTexts_value_29 rfl ?_
  refine x_iadd dTexts_value_30 ?_
  refine x_iconst (v := 1) dTexts_value_31 rfl ?_
  refine x_iadd dTexts_value_32 ?_
  refine x_ialdJ (j := t * 4 + j + 1) dTexts_value_33 rfl rfl (by first | rfl | (simp only [← nI_add, ← pk_mul]; rfl)) (by omega) ?_
  -- at 34: .iadd
  rw [hb]
  refine x_iadd dTexts_value_34 ?_
  refine x_istore_4 dTexts_value_35 rfl rfl ?_
  refine x_iconst (v := 0) dTexts_value_37 rfl ?_
  refine x_istore_5 dTexts_value_38 rfl rfl ?_
  refine x_iload_n dTexts_value_40 rfl ?_
  refine x_istore_6 dTexts_value_41 rfl rfl ?_
  -- at 43: .iload 6
  have e1 : nI t * 160 + nI a = nI (t * 160 + a) := by simp only [← nI_add, ← pk_mul]; rfl
  have e2 : nI t * 160 + nI (a + cs.length) = nI (t * 160 + a + cs.length) := by rw [Nat.add_assoc]; simp only [← nI_add, ← pk_mul]; rfl
  rw [e1, e2]
  exact value_loop ht (by omega) h1 cs (t * 160 + a) [] I _ _ Fr.rfl rfl (by omega) hc hw (by simp) (fun k hk => absurd hk (Nat.not_lt_zero k)) rfl
