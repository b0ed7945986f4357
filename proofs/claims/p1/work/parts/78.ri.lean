/-! the reference: which word, which token -/
def Wd (i : Nat) : List Int32 := match i with
  | 0 => [104, 101, 97, 114, 100] | 1 => [115, 104, 97, 114, 101] | 2 => [112, 97, 105, 110] | 3 => [108, 111, 117, 100] | 4 => [102, 97, 114] | 5 => [101, 97, 114]
  | 6 => [110, 101, 101, 100] | 7 => [109, 97, 110, 121] | 8 => [98, 97, 115, 101] | 9 => [111, 114] | 10 => [97, 110, 100] | _ => [110, 111, 116]
def kdW (i : Nat) : Int32 × Int32 := match i with
  | 0 => (4, 0) | 1 => (5, 0) | 2 => (6, 0) | 3 => (3, 0) | 4 => (3, 1) | 5 => (3, 2) | 6 => (3, 3) | 7 => (3, 4) | 8 => (3, 5) | 9 => (7, 0) | 10 => (8, 0) | 11 => (9, 0) | _ => (1, 0)
theorem Wd_words : ∀ i, i < 12 → ∀ j, j < 8 → wordsL.getD (8 * i + j) 0 = (Wd i).getD j 32 := by decide +kernel
theorem Wd_let : ∀ i, i < 12 → (Wd i).length ≤ 8 ∧ ∀ j, j < (Wd i).length → ¬ (Wd i).getD j 32 = 32 := by decide +kernel
theorem kindW_i : ∀ i, i < 12 → kindW (Wd i) = kdW i := by decide +kernel
theorem kindW_no {w : List Int32} (h : ∀ i, i < 12 → ¬ w = Wd i) : kindW w = (1, 0) := by
  unfold kindW
  rw [if_neg (show ¬ w = [108, 111, 117, 100] from h 3 (by omega)), if_neg (show ¬ w = [102, 97, 114] from h 4 (by omega)), if_neg (show ¬ w = [101, 97, 114] from h 5 (by omega)), if_neg (show ¬ w = [110, 101, 101, 100] from h 6 (by omega)), if_neg (show ¬ w = [109, 97, 110, 121] from h 7 (by omega)), if_neg (show ¬ w = [98, 97, 115, 101] from h 8 (by omega)), if_neg (show ¬ w = [104, 101, 97, 114, 100] from h 0 (by omega)), if_neg (show ¬ w = [115, 104, 97, 114, 101] from h 1 (by omega)), if_neg (show ¬ w = [112, 97, 105, 110] from h 2 (by omega)), if_neg (show ¬ w = [111, 114] from h 9 (by omega)), if_neg (show ¬ w = [97, 110, 100] from h 10 (by omega)), if_neg (show ¬ w = [110, 111, 116] from h 11 (by omega))]
theorem pad_eq {w W : List Int32} (hw : w.length ≤ 8) (hW : W.length ≤ 8) (h1 : ∀ j, j < w.length → ¬ w.getD j 32 = 32) (h2 : ∀ j, j < W.length → ¬ W.getD j 32 = 32) (h : ∀ j, j < 8 → W.getD j 32 = w.getD j 32) : w = W := by
  have out : ∀ (l : List Int32) (j : Nat), l.length ≤ j → l.getD j 32 = 32 := fun l j hj => by
    rw [List.getD_eq_getElem?_getD, List.getElem?_eq_none hj]
    rfl
  have hl : w.length = W.length := by
    refine Classical.byContradiction fun hne => ?_
    by_cases c : w.length < W.length
    · exact h2 w.length c (by rw [h _ (by omega)]; exact out w _ (Nat.le_refl _))
    · exact h1 W.length (by omega) (by rw [← h _ (by omega)]; exact out W _ (Nat.le_refl _))
  refine List.ext_getElem hl fun j j1 j2 => ?_
  have := h j (by omega)
  rw [List.getD_eq_getElem?_getD, List.getD_eq_getElem?_getD, List.getElem?_eq_getElem j1, List.getElem?_eq_getElem j2] at this
  exact this.symm
/-- a byte of a word, with blanks behind it -/
def padW (f : Nat → Int32) (b e j : Nat) : Int32 := if b + j < e then f (b + j) else 32
theorem padW_at (f : Nat → Int32) (b e j : Nat) : padW f b e j = (wordAt f b e).getD j 32 := by
  unfold padW wordAt
  by_cases h : b + j < e
  · rw [if_pos h, List.getD_eq_getElem?_getD, List.getElem?_map, List.getElem?_range (by omega)]
    rfl
  · rw [if_neg h, List.getD_eq_getElem?_getD, List.getElem?_eq_none (by simp; omega)]
    rfl
def matW (f : Nat → Int32) (b e i : Nat) : Prop := e - b ≤ 8 ∧ ∀ j, j < 8 → wordsL.getD (8 * i + j) 0 = padW f b e j
theorem matW_iff {f : Nat → Int32} {b e i : Nat} (hi : i < 12) (hl : ∀ j, b ≤ j → j < e → isLet (f j)) : matW f b e i ↔ wordAt f b e = Wd i := by
  obtain ⟨w1, w2⟩ := Wd_let i hi
  have hlen : (wordAt f b e).length = e - b := by simp [wordAt]
  constructor
  · rintro ⟨h1, h2⟩
    refine pad_eq (by omega) w1 (fun j hj => ?_) w2 (fun j hj => ?_)
    · rw [← padW_at]
      unfold padW
      rw [if_pos (by omega)]
      intro z
      have := hl (b + j) (by omega) (by omega)
      rw [z] at this
      exact absurd this (by decide)
    · rw [← Wd_words i hi j hj, h2 j hj, padW_at]
  · intro h
    refine ⟨by rw [← hlen, h]; exact w1, fun j hj => ?_⟩
    rw [Wd_words i hi j hj, padW_at, h]
def sp_R_wordFrom : SpT := fun as S I L Post => ∃ b e : Nat, as = [.ref 59, .int (nI b), .int (nI e)] ∧ S = S1 ∧ b ≤ e ∧ e ≤ 160 ∧ (∀ k, k < 96 → I 92 k = wordsL.getD k 0) ∧ ∀ i, i ≤ 12 → (i < 12 → matW (I 78) b e i) → (i = 12 → ∀ k, k < 12 → ¬ matW (I 78) b e k) → Post (some (.int (nI i))) S1 I L
set_option maxHeartbeats 4000000 in
set_option maxRecDepth 100000 in
theorem c_R_wordFrom : Con mR_wordFrom 2 0 0 sp_R_wordFrom := by
  refine con_of_X rfl fun G as S I L Post hs => ?_
  obtain ⟨b, e, rfl, rfl, hbe, he, hw, h1⟩ := hs
  refine ⟨3, Nat.le_of_ble_eq_true rfl, ?_⟩
  show X mR_wordFrom G _ S1 I L 0 [.ref 59, .int (nI b), .int (nI e), .null, .null, .null] [] Post
  have inner : ∀ (i : Nat) (ok : Bool) (k j : Nat), i < 12 → j + k = 8 → (ok = true → e - b ≤ 8 ∧ ∀ x, x < j → wordsL.getD (8 * i + x) 0 = padW (I 78) b e x) → (ok = false → ¬ matW (I 78) b e i) →
      ((matW (I 78) b e i → ∀ a5 : Int32, X mR_wordFrom G (2, 0, 0) S1 I L 88 [.ref 59, .int (nI b), .int (nI e), .int (nI i), .int 1, .int a5] [] Post) ∧ (¬ matW (I 78) b e i → ∀ a5 : Int32, X mR_wordFrom G (2, 0, 0) S1 I L 88 [.ref 59, .int (nI b), .int (nI e), .int (nI i), .int 0, .int a5] [] Post)) →
      X mR_wordFrom G (2, 0, 0) S1 I L 26 [.ref 59, .int (nI b), .int (nI e), .int (nI i), .int (if ok then 1 else 0), .int (nI j)] [] Post := by
    intro i ok k
    induction k generalizing ok with
    | zero =>
      intro j hi hj h2 h3 h4
      obtain rfl : j = 8 := by omega
      refine x_iload dR_wordFrom_26 rfl ?_
      refine x_bipush (v := 8) dR_wordFrom_28 rfl ?_
      -- at 30: .if_icmp .ge 58
      refine x_icmp_ge (tgt := 88) dR_wordFrom_30 (by decide) (fun _ => ?_) (fun h => absurd (by decide) h)
      cases ok with
      | true => exact h4.1 (h2 rfl) _
      | false => exact h4.2 (h3 rfl) _
    | succ k ih =>
      intro j hi hj h2 h3 h4
      refine x_iload dR_wordFrom_26 rfl ?_
      refine x_bipush (v := 8) dR_wordFrom_28 rfl ?_
      -- at 30: .if_icmp .ge 58
      refine x_icmp_ge (tgt := 88) dR_wordFrom_30 (by decide) (fun h => absurd h (nI_ge (b := 8) (by omega) (by omega))) (fun _ => ?_)
      refine x_iload dR_wordFrom_33 rfl ?_
      -- at 35: .ifCond .eq 53
      cases ok with
      | false =>
        refine x_if_eq (tgt := 88) dR_wordFrom_35 (by decide) (fun _ => ?_) (fun h => absurd rfl h)
        exact h4.2 (h3 rfl) _
      | true =>
        obtain ⟨g1, g2⟩ := h2 rfl
        refine x_if_eq (tgt := 88) dR_wordFrom_35 (by decide) (fun h => absurd h (by decide)) (fun _ => ?_)
        have e8 : (8 : Int32) * nI i + nI j = nI (8 * i + j) := by
          rw [show (8 : Int32) = nI 8 from rfl, pk_mul, nI_add]
        refine x_aload_n dR_wordFrom_38 rfl ?_
        refine x_getR fl_R_110 rfl dR_wordFrom_39 rfl rfl rfl ?_
        refine x_bipush (v := 8) dR_wordFrom_42 rfl ?_
        refine x_iload_n dR_wordFrom_44 rfl ?_
        refine x_imul dR_wordFrom_45 ?_
        refine x_iload dR_wordFrom_46 rfl ?_
        refine x_iadd dR_wordFrom_48 ?_
        refine x_ialdJ dR_wordFrom_49 rfl rfl e8 (by omega) ?_
        refine x_iload_n dR_wordFrom_50 rfl ?_
        refine x_iload dR_wordFrom_51 rfl ?_
        refine x_iadd dR_wordFrom_53 ?_
        -- at 54: .iload_n 2
        rw [hw _ (by omega)]
        have tail : ∀ x : Int32, x = padW (I 78) b e j → X mR_wordFrom G (2, 0, 0) S1 I L 72 [.ref 59, .int (nI b), .int (nI e), .int (nI i), .int 1, .int (nI j)] [.int x, .int (wordsL.getD (8 * i + j) 0)] Post := by
          intro x hx
          refine x_icmp_ne (tgt := 79) dR_wordFrom_72 (by decide) (fun c2 => ?_) (fun c2 => ?_)
          · refine x_iconst (v := 0) dR_wordFrom_79 rfl ?_
            refine x_istore_4 dR_wordFrom_80 rfl rfl ?_
            refine x_iincp_5 dR_wordFrom_82 rfl rfl ?_
            refine x_goto (tgt := 26) dR_wordFrom_85 (by decide) ?_
            -- at 26: .iload 5
            rw [nI_1]
            exact ih false (j + 1) hi (by omega) (fun z => absurd z (by decide)) (fun _ z => c2 ((z.2 j (by omega)).trans hx.symm)) h4
          · refine x_iconst (v := 1) dR_wordFrom_75 rfl ?_
            refine x_goto (tgt := 80) dR_wordFrom_76 (by decide) ?_
            refine x_istore_4 dR_wordFrom_80 rfl rfl ?_
            refine x_iincp_5 dR_wordFrom_82 rfl rfl ?_
            refine x_goto (tgt := 26) dR_wordFrom_85 (by decide) ?_
            -- at 26: .iload 5
            rw [nI_1]
            refine ih true (j + 1) hi (by omega) (fun _ => ⟨g1, fun x2 hx2 => ?_⟩) (fun z => absurd z (by decide)) h4
            by_cases e2 : x2 = j
            · rw [e2]; exact c2.trans hx
            · exact g2 x2 (by omega)
        refine x_eqi (y := nI (b + j)) (nI_add b j) ?_
        refine x_iload_n dR_wordFrom_54 rfl ?_
        -- at 55: .if_icmp .ge 15
        by_cases c1 : b + j < e
        · refine x_icmp_ge (tgt := 70) dR_wordFrom_55 (by decide) (fun h => absurd h (nI_ge c1 (by omega))) (fun _ => ?_)
          refine x_aload_n dR_wordFrom_58 rfl ?_
          refine x_getR fl_R_68 rfl dR_wordFrom_59 rfl rfl rfl ?_
          refine x_iload_n dR_wordFrom_62 rfl ?_
          refine x_iload dR_wordFrom_63 rfl ?_
          refine x_iadd dR_wordFrom_65 ?_
          refine x_ialdJ dR_wordFrom_66 rfl rfl (nI_add b j) (by omega) ?_
          refine x_goto (tgt := 72) dR_wordFrom_67 (by decide) ?_
          -- at 72: .if_icmp .ne 7
          exact tail _ (by unfold padW; rw [if_pos c1])
        · refine x_icmp_ge (tgt := 70) dR_wordFrom_55 (by decide) (fun _ => ?_) (fun h => absurd (nI_le (by omega) (by omega)) h)
          refine x_bipush (v := 32) dR_wordFrom_70 rfl ?_
          -- at 72: .if_icmp .ne 7
          exact tail _ (by unfold padW; rw [if_neg c1])
  have loop : ∀ (k i : Nat) (a4 a5 : Value), i + k = 12 → cat1at [a4] 1 = true → cat1at [a5] 1 = true → (∀ x, x < i → ¬ matW (I 78) b e x) → X mR_wordFrom G (2, 0, 0) S1 I L 2 [.ref 59, .int (nI b), .int (nI e), .int (nI i), a4, a5] [] Post := by
    intro k
    induction k with
    | zero =>
      intro i a4 a5 hi q4 q5 hno
      obtain rfl : i = 12 := by omega
      refine x_iload_n dR_wordFrom_2 rfl ?_
      refine x_bipush (v := 12) dR_wordFrom_3 rfl ?_
      -- at 5: .if_icmp .ge 96
      refine x_icmp_ge (tgt := 101) dR_wordFrom_5 (by decide) (fun _ => ?_) (fun h => absurd (by decide) h)
      refine x_bipush (v := 12) dR_wordFrom_101 rfl ?_
      -- at 103: .ireturn
      refine x_ireturn dR_wordFrom_103 rfl rfl ?_
      exact h1 12 (Nat.le_refl _) (fun z => absurd z (by omega)) (fun _ => hno)
    | succ k ih =>
      intro i a4 a5 hi q4 q5 hno
      have out : ((matW (I 78) b e i → ∀ a5 : Int32, X mR_wordFrom G (2, 0, 0) S1 I L 88 [.ref 59, .int (nI b), .int (nI e), .int (nI i), .int 1, .int a5] [] Post) ∧ (¬ matW (I 78) b e i → ∀ a5 : Int32, X mR_wordFrom G (2, 0, 0) S1 I L 88 [.ref 59, .int (nI b), .int (nI e), .int (nI i), .int 0, .int a5] [] Post)) := by
        constructor
        · intro hm a5
          refine x_iload dR_wordFrom_88 rfl ?_
          -- at 90: .ifCond .eq 5
          refine x_if_eq (tgt := 95) dR_wordFrom_90 (by decide) (fun h => absurd h (by decide)) (fun _ => ?_)
          refine x_iload_n dR_wordFrom_93 rfl ?_
          -- at 94: .ireturn
          refine x_ireturn dR_wordFrom_94 rfl rfl ?_
          exact h1 i (by omega) (fun _ => hm) (fun z => absurd z (by omega))
        · intro hm a5
          refine x_iload dR_wordFrom_88 rfl ?_
          -- at 90: .ifCond .eq 5
          refine x_if_eq (tgt := 95) dR_wordFrom_90 (by decide) (fun _ => ?_) (fun h => absurd rfl h)
          refine x_iincp_3 dR_wordFrom_95 rfl rfl ?_
          refine x_goto (tgt := 2) dR_wordFrom_98 (by decide) ?_
          -- at 2: .iload_n 3
          rw [nI_1]
          refine ih (i + 1) _ _ (by omega) rfl rfl (fun x hx => ?_)
          by_cases e2 : x = i
          · rw [e2]; exact hm
          · exact hno x (by omega)
      refine x_iload_n dR_wordFrom_2 rfl ?_
      refine x_bipush (v := 12) dR_wordFrom_3 rfl ?_
      -- at 5: .if_icmp .ge 96
      refine x_icmp_ge (tgt := 101) dR_wordFrom_5 (by decide) (fun h => absurd h (nI_ge (b := 12) (by omega) (by omega))) (fun _ => ?_)
      refine x_iload_n dR_wordFrom_8 rfl ?_
      refine x_iload_n dR_wordFrom_9 rfl ?_
      refine x_isub dR_wordFrom_10 ?_
      -- at 11: .bipush 8
      refine x_eqi (y := nI (e - b)) (pk_sub hbe) ?_
      refine x_bipush (v := 8) dR_wordFrom_11 rfl ?_
      -- at 13: .if_icmp .gt 7
      by_cases c1 : e - b ≤ 8
      · refine x_icmp_gt (tgt := 20) dR_wordFrom_13 (by decide) (fun h => absurd h (Int32.not_lt.mpr (nI_le (b := 8) c1 (by omega)))) (fun _ => ?_)
        refine x_iconst (v := 1) dR_wordFrom_16 rfl ?_
        refine x_goto (tgt := 21) dR_wordFrom_17 (by decide) ?_
        refine x_istore_4 dR_wordFrom_21 rfl rfl ?_
        refine x_iconst (v := 0) dR_wordFrom_23 rfl ?_
        refine x_istore_5 dR_wordFrom_24 rfl rfl ?_
        -- at 26: .iload 5
        exact inner i true 8 0 (by omega) rfl (fun _ => ⟨c1, fun x hx => absurd hx (Nat.not_lt_zero x)⟩) (fun z => absurd z (by decide)) out
      · refine x_icmp_gt (tgt := 20) dR_wordFrom_13 (by decide) (fun _ => ?_) (fun h => absurd ((nI_ltI (a := 8) (by omega) (by omega)).mpr (by omega)) h)
        refine x_iconst (v := 0) dR_wordFrom_20 rfl ?_
        refine x_istore_4 dR_wordFrom_21 rfl rfl ?_
        refine x_iconst (v := 0) dR_wordFrom_23 rfl ?_
        refine x_istore_5 dR_wordFrom_24 rfl rfl ?_
        -- at 26: .iload 5
        exact inner i false 8 0 (by omega) rfl (fun z => absurd z (by decide)) (fun _ z => c1 z.1) out
  refine x_iconst (v := 0) dR_wordFrom_0 rfl ?_
  refine x_istoren_3 dR_wordFrom_1 rfl rfl ?_
  -- at 2: .iload_n 3
  exact loop 12 0 _ _ rfl rfl rfl (fun x hx => absurd hx (Nat.not_lt_zero x))

/-- the reference's name of a token -/
def rtok (s : Int32) : Int32 := if s = 2 then 1 else if s = 3 then 2 else if s = 4 ∨ s = 5 ∨ s = 6 then 3 else if s = 7 then 4 else if s = 8 then 5 else if s = 9 then 6 else if s = 1 then -1 else s
def RTok (I : IM) (t : Tok) : Prop := I 59 46 = rtok t.1 ∧ (t.1 = 2 ∨ t.1 = 3 → I 59 47 = t.2.2) ∧ (t.1 = 4 → I 59 47 = 0) ∧ (t.1 = 5 → I 59 47 = 1) ∧ (t.1 = 6 → I 59 47 = 2) ∧ I 59 45 = nI t.2.1
/-- only these fields of the reference may differ -/
def FrN (js : List Nat) (I I' : IM) : Prop := (∀ k, k ≠ 59 → I' k = I k) ∧ ∀ j, j ∉ js → I' 59 j = I 59 j
theorem FrN.rfl {js : List Nat} {I : IM} : FrN js I I := ⟨fun _ _ => Eq.refl _, fun _ _ => Eq.refl _⟩
theorem FrN.up {js : List Nat} {I I' : IM} (h : FrN js I I') {j : Nat} (hj : j ∈ js) (x : Int32) : FrN js I (up2 I' 59 j x) := by
  refine ⟨fun k hk => by rw [up2_n _ _ _ hk]; exact h.1 k hk, fun i hi => ?_⟩
  rw [up2_s, up1_n]
  · exact h.2 i hi
  · rintro rfl
    exact hi hj
theorem FrN.tr {js : List Nat} {I I' I'' : IM} (h : FrN js I I') (h2 : FrN js I' I'') : FrN js I I'' := ⟨fun k hk => (h2.1 k hk).trans (h.1 k hk), fun j hj => (h2.2 j hj).trans (h.2 j hj)⟩
theorem FrN.wk {js ks : List Nat} {I I' : IM} (h : FrN js I I') (hs : ∀ k ∈ js, k ∈ ks) : FrN ks I I' := ⟨h.1, fun j hj => h.2 j (fun q => hj (hs j q))⟩
theorem f59_s {I : IM} {j : Nat} {x : Int32} : up2 I 59 j x 59 j = x := by rw [up2_s, up1_s]
theorem f59_n {I : IM} {i j : Nat} {x : Int32} (h : i ≠ j) : up2 I 59 j x 59 i = I 59 i := by rw [up2_s, up1_n _ _ h]
def sp_R_next : SpT := fun as S I L Post => ∃ a z : Nat, as = [.ref 59] ∧ S = S1 ∧ I 59 44 = nI a ∧ a ≤ z ∧ z ≤ 160 ∧ I 59 23 = nI z ∧ (∀ k, k < 96 → I 92 k = wordsL.getD k 0) ∧
  ∀ (I' : IM) (a' : Nat) (t : Tok) (T : List Tok), tokS (I 78) z a = t :: T → FrN [44, 45, 46, 47] I I' → I' 59 44 = nI a' → a' ≤ z → RTok I' t → (¬ t.1 = 0 → T = tokS (I 78) z a') → Post none S1 I' L
set_option maxHeartbeats 4000000 in
set_option maxRecDepth 100000 in
theorem c_R_next : Con mR_next 3 0 0 sp_R_next := by
  refine con_of_X rfl fun G as S I L Post hs => ?_
  obtain ⟨a, z, rfl, rfl, ha, haz, hz, htz, hw, h1⟩ := hs
  refine ⟨2, Nat.le_of_ble_eq_true rfl, ?_⟩
  show X mR_next G _ S1 I L 0 [.ref 59, .null, .null] [] Post
  have tape : ∀ {I' : IM}, FrN [44, 45, 46, 47] I I' → I' 78 = I 78 := fun h => h.1 78 (by decide)
  have size : ∀ {I' : IM}, FrN [44, 45, 46, 47] I I' → I' 59 23 = nI z := fun h => (h.2 23 (by decide)).trans htz
  have words : ∀ {I' : IM}, FrN [44, 45, 46, 47] I I' → ∀ k, k < 96 → I' 92 k = wordsL.getD k 0 := fun h k hk => by rw [h.1 92 (by decide)]; exact hw k hk
  -- letters
  have letters : ∀ (k i : Nat) (I' : IM) (a1 a2 : Value), z - i ≤ k → i ≤ z → FrN [44, 45, 46, 47] I I' → I' 59 44 = nI i →
      (∀ I2 : IM, FrN [44, 45, 46, 47] I I2 → I2 59 44 = nI (letE (I 78) z (z - i) i) → I2 59 45 = I' 59 45 → X mR_next G (3, 0, 0) S1 I2 L 146 [.ref 59, a1, a2] [] Post) →
      X mR_next G (3, 0, 0) S1 I' L 103 [.ref 59, a1, a2] [] Post := by
    intro k
    induction k with
    | zero =>
      intro i I' a1 a2 hk hi hF hat hend
      obtain rfl : i = z := by omega
      refine x_aload_n dR_next_103 rfl ?_
      refine x_getI fl_R_171 rfl dR_next_104 rfl rfl ?_
      refine x_aload_n dR_next_107 rfl ?_
      refine x_getI fl_R_137 rfl dR_next_108 rfl rfl ?_
      -- at 111: .if_icmp .ge 35
      rw [hat, size hF]
      refine x_icmp_ge (tgt := 146) dR_next_111 (by decide) (fun _ => ?_) (fun h => absurd (Int32.le_refl _) h)
      refine hend I' hF ?_ rfl
      rw [hat, Nat.sub_self]
      rfl
    | succ k ih =>
      intro i I' a1 a2 hk hi hF hat hend
      by_cases c0 : i = z
      · subst c0
        refine x_aload_n dR_next_103 rfl ?_
        refine x_getI fl_R_171 rfl dR_next_104 rfl rfl ?_
        refine x_aload_n dR_next_107 rfl ?_
        refine x_getI fl_R_137 rfl dR_next_108 rfl rfl ?_
        -- at 111: .if_icmp .ge 35
        rw [hat, size hF]
        refine x_icmp_ge (tgt := 146) dR_next_111 (by decide) (fun _ => ?_) (fun h => absurd (Int32.le_refl _) h)
        refine hend I' hF ?_ rfl
        rw [hat, Nat.sub_self]
        rfl
      obtain ⟨m, hm⟩ : ∃ m, z - i = m + 1 := ⟨z - i - 1, by omega⟩
      refine x_aload_n dR_next_103 rfl ?_
      refine x_getI fl_R_171 rfl dR_next_104 rfl rfl ?_
      refine x_aload_n dR_next_107 rfl ?_
      refine x_getI fl_R_137 rfl dR_next_108 rfl rfl ?_
      -- at 111: .if_icmp .ge 35
      rw [hat, size hF]
      refine x_icmp_ge (tgt := 146) dR_next_111 (by decide) (fun h => absurd h (nI_ge (by omega) (by omega))) (fun _ => ?_)
      refine x_aload_n dR_next_114 rfl ?_
      refine x_getR fl_R_68 rfl dR_next_115 rfl rfl rfl ?_
      refine x_aload_n dR_next_118 rfl ?_
      refine x_getI fl_R_171 rfl dR_next_119 rfl rfl ?_
      -- at 122: .iaload
      rw [hat]
      refine x_ialdJ (j := i) dR_next_122 rfl rfl (by first | rfl | (simp only [← nI_add, ← pk_mul]; rfl)) (by omega) ?_
      refine x_bipush (v := 97) dR_next_123 rfl ?_
      refine x_bipush (v := 122) dR_next_125 rfl ?_
      -- at 127: .invokestatic 151
      rw [tape hF]
      refine x_callS_3 c_R_in ok_R_in ml_R_151 dR_next_127 rfl rfl ?_
      refine ⟨_, _, _, rfl, fun c1 => ?_, fun c1 => ?_⟩
      · have c1 : isLet (I 78 i) := c1
        refine x_if_eq (tgt := 146) dR_next_130 (by decide) (fun h => absurd h (by decide)) (fun _ => ?_)
        refine x_aload_n dR_next_133 rfl ?_
        refine x_dup dR_next_134 rfl ?_
        refine x_getI fl_R_171 rfl dR_next_135 rfl rfl ?_
        -- at 138: .iconst 1
        rw [hat]
        refine x_iconst (v := 1) dR_next_138 rfl ?_
        refine x_iadd dR_next_139 ?_
        refine x_putI fl_R_171 rfl dR_next_140 (by decide) rfl rfl rfl rfl ?_
        refine x_goto (tgt := 103) dR_next_143 (by decide) ?_
        -- at 103: .aload_n 0
        rw [nI_1]
        refine ih (i + 1) _ a1 a2 (by omega) (by omega) (hF.up (by decide) _) f59_s (fun I2 hF2 h2 h3 => ?_)
        refine hend I2 hF2 ?_ (h3.trans (f59_n (by decide)))
        rw [h2, hm, letE, if_pos ⟨by omega, c1⟩, show z - (i + 1) = m by omega]
      · have c1 : ¬ isLet (I 78 i) := c1
        refine x_if_eq (tgt := 146) dR_next_130 (by decide) (fun _ => ?_) (fun h => absurd (by decide) h)
        refine hend I' hF ?_ rfl
        rw [hat, hm, letE, if_neg (fun y => c1 y.2)]
  sorry
