/-! the reference: which word, which token -/
def Wd (i : Nat) : List Int32 := match i with
  | 0 => [104, 101, 97, 114, 100] | 1 => [115, 104, 97, 114, 101] | 2 => [112, 97, 105, 110] | 3 => [108, 111, 117, 100] | 4 => [102, 97, 114] | 5 => [101, 97, 114]
  | 6 => [110, 101, 101, 100] | 7 => [109, 97, 110, 121] | 8 => [98, 97, 115, 101] | 9 => [111, 114] | 10 => [97, 110, 100] | _ => [110, 111, 116]
def kdW (i : Nat) : Int32 × Int32 := match i with
  | 0 => (4, 0) | 1 => (5, 0) | 2 => (6, 0) | 3 => (3, 0) | 4 => (3, 1) | 5 => (3, 2) | 6 => (3, 3) | 7 => (3, 4) | 8 => (3, 5) | 9 => (7, 0) | 10 => (8, 0) | 11 => (9, 0) | _ => (1, 0)
theorem Wd_words : ∀ i, i < 12 → ∀ j, j < 8 → wordsL.getD (8 * i + j) 0 = (Wd i).getD j 32 := by decide +kernel
theorem Wd_let : ∀ i, i < 12 → (Wd i).length ≤ 8 ∧ ∀ j, j < (Wd i).length → ¬ (Wd i).getD j 32 = 32 := by decide +kernel
theorem kindW_i : ∀ i, i < 12 → kindW (Wd i) = kdW i := by decide +kernel
theorem kindW_no {w : List Int32} (h : ∀ i, i < 12 → ¬ w = Wd i) : kindW w = (1, 0) := by
  unfold kindW
  rw [if_neg (show ¬ w = [108, 111, 117, 100] from h 3 (by omega)), if_neg (show ¬ w = [102, 97, 114] from h 4 (by omega)), if_neg (show ¬ w = [101, 97, 114] from h 5 (by omega)), if_neg (show ¬ w = [110, 101, 101, 100] from h 6 (by omega)), if_neg (show ¬ w = [109, 97, 110, 121] from h 7 (by omega)), if_neg (show ¬ w = [98, 97, 115, 101] from h 8 (by omega)), if_neg (show ¬ w = [104, 101, 97, 114, 100] from h 0 (by omega)), if_neg (show ¬ w = [115, 104, 97, 114, 101] from h 1 (by omega)), if_neg (show ¬ w = [112, 97, 105, 110] from h 2 (by omega)), if_neg (show ¬ w = [111, 114] from h 9 (by omega)), if_neg (show ¬ w = [97, 110, 100] from h 10 (by omega)), if_neg (show ¬ w = [110, 111, 116] from h 11 (by omega))]
theorem pad_eq {w W : List Int32} (hw : w.length ≤ 8) (hW : W.length ≤ 8) (h1 : ∀ j, j < w.length → ¬ w.getD j 32 = 32) (h2 : ∀ j, j < W.length → ¬ W.getD j 32 = 32) (h : ∀ j, j < 8 → W.getD j 32 = w.getD j 32) : w = W := by
  have out : ∀ (l : List Int32) (j : Nat), l.length ≤ j → l.getD j 32 = 32 := fun l j hj => by
    rw [List.getD_eq_getElem?_getD, List.getElem?_eq_none hj]
    rfl
  have hl : w.length = W.length := by
    refine Classical.byContradiction fun hne => ?_
    by_cases c : w.length < W.length
    · exact h2 w.length c (by rw [h _ (by omega)]; exact out w _ (Nat.le_refl _))
    · exact h1 W.length (by omega) (by rw [← h _ (by omega)]; exact out W _ (Nat.le_refl _))
  refine List.ext_getElem hl fun j j1 j2 => ?_
  have := h j (by omega)
  rw [List.getD_eq_getElem?_getD, List.getD_eq_getElem?_getD, List.getElem?_eq_getElem j1, List.getElem?_eq_getElem j2] at this
  exact this.symm
/-- a byte of a word, with blanks behind it -/
def padW (f : Nat → Int32) (b e j : Nat) : Int32 := if b + j < e then f (b + j) else 32
theorem padW_at (f : Nat → Int32) (b e j : Nat) : padW f b e j = (wordAt f b e).getD j 32 := by
  unfold padW wordAt
  by_cases h : b + j < e
  · rw [if_pos h, List.getD_eq_getElem?_getD, List.getElem?_map, List.getElem?_range (by omega)]
    rfl
  · rw [if_neg h, List.getD_eq_getElem?_getD, List.getElem?_eq_none (by simp; omega)]
    rfl
def matW (f : Nat → Int32) (b e i : Nat) : Prop := e - b ≤ 8 ∧ ∀ j, j < 8 → wordsL.getD (8 * i + j) 0 = padW f b e j
theorem matW_iff {f : Nat → Int32} {b e i : Nat} (hi : i < 12) (hl : ∀ j, b ≤ j → j < e → isLet (f j)) : matW f b e i ↔ wordAt f b e = Wd i := by
  obtain ⟨w1, w2⟩ := Wd_let i hi
  have hlen : (wordAt f b e).length = e - b := by simp [wordAt]
  constructor
  · rintro ⟨h1, h2⟩
    refine pad_eq (by omega) w1 (fun j hj => ?_) w2 (fun j hj => ?_)
    · rw [← padW_at]
      unfold padW
      rw [if_pos (by omega)]
      intro z
      have := hl (b + j) (by omega) (by omega)
      rw [z] at this
      exact absurd this (by decide)
    · rw [← Wd_words i hi j hj, h2 j hj, padW_at]
  · intro h
    refine ⟨by rw [← hlen, h]; exact w1, fun j hj => ?_⟩
    rw [Wd_words i hi j hj, padW_at, h]
def sp_R_wordFrom : SpT := fun as S I L Post => ∃ b e : Nat, as = [.ref 59, .int (nI b), .int (nI e)] ∧ S = S1 ∧ b ≤ e ∧ e ≤ 160 ∧ (∀ k, k < 96 → I 92 k = wordsL.getD k 0) ∧ ∀ i, i ≤ 12 → (i < 12 → matW (I 78) b e i) → (i = 12 → ∀ k, k < 12 → ¬ matW (I 78) b e k) → Post (some (.int (nI i))) S1 I L
set_option maxHeartbeats 4000000 in
set_option maxRecDepth 100000 in
theorem c_R_wordFrom : Con mR_wordFrom 2 0 0 sp_R_wordFrom := by
  refine con_of_X rfl fun G as S I L Post hs => ?_
  obtain ⟨b, e, rfl, rfl, hbe, he, hw, h1⟩ := hs
  refine ⟨3, Nat.le_of_ble_eq_true rfl, ?_⟩
  show X mR_wordFrom G _ S1 I L 0 [.ref 59, .int (nI b), .int (nI e), .null, .null, .null] [] Post
  have inner : ∀ (i : Nat) (ok : Bool) (k j : Nat), i < 12 → j + k = 8 → (ok = true → e - b ≤ 8 ∧ ∀ x, x < j → wordsL.getD (8 * i + x) 0 = padW (I 78) b e x) → (ok = false → ¬ matW (I 78) b e i) →
      ((matW (I 78) b e i → ∀ a5 : Int32, X mR_wordFrom G (2, 0, 0) S1 I L 88 [.ref 59, .int (nI b), .int (nI e), .int (nI i), .int 1, .int a5] [] Post) ∧ (¬ matW (I 78) b e i → ∀ a5 : Int32, X mR_wordFrom G (2, 0, 0) S1 I L 88 [.ref 59, .int (nI b), .int (nI e), .int (nI i), .int 0, .int a5] [] Post)) →
      X mR_wordFrom G (2, 0, 0) S1 I L 26 [.ref 59, .int (nI b), .int (nI e), .int (nI i), .int (if ok then 1 else 0), .int (nI j)] [] Post := by
    intro i ok k
    induction k generalizing ok with
    | zero =>
      intro j hi hj h2 h3 h4
      obtain rfl : j = 8 := by omega
      refine x_iload dR_wordFrom_26 rfl ?_
      refine x_bipush (v := 8) dR_wordFrom_28 rfl ?_
      -- at 30: .if_icmp .ge 58
      refine x_icmp_ge (tgt := 88) dR_wordFrom_30 (by decide) (fun _ => ?_) (fun h => absurd (by decide) h)
      cases ok with
      | true => exact h4.1 (h2 rfl) _
      | false => exact h4.2 (h3 rfl) _
    | succ k ih =>
      intro j hi hj h2 h3 h4
      refine x_iload dR_wordFrom_26 rfl ?_
      refine x_bipush (v := 8) dR_wordFrom_28 rfl ?_
      -- at 30: .if_icmp .ge 58
      refine x_icmp_ge (tgt := 88) dR_wordFrom_30 (by decide) (fun h => absurd h (nI_ge (b := 8) (by omega) (by omega))) (fun _ => ?_)
      refine x_iload dR_wordFrom_33 rfl ?_
      -- at 35: .ifCond .eq 53
      cases ok with
      | false =>
        refine x_if_eq (tgt := 88) dR_wordFrom_35 (by decide) (fun _ => ?_) (fun h => absurd rfl h)
        exact h4.2 (h3 rfl) _
      | true =>
        obtain ⟨g1, g2⟩ := h2 rfl
        refine x_if_eq (tgt := 88) dR_wordFrom_35 (by decide) (fun h => absurd h (by decide)) (fun _ => ?_)
        have e8 : (8 : Int32) * nI i + nI j = nI (8 * i + j) := by
          rw [show (8 : Int32) = nI 8 from rfl, pk_mul, nI_add]
        refine x_aload_n dR_wordFrom_38 rfl ?_
        refine x_getR fl_R_110 rfl dR_wordFrom_39 rfl rfl rfl ?_
        refine x_bipush (v := 8) dR_wordFrom_42 rfl ?_
        refine x_iload_n dR_wordFrom_44 rfl ?_
        refine x_imul dR_wordFrom_45 ?_
        refine x_iload dR_wordFrom_46 rfl ?_
        refine x_iadd dR_wordFrom_48 ?_
        refine x_ialdJ dR_wordFrom_49 rfl rfl e8 (by omega) ?_
        refine x_iload_n dR_wordFrom_50 rfl ?_
        refine x_iload dR_wordFrom_51 rfl ?_
        refine x_iadd dR_wordFrom_53 ?_
        -- at 54: .iload_n 2
        rw [hw _ (by omega)]
        have tail : ∀ x : Int32, x = padW (I 78) b e j → X mR_wordFrom G (2, 0, 0) S1 I L 72 [.ref 59, .int (nI b), .int (nI e), .int (nI i), .int 1, .int (nI j)] [.int x, .int (wordsL.getD (8 * i + j) 0)] Post := by
          intro x hx
          refine x_icmp_ne (tgt := 79) dR_wordFrom_72 (by decide) (fun c2 => ?_) (fun c2 => ?_)
          · refine x_iconst (v := 0) dR_wordFrom_79 rfl ?_
            refine x_istore_4 dR_wordFrom_80 rfl rfl ?_
            refine x_iincp_5 dR_wordFrom_82 rfl rfl ?_
            refine x_goto (tgt := 26) dR_wordFrom_85 (by decide) ?_
            -- at 26: .iload 5
            rw [nI_1]
            exact ih false (j + 1) hi (by omega) (fun z => absurd z (by decide)) (fun _ z => c2 ((z.2 j (by omega)).trans hx.symm)) h4
          · refine x_iconst (v := 1) dR_wordFrom_75 rfl ?_
            refine x_goto (tgt := 80) dR_wordFrom_76 (by decide) ?_
            refine x_istore_4 dR_wordFrom_80 rfl rfl ?_
            refine x_iincp_5 dR_wordFrom_82 rfl rfl ?_
            refine x_goto (tgt := 26) dR_wordFrom_85 (by decide) ?_
            -- at 26: .iload 5
            rw [nI_1]
            refine ih true (j + 1) hi (by omega) (fun _ => ⟨g1, fun x2 hx2 => ?_⟩) (fun z => absurd z (by decide)) h4
            by_cases e2 : x2 = j
            · rw [e2]; exact c2.trans hx
            · exact g2 x2 (by omega)
        refine x_eqi (y := nI (b + j)) (nI_add b j) ?_
        refine x_iload_n dR_wordFrom_54 rfl ?_
        -- at 55: .if_icmp .ge 15
        by_cases c1 : b + j < e
        · refine x_icmp_ge (tgt := 70) dR_wordFrom_55 (by decide) (fun h => absurd h (nI_ge c1 (by omega))) (fun _ => ?_)
          refine x_aload_n dR_wordFrom_58 rfl ?_
          refine x_getR fl_R_68 rfl dR_wordFrom_59 rfl rfl rfl ?_
          refine x_iload_n dR_wordFrom_62 rfl ?_
          refine x_iload dR_wordFrom_63 rfl ?_
          refine x_iadd dR_wordFrom_65 ?_
          refine x_ialdJ dR_wordFrom_66 rfl rfl (nI_add b j) (by omega) ?_
          refine x_goto (tgt := 72) dR_wordFrom_67 (by decide) ?_
          -- at 72: .if_icmp .ne 7
          exact tail _ (by unfold padW; rw [if_pos c1])
        · refine x_icmp_ge (tgt := 70) dR_wordFrom_55 (by decide) (fun _ => ?_) (fun h => absurd (nI_le (by omega) (by omega)) h)
          refine x_bipush (v := 32) dR_wordFrom_70 rfl ?_
          -- at 72: .if_icmp .ne 7
          exact tail _ (by unfold padW; rw [if_neg c1])
  have loop : ∀ (k i : Nat) (a4 a5 : Value), i + k = 12 → cat1at [a4] 1 = true → cat1at [a5] 1 = true → (∀ x, x < i → ¬ matW (I 78) b e x) → X mR_wordFrom G (2, 0, 0) S1 I L 2 [.ref 59, .int (nI b), .int (nI e), .int (nI i), a4, a5] [] Post := by
    intro k
    induction k with
    | zero =>
      intro i a4 a5 hi q4 q5 hno
      obtain rfl : i = 12 := by omega
      refine x_iload_n dR_wordFrom_2 rfl ?_
      refine x_bipush (v := 12) dR_wordFrom_3 rfl ?_
      -- at 5: .if_icmp .ge 96
      refine x_icmp_ge (tgt := 101) dR_wordFrom_5 (by decide) (fun _ => ?_) (fun h => absurd (by decide) h)
      refine x_bipush (v := 12) dR_wordFrom_101 rfl ?_
      -- at 103: .ireturn
      refine x_ireturn dR_wordFrom_103 rfl rfl ?_
      exact h1 12 (Nat.le_refl _) (fun z => absurd z (by omega)) (fun _ => hno)
    | succ k ih =>
      intro i a4 a5 hi q4 q5 hno
      have out : ((matW (I 78) b e i → ∀ a5 : Int32, X mR_wordFrom G (2, 0, 0) S1 I L 88 [.ref 59, .int (nI b), .int (nI e), .int (nI i), .int 1, .int a5] [] Post) ∧ (¬ matW (I 78) b e i → ∀ a5 : Int32, X mR_wordFrom G (2, 0, 0) S1 I L 88 [.ref 59, .int (nI b), .int (nI e), .int (nI i), .int 0, .int a5] [] Post)) := by
        constructor
        · intro hm a5
          refine x_iload dR_wordFrom_88 rfl ?_
          -- at 90: .ifCond .eq 5
          refine x_if_eq (tgt := 95) dR_wordFrom_90 (by decide) (fun h => absurd h (by decide)) (fun _ => ?_)
          refine x_iload_n dR_wordFrom_93 rfl ?_
          -- at 94: .ireturn
          refine x_ireturn dR_wordFrom_94 rfl rfl ?_
          exact h1 i (by omega) (fun _ => hm) (fun z => absurd z (by omega))
        · intro hm a5
          refine x_iload dR_wordFrom_88 rfl ?_
          -- at 90: .ifCond .eq 5
          refine x_if_eq (tgt := 95) dR_wordFrom_90 (by decide) (fun _ => ?_) (fun h => absurd rfl h)
          refine x_iincp_3 dR_wordFrom_95 rfl rfl ?_
          refine x_goto (tgt := 2) dR_wordFrom_98 (by decide) ?_
          -- at 2: .iload_n 3
          rw [nI_1]
          refine ih (i + 1) _ _ (by omega) rfl rfl (fun x hx => ?_)
          by_cases e2 : x = i
          · rw [e2]; exact hm
          · exact hno x (by omega)
      refine x_iload_n dR_wordFrom_2 rfl ?_
      refine x_bipush (v := 12) dR_wordFrom_3 rfl ?_
      -- at 5: .if_icmp .ge 96
      refine x_icmp_ge (tgt := 101) dR_wordFrom_5 (by decide) (fun h => absurd h (nI_ge (b := 12) (by omega) (by omega))) (fun _ => ?_)
      refine x_iload_n dR_wordFrom_8 rfl ?_
      refine x_iload_n dR_wordFrom_9 rfl ?_
      refine x_isub dR_wordFrom_10 ?_
      -- at 11: .bipush 8
      refine x_eqi (y := nI (e - b)) (pk_sub hbe) ?_
      refine x_bipush (v := 8) dR_wordFrom_11 rfl ?_
      -- at 13: .if_icmp .gt 7
      by_cases c1 : e - b ≤ 8
      · refine x_icmp_gt (tgt := 20) dR_wordFrom_13 (by decide) (fun h => absurd h (Int32.not_lt.mpr (nI_le (b := 8) c1 (by omega)))) (fun _ => ?_)
        refine x_iconst (v := 1) dR_wordFrom_16 rfl ?_
        refine x_goto (tgt := 21) dR_wordFrom_17 (by decide) ?_
        refine x_istore_4 dR_wordFrom_21 rfl rfl ?_
        refine x_iconst (v := 0) dR_wordFrom_23 rfl ?_
        refine x_istore_5 dR_wordFrom_24 rfl rfl ?_
        -- at 26: .iload 5
        exact inner i true 8 0 (by omega) rfl (fun _ => ⟨c1, fun x hx => absurd hx (Nat.not_lt_zero x)⟩) (fun z => absurd z (by decide)) out
      · refine x_icmp_gt (tgt := 20) dR_wordFrom_13 (by decide) (fun _ => ?_) (fun h => absurd ((nI_ltI (a := 8) (by omega) (by omega)).mpr (by omega)) h)
        refine x_iconst (v := 0) dR_wordFrom_20 rfl ?_
        refine x_istore_4 dR_wordFrom_21 rfl rfl ?_
        refine x_iconst (v := 0) dR_wordFrom_23 rfl ?_
        refine x_istore_5 dR_wordFrom_24 rfl rfl ?_
        -- at 26: .iload 5
        exact inner i false 8 0 (by omega) rfl (fun z => absurd z (by decide)) (fun _ z => c1 z.1) out
  refine x_iconst (v := 0) dR_wordFrom_0 rfl ?_
  refine x_istoren_3 dR_wordFrom_1 rfl rfl ?_
  -- at 2: .iload_n 3
  exact loop 12 0 _ _ rfl rfl rfl (fun x hx => absurd hx (Nat.not_lt_zero x))

/-- the reference's name of a token -/
def rtok (s : Int32) : Int32 := if s = 2 then 1 else if s = 3 then 2 else if s = 4 ∨ s = 5 ∨ s = 6 then 3 else if s = 7 then 4 else if s = 8 then 5 else if s = 9 then 6 else if s = 1 then -1 else s
def RTok (I : IM) (t : Tok) : Prop := I 59 46 = rtok t.1 ∧ (t.1 = 2 ∨ t.1 = 3 → I 59 47 = t.2.2) ∧ (t.1 = 4 → I 59 47 = 0) ∧ (t.1 = 5 → I 59 47 = 1) ∧ (t.1 = 6 → I 59 47 = 2) ∧ I 59 45 = nI t.2.1
/-- only these fields of the reference may differ -/
def FrN (js : List Nat) (I I' : IM) : Prop := (∀ k, k ≠ 59 → I' k = I k) ∧ ∀ j, j ∉ js → I' 59 j = I 59 j
theorem FrN.rfl {js : List Nat} {I : IM} : FrN js I I := ⟨fun _ _ => Eq.refl _, fun _ _ => Eq.refl _⟩
theorem FrN.up {js : List Nat} {I I' : IM} (h : FrN js I I') {j : Nat} (hj : j ∈ js) (x : Int32) : FrN js I (up2 I' 59 j x) := by
  refine ⟨fun k hk => by rw [up2_n _ _ _ hk]; exact h.1 k hk, fun i hi => ?_⟩
  rw [up2_s, up1_n]
  · exact h.2 i hi
  · rintro rfl
    exact hi hj
theorem FrN.tr {js : List Nat} {I I' I'' : IM} (h : FrN js I I') (h2 : FrN js I' I'') : FrN js I I'' := ⟨fun k hk => (h2.1 k hk).trans (h.1 k hk), fun j hj => (h2.2 j hj).trans (h.2 j hj)⟩
theorem FrN.wk {js ks : List Nat} {I I' : IM} (h : FrN js I I') (hs : ∀ k ∈ js, k ∈ ks) : FrN ks I I' := ⟨h.1, fun j hj => h.2 j (fun q => hj (hs j q))⟩
theorem f59_s {I : IM} {j : Nat} {x : Int32} : up2 I 59 j x 59 j = x := by rw [up2_s, up1_s]
theorem f59_n {I : IM} {i j : Nat} {x : Int32} (h : i ≠ j) : up2 I 59 j x 59 i = I 59 i := by rw [up2_s, up1_n _ _ h]
theorem RTok_of {I : IM} {s v : Int32} {b : Nat} (h1 : I 59 46 = rtok s) (h2 : s = 2 ∨ s = 3 → I 59 47 = v) (h3 : s = 4 → I 59 47 = 0) (h4 : s = 5 → I 59 47 = 1) (h5 : s = 6 → I 59 47 = 2) (h6 : I 59 45 = nI b) : RTok I (s, b, v) := ⟨h1, h2, h3, h4, h5, h6⟩
theorem RTok_w {I : IM} {k b : Nat} {tok val : Int32} (hk : k ≤ 12) (h1 : I 59 46 = tok) (h2 : I 59 47 = val) (h3 : I 59 45 = nI b) (ht : tok = if k < 3 then 3 else if k < 9 then 2 else if k = 12 then -1 else 4 + nI k - 9) (hv : val = if k < 3 then nI k else nI k - 3) : RTok I ((kdW k).1, b, (kdW k).2) := by
  rcases (show k = 0 ∨ k = 1 ∨ k = 2 ∨ k = 3 ∨ k = 4 ∨ k = 5 ∨ k = 6 ∨ k = 7 ∨ k = 8 ∨ k = 9 ∨ k = 10 ∨ k = 11 ∨ k = 12 by omega) with rfl | rfl | rfl | rfl | rfl | rfl | rfl | rfl | rfl | rfl | rfl | rfl | rfl <;>
    exact RTok_of (by rw [h1, ht]; decide) (by rw [h2, hv]; decide) (by rw [h2, hv]; decide) (by rw [h2, hv]; decide) (by rw [h2, hv]; decide) h3
theorem RTok_n {I : IM} {s : Int32} {b : Nat} (h1 : I 59 46 = rtok s) (h2 : s = 0 ∨ s = 1 ∨ isSig s) (h3 : I 59 45 = nI b) : RTok I (s, b, 0) := by
  have no : ∀ x : Int32, x = 2 ∨ x = 3 ∨ x = 4 ∨ x = 5 ∨ x = 6 → ¬ s = x := by
    rintro x hx rfl
    rcases hx with rfl | rfl | rfl | rfl | rfl <;> exact absurd h2 (by decide)
  exact RTok_of h1 (fun z => z.elim (fun y => absurd y (no 2 (by decide))) (fun y => absurd y (no 3 (by decide)))) (fun y => absurd y (no 4 (by decide))) (fun y => absurd y (no 5 (by decide))) (fun y => absurd y (no 6 (by decide))) h3
theorem rtok_sig {s : Int32} (h : isSig s) : rtok s = s := by
  rcases h with rfl | rfl | rfl | rfl | rfl | rfl | rfl | rfl <;> decide
def sp_R_next : SpT := fun as S I L Post => ∃ a z : Nat, as = [.ref 59] ∧ S = S1 ∧ I 59 44 = nI a ∧ a ≤ z ∧ z ≤ 160 ∧ I 59 23 = nI z ∧ (∀ k, k < 96 → I 92 k = wordsL.getD k 0) ∧
  ∀ (I' : IM) (a' : Nat) (t : Tok) (T : List Tok), tokS (I 78) z a = t :: T → FrN [44, 45, 46, 47] I I' → I' 59 44 = nI a' → a' ≤ z → RTok I' t → (¬ t.1 = 0 → T = tokS (I 78) z a') → Post none S1 I' L
set_option maxHeartbeats 4000000 in
set_option maxRecDepth 100000 in
theorem c_R_next : Con mR_next 3 0 0 sp_R_next := by
  refine con_of_X rfl fun G as S I L Post hs => ?_
  obtain ⟨a, z, rfl, rfl, ha, haz, hz, htz, hw, h1⟩ := hs
  refine ⟨2, Nat.le_of_ble_eq_true rfl, ?_⟩
  show X mR_next G _ S1 I L 0 [.ref 59, .null, .null] [] Post
  have tape : ∀ {I' : IM}, FrN [44, 45, 46, 47] I I' → I' 78 = I 78 := fun h => h.1 78 (by decide)
  have size : ∀ {I' : IM}, FrN [44, 45, 46, 47] I I' → I' 59 23 = nI z := fun h => (h.2 23 (by decide)).trans htz
  have words : ∀ {I' : IM}, FrN [44, 45, 46, 47] I I' → ∀ k, k < 96 → I' 92 k = wordsL.getD k 0 := fun h k hk => by rw [h.1 92 (by decide)]; exact hw k hk
  -- letters
  have letters : ∀ (k i : Nat) (I' : IM) (a1 a2 : Value), z - i ≤ k → i ≤ z → FrN [44, 45, 46, 47] I I' → I' 59 44 = nI i →
      (∀ I2 : IM, FrN [44, 45, 46, 47] I I2 → I2 59 44 = nI (letE (I 78) z (z - i) i) → I2 59 45 = I' 59 45 → X mR_next G (3, 0, 0) S1 I2 L 146 [.ref 59, a1, a2] [] Post) →
      X mR_next G (3, 0, 0) S1 I' L 103 [.ref 59, a1, a2] [] Post := by
    intro k
    induction k with
    | zero =>
      intro i I' a1 a2 hk hi hF hat hend
      obtain rfl : i = z := by omega
      refine x_aload_n dR_next_103 rfl ?_
      refine x_getI fl_R_171 rfl dR_next_104 rfl rfl ?_
      refine x_aload_n dR_next_107 rfl ?_
      refine x_getI fl_R_137 rfl dR_next_108 rfl rfl ?_
      -- at 111: .if_icmp .ge 35
      rw [hat, size hF]
      refine x_icmp_ge (tgt := 146) dR_next_111 (by decide) (fun _ => ?_) (fun h => absurd (Int32.le_refl _) h)
      refine hend I' hF ?_ rfl
      rw [hat, Nat.sub_self]
      rfl
    | succ k ih =>
      intro i I' a1 a2 hk hi hF hat hend
      by_cases c0 : i = z
      · subst c0
        refine x_aload_n dR_next_103 rfl ?_
        refine x_getI fl_R_171 rfl dR_next_104 rfl rfl ?_
        refine x_aload_n dR_next_107 rfl ?_
        refine x_getI fl_R_137 rfl dR_next_108 rfl rfl ?_
        -- at 111: .if_icmp .ge 35
        rw [hat, size hF]
        refine x_icmp_ge (tgt := 146) dR_next_111 (by decide) (fun _ => ?_) (fun h => absurd (Int32.le_refl _) h)
        refine hend I' hF ?_ rfl
        rw [hat, Nat.sub_self]
        rfl
      obtain ⟨m, hm⟩ : ∃ m, z - i = m + 1 := ⟨z - i - 1, by omega⟩
      refine x_aload_n dR_next_103 rfl ?_
      refine x_getI fl_R_171 rfl dR_next_104 rfl rfl ?_
      refine x_aload_n dR_next_107 rfl ?_
      refine x_getI fl_R_137 rfl dR_next_108 rfl rfl ?_
      -- at 111: .if_icmp .ge 35
      rw [hat, size hF]
      refine x_icmp_ge (tgt := 146) dR_next_111 (by decide) (fun h => absurd h (nI_ge (by omega) (by omega))) (fun _ => ?_)
      refine x_aload_n dR_next_114 rfl ?_
      refine x_getR fl_R_68 rfl dR_next_115 rfl rfl rfl ?_
      refine x_aload_n dR_next_118 rfl ?_
      refine x_getI fl_R_171 rfl dR_next_119 rfl rfl ?_
      -- at 122: .iaload
      rw [hat]
      refine x_ialdJ (j := i) dR_next_122 rfl rfl (by first | rfl | (simp only [← nI_add, ← pk_mul]; rfl)) (by omega) ?_
      refine x_bipush (v := 97) dR_next_123 rfl ?_
      refine x_bipush (v := 122) dR_next_125 rfl ?_
      -- at 127: .invokestatic 151
      rw [tape hF]
      refine x_callS_3 c_R_in ok_R_in ml_R_151 dR_next_127 rfl rfl ?_
      refine ⟨_, _, _, rfl, fun c1 => ?_, fun c1 => ?_⟩
      · have c1 : isLet (I 78 i) := c1
        refine x_if_eq (tgt := 146) dR_next_130 (by decide) (fun h => absurd h (by decide)) (fun _ => ?_)
        refine x_aload_n dR_next_133 rfl ?_
        refine x_dup dR_next_134 rfl ?_
        refine x_getI fl_R_171 rfl dR_next_135 rfl rfl ?_
        -- at 138: .iconst 1
        rw [hat]
        refine x_iconst (v := 1) dR_next_138 rfl ?_
        refine x_iadd dR_next_139 ?_
        refine x_putI fl_R_171 rfl dR_next_140 (by decide) rfl rfl rfl rfl ?_
        refine x_goto (tgt := 103) dR_next_143 (by decide) ?_
        -- at 103: .aload_n 0
        rw [nI_1]
        refine ih (i + 1) _ a1 a2 (by omega) (by omega) (hF.up (by decide) _) f59_s (fun I2 hF2 h2 h3 => ?_)
        refine hend I2 hF2 ?_ (h3.trans (f59_n (by decide)))
        rw [h2, hm, letE, if_pos ⟨by omega, c1⟩, show z - (i + 1) = m by omega]
      · have c1 : ¬ isLet (I 78 i) := c1
        refine x_if_eq (tgt := 146) dR_next_130 (by decide) (fun _ => ?_) (fun h => absurd (by decide) h)
        refine hend I' hF ?_ rfl
        rw [hat, hm, letE, if_neg (fun y => c1 y.2)]
  -- digits
  have digits : ∀ (b : Nat) (k i : Nat) (I' : IM) (a1 : Int32), z - i ≤ k → b ≤ i → i ≤ z → FrN [44, 45, 46, 47] I I' → I' 59 44 = nI i → (i - b ≤ 4 → I' 59 47 = numV (I 78) (i - b) b) →
      (∀ (I2 : IM) (e : Nat), FrN [44, 45, 46, 47] I I2 → e = digE (I 78) z (z - i) i → I2 59 44 = nI e → I2 59 45 = I' 59 45 → (e - b ≤ 4 → I2 59 47 = numV (I 78) (e - b) b) → X mR_next G (3, 0, 0) S1 I2 L 309 [.ref 59, .int a1, .int (nI (e - b))] [] Post) →
      X mR_next G (3, 0, 0) S1 I' L 230 [.ref 59, .int a1, .int (nI (i - b))] [] Post := by
    intro b k
    induction k with
    | zero =>
      intro i I' a1 hk hb hi hF hat hv hend
      obtain rfl : i = z := by omega
      refine x_aload_n dR_next_230 rfl ?_
      refine x_getI fl_R_171 rfl dR_next_231 rfl rfl ?_
      refine x_aload_n dR_next_234 rfl ?_
      refine x_getI fl_R_137 rfl dR_next_235 rfl rfl ?_
      -- at 238: .if_icmp .ge 71
      rw [hat, size hF]
      refine x_icmp_ge (tgt := 309) dR_next_238 (by decide) (fun _ => ?_) (fun h => absurd (Int32.le_refl _) h)
      exact hend I' i hF (by rw [Nat.sub_self]; rfl) hat rfl hv
    | succ k ih =>
      intro i I' a1 hk hb hi hF hat hv hend
      by_cases c0 : i = z
      · subst c0
        refine x_aload_n dR_next_230 rfl ?_
        refine x_getI fl_R_171 rfl dR_next_231 rfl rfl ?_
        refine x_aload_n dR_next_234 rfl ?_
        refine x_getI fl_R_137 rfl dR_next_235 rfl rfl ?_
        -- at 238: .if_icmp .ge 71
        rw [hat, size hF]
        refine x_icmp_ge (tgt := 309) dR_next_238 (by decide) (fun _ => ?_) (fun h => absurd (Int32.le_refl _) h)
        exact hend I' i hF (by rw [Nat.sub_self]; rfl) hat rfl hv
      obtain ⟨m, hm⟩ : ∃ m, z - i = m + 1 := ⟨z - i - 1, by omega⟩
      refine x_aload_n dR_next_230 rfl ?_
      refine x_getI fl_R_171 rfl dR_next_231 rfl rfl ?_
      refine x_aload_n dR_next_234 rfl ?_
      refine x_getI fl_R_137 rfl dR_next_235 rfl rfl ?_
      -- at 238: .if_icmp .ge 71
      rw [hat, size hF]
      refine x_icmp_ge (tgt := 309) dR_next_238 (by decide) (fun h => absurd h (nI_ge (by omega) (by omega))) (fun _ => ?_)
      refine x_aload_n dR_next_241 rfl ?_
      refine x_getR fl_R_68 rfl dR_next_242 rfl rfl rfl ?_
      refine x_aload_n dR_next_245 rfl ?_
      refine x_getI fl_R_171 rfl dR_next_246 rfl rfl ?_
      -- at 249: .iaload
      rw [hat]
      refine x_ialdJ (j := i) dR_next_249 rfl rfl (by first | rfl | (simp only [← nI_add, ← pk_mul]; rfl)) (by omega) ?_
      refine x_bipush (v := 48) dR_next_250 rfl ?_
      refine x_bipush (v := 57) dR_next_252 rfl ?_
      -- at 254: .invokestatic 151
      rw [tape hF]
      refine x_callS_3 c_R_in ok_R_in ml_R_151 dR_next_254 rfl rfl ?_
      refine ⟨_, _, _, rfl, fun c1 => ?_, fun c1 => ?_⟩
      · have c1 : isDig (I 78 i) := c1
        have go : ∀ x : Int32, (i - b < 4 → x = numV (I 78) (i - b + 1) b) → X mR_next G (3, 0, 0) S1 I' L 290 [.ref 59, .int a1, .int (nI (i - b))] [.int x, .ref 59] Post := by
          intro x hx
          refine x_putI fl_R_180 rfl dR_next_290 (by decide) rfl rfl rfl rfl ?_
          refine x_iincp_2 dR_next_293 rfl rfl ?_
          refine x_aload_n dR_next_296 rfl ?_
          refine x_dup dR_next_297 rfl ?_
          refine x_getI fl_R_171 rfl dR_next_298 rfl rfl ?_
          -- at 301: .iconst 1
          rw [f59_n (by decide), hat]
          refine x_iconst (v := 1) dR_next_301 rfl ?_
          refine x_iadd dR_next_302 ?_
          refine x_putI fl_R_171 rfl dR_next_303 (by decide) rfl rfl rfl rfl ?_
          refine x_goto (tgt := 230) dR_next_306 (by decide) ?_
          -- at 230: .aload_n 0
          rw [nI_1, nI_1, show i - b + 1 = i + 1 - b by omega]
          refine ih (i + 1) _ a1 (by omega) (by omega) (by omega) ((hF.up (by decide) _).up (by decide) _) f59_s (fun h4 => ?_) (fun I2 e hF2 he h2 h3 h4 => ?_)
          · rw [f59_n (by decide), f59_s, hx (by omega), show i - b + 1 = i + 1 - b by omega]
          · refine hend I2 e hF2 ?_ h2 (h3.trans ((f59_n (by decide)).trans (f59_n (by decide)))) h4
            rw [he, hm, digE, if_pos ⟨by omega, c1⟩, show z - (i + 1) = m by omega]
        refine x_if_eq (tgt := 309) dR_next_257 (by decide) (fun h => absurd h (by decide)) (fun _ => ?_)
        refine x_aload_n dR_next_260 rfl ?_
        refine x_iload_n dR_next_261 rfl ?_
        refine x_iconst (v := 4) dR_next_262 rfl ?_
        -- at 263: .if_icmp .ge 26
        by_cases c2 : i - b < 4
        · refine x_icmp_ge (tgt := 289) dR_next_263 (by decide) (fun h => absurd h (nI_ge (b := 4) c2 (by omega))) (fun _ => ?_)
          refine x_bipush (v := 10) dR_next_266 rfl ?_
          refine x_aload_n dR_next_268 rfl ?_
          refine x_getI fl_R_180 rfl dR_next_269 rfl rfl ?_
          refine x_imul dR_next_272 ?_
          refine x_aload_n dR_next_273 rfl ?_
          refine x_getR fl_R_68 rfl dR_next_274 rfl rfl rfl ?_
          refine x_aload_n dR_next_277 rfl ?_
          refine x_getI fl_R_171 rfl dR_next_278 rfl rfl ?_
          -- at 281: .iaload
          rw [hat]
          refine x_ialdJ (j := i) dR_next_281 rfl rfl (by first | rfl | (simp only [← nI_add, ← pk_mul]; rfl)) (by omega) ?_
          -- at 282: .iadd
          rw [tape hF, hv (by omega)]
          refine x_iadd dR_next_282 ?_
          refine x_bipush (v := 48) dR_next_283 rfl ?_
          refine x_isub dR_next_285 ?_
          refine x_goto (tgt := 290) dR_next_286 (by decide) ?_
          -- at 290: .putfield 180
          refine go _ (fun _ => ?_)
          rw [numV, Int32.mul_comm, show b + (i - b) = i by omega]
        · refine x_icmp_ge (tgt := 289) dR_next_263 (by decide) (fun _ => ?_) (fun h => absurd (nI_le (a := 4) (by omega) (by omega)) h)
          refine x_iconst (v := 0) dR_next_289 rfl ?_
          -- at 290: .putfield 180
          exact go _ (fun y => absurd y c2)
      · have c1 : ¬ isDig (I 78 i) := c1
        refine x_if_eq (tgt := 309) dR_next_257 (by decide) (fun _ => ?_) (fun h => absurd (by decide) h)
        exact hend I' i hF (by rw [hm, digE, if_neg (fun y => c1 y.2)]) hat rfl hv
  -- what begins
  have main : ∀ (i : Nat) (I' : IM), i ≤ z → FrN [44, 45, 46, 47] I I' → I' 59 44 = nI i → tokS (I 78) z i = tokS (I 78) z a → (i < z → ¬ isBla (I 78 i)) → X mR_next G (3, 0, 0) S1 I' L 52 [.ref 59, .null, .null] [] Post := by
    intro i I' hi hF hat hT hb
    refine x_aload_n dR_next_52 rfl ?_
    refine x_aload_n dR_next_53 rfl ?_
    refine x_getI fl_R_171 rfl dR_next_54 rfl rfl ?_
    -- at 57: .putfield 174
    rw [hat]
    refine x_putI fl_R_174 rfl dR_next_57 (by decide) rfl rfl rfl rfl ?_
    refine x_aload_n dR_next_60 rfl ?_
    refine x_iconst (v := 0) dR_next_61 rfl ?_
    refine x_putI fl_R_177 rfl dR_next_62 (by decide) rfl rfl rfl rfl ?_
    refine x_aload_n dR_next_65 rfl ?_
    refine x_iconst (v := 0) dR_next_66 rfl ?_
    refine x_putI fl_R_180 rfl dR_next_67 (by decide) rfl rfl rfl rfl ?_
    refine x_aload_n dR_next_70 rfl ?_
    refine x_getI fl_R_171 rfl dR_next_71 rfl rfl ?_
    refine x_aload_n dR_next_74 rfl ?_
    refine x_getI fl_R_137 rfl dR_next_75 rfl rfl ?_
    -- at 78: .if_icmp .ne 4
    have hF1 : FrN [44, 45, 46, 47] I (up2 (up2 (up2 I' 59 45 (nI i)) 59 46 0) 59 47 0) := ((hF.up (by decide) _).up (by decide) _).up (by decide) _
    have q44 : up2 (up2 (up2 I' 59 45 (nI i)) 59 46 0) 59 47 0 59 44 = nI i := by rw [f59_n (by decide), f59_n (by decide), f59_n (by decide)]; exact hat
    have q45 : up2 (up2 (up2 I' 59 45 (nI i)) 59 46 0) 59 47 0 59 45 = nI i := by rw [f59_n (by decide), f59_n (by decide), f59_s]
    have q46 : up2 (up2 (up2 I' 59 45 (nI i)) 59 46 0) 59 47 0 59 46 = 0 := by rw [f59_n (by decide), f59_s]
    have q47 : up2 (up2 (up2 I' 59 45 (nI i)) 59 46 0) 59 47 0 59 47 = 0 := f59_s
    generalize up2 (up2 (up2 I' 59 45 (nI i)) 59 46 0) 59 47 0 = I1 at hF1 q44 q45 q46 q47
    rw [q44, size hF1]
    by_cases c0 : i < z
    · have htok := tokS_tok c0 (hb c0)
      rw [hT] at htok
      have hend2 := tokAt_end (f := I 78) c0
      refine x_icmp_ne (tgt := 82) dR_next_78 (by decide) (fun _ => ?_) (fun h => absurd h (fun y => absurd ((nI_eq (by omega) (by omega)).mp y) (by omega)))
      refine x_aload_n dR_next_82 rfl ?_
      refine x_getR fl_R_68 rfl dR_next_83 rfl rfl rfl ?_
      refine x_aload_n dR_next_86 rfl ?_
      refine x_getI fl_R_171 rfl dR_next_87 rfl rfl ?_
      -- at 90: .iaload
      rw [q44]
      refine x_ialdJ (j := i) dR_next_90 rfl rfl (by first | rfl | (simp only [← nI_add, ← pk_mul]; rfl)) (by omega) ?_
      refine x_istoren_1 dR_next_91 rfl rfl ?_
      refine x_iload_n dR_next_92 rfl ?_
      refine x_bipush (v := 97) dR_next_93 rfl ?_
      refine x_bipush (v := 122) dR_next_95 rfl ?_
      -- at 97: .invokestatic 151
      rw [tape hF1]
      refine x_callS_3 c_R_in ok_R_in ml_R_151 dR_next_97 rfl rfl ?_
      refine ⟨_, _, _, rfl, fun c1 => ?_, fun c1 => ?_⟩
      · have c1 : isLet (I 78 i) := c1
        refine x_if_eq (tgt := 217) dR_next_100 (by decide) (fun h => absurd h (by decide)) (fun _ => ?_)
        refine letters (z - i) i I1 _ _ (Nat.le_refl _) hi hF1 q44 (fun I2 hF2 h2 h3 => ?_)
        have eT : tokAt (I 78) z i = (((kindW (wordAt (I 78) i (letE (I 78) z (z - i) i))).1, i, (kindW (wordAt (I 78) i (letE (I 78) z (z - i) i))).2), letE (I 78) z (z - i) i) := by
          rw [tokAt, if_pos c1]
        rw [eT] at htok hend2
        have hlet := letE_all (I 78) z (z - i) i
        generalize letE (I 78) z (z - i) i = e at h2 htok hend2 hlet
        refine x_aload_n dR_next_146 rfl ?_
        refine x_aload_n dR_next_147 rfl ?_
        refine x_getI fl_R_174 rfl dR_next_148 rfl rfl ?_
        refine x_aload_n dR_next_151 rfl ?_
        refine x_getI fl_R_171 rfl dR_next_152 rfl rfl ?_
        -- at 155: .invokevirtual 183
        rw [h2, h3, q45]
        refine x_callV_2 c_R_wordFrom ok_R_wordFrom ml_R_183 dR_next_155 rfl rfl rfl rfl rfl ?_
        refine ⟨i, e, rfl, rfl, by have := hend2.1; dsimp only at this; omega, by have := hend2.2; dsimp only at this; omega, words hF2, fun k hk hk1 hk2 => ?_⟩
        rw [tape hF2] at hk1 hk2
        have ek : kindW (wordAt (I 78) i e) = kdW k := by
          by_cases c2 : k < 12
          · rw [(matW_iff c2 hlet).mp (hk1 c2)]
            exact kindW_i k c2
          · obtain rfl : k = 12 := by omega
            exact kindW_no (fun x hx y => hk2 rfl x hx ((matW_iff hx hlet).mpr y))
        rw [ek] at htok
        have fin : ∀ tok val : Int32, (tok = if k < 3 then 3 else if k < 9 then 2 else if k = 12 then -1 else 4 + nI k - 9) → (val = if k < 3 then nI k else nI k - 3) → X mR_next G (3, 0, 0) S1 (up2 I2 59 46 tok) L 211 [.ref 59, .int (I 78 i), .int (nI k)] [.int val, .ref 59] Post := by
          intro tok val htok2 hval
          refine x_putI fl_R_180 rfl dR_next_211 (by decide) rfl rfl rfl rfl ?_
          refine x_goto (tgt := 403) dR_next_214 (by decide) ?_
          -- at 403: .return_
          refine x_return dR_next_403 rfl ?_
          refine h1 _ e _ _ htok ((hF2.up (by decide) _).up (by decide) _) ?_ hend2.2 ?_ (fun _ => rfl)
          · rw [f59_n (by decide), f59_n (by decide)]; exact h2
          · refine RTok_w hk ?_ f59_s ?_ htok2 hval
            · rw [f59_n (by decide), f59_s]
            · rw [f59_n (by decide), f59_n (by decide), h3, q45]
        have mid : ∀ tok : Int32, (tok = if k < 3 then 3 else if k < 9 then 2 else if k = 12 then -1 else 4 + nI k - 9) → X mR_next G (3, 0, 0) S1 I2 L 195 [.ref 59, .int (I 78 i), .int (nI k)] [.int tok, .ref 59] Post := by
          intro tok htok2
          refine x_putI fl_R_177 rfl dR_next_195 (by decide) rfl rfl rfl rfl ?_
          refine x_aload_n dR_next_198 rfl ?_
          refine x_iload_n dR_next_199 rfl ?_
          refine x_iconst (v := 3) dR_next_200 rfl ?_
          -- at 201: .if_icmp .ge 7
          by_cases c3 : k < 3
          · refine x_icmp_ge (tgt := 208) dR_next_201 (by decide) (fun h => absurd h (nI_ge (b := 3) c3 (by omega))) (fun _ => ?_)
            refine x_iload_n dR_next_204 rfl ?_
            refine x_goto (tgt := 211) dR_next_205 (by decide) ?_
            -- at 211: .putfield 180
            exact fin tok _ htok2 (by rw [if_pos c3])
          · refine x_icmp_ge (tgt := 208) dR_next_201 (by decide) (fun _ => ?_) (fun h => absurd (nI_le (a := 3) (by omega) (by omega)) h)
            refine x_iload_n dR_next_208 rfl ?_
            refine x_iconst (v := 3) dR_next_209 rfl ?_
            refine x_isub dR_next_210 ?_
            -- at 211: .putfield 180
            exact fin tok _ htok2 (by rw [if_neg c3])
        refine x_istoren_2 dR_next_158 rfl rfl ?_
        refine x_aload_n dR_next_159 rfl ?_
        refine x_iload_n dR_next_160 rfl ?_
        refine x_iconst (v := 3) dR_next_161 rfl ?_
        -- at 162: .if_icmp .ge 7
        by_cases c3 : k < 3
        · refine x_icmp_ge (tgt := 169) dR_next_162 (by decide) (fun h => absurd h (nI_ge (b := 3) c3 (by omega))) (fun _ => ?_)
          refine x_iconst (v := 3) dR_next_165 rfl ?_
          refine x_goto (tgt := 195) dR_next_166 (by decide) ?_
          -- at 195: .putfield 177
          exact mid _ (by rw [if_pos c3])
        · refine x_icmp_ge (tgt := 169) dR_next_162 (by decide) (fun _ => ?_) (fun h => absurd (nI_le (a := 3) (by omega) (by omega)) h)
          refine x_iload_n dR_next_169 rfl ?_
          refine x_bipush (v := 9) dR_next_170 rfl ?_
          -- at 172: .if_icmp .ge 7
          by_cases c4 : k < 9
          · refine x_icmp_ge (tgt := 179) dR_next_172 (by decide) (fun h => absurd h (nI_ge (b := 9) c4 (by omega))) (fun _ => ?_)
            refine x_iconst (v := 2) dR_next_175 rfl ?_
            refine x_goto (tgt := 195) dR_next_176 (by decide) ?_
            -- at 195: .putfield 177
            exact mid _ (by rw [if_neg c3, if_pos c4])
          · refine x_icmp_ge (tgt := 179) dR_next_172 (by decide) (fun _ => ?_) (fun h => absurd (nI_le (a := 9) (by omega) (by omega)) h)
            refine x_iload_n dR_next_179 rfl ?_
            refine x_bipush (v := 12) dR_next_180 rfl ?_
            -- at 182: .if_icmp .ne 7
            by_cases c5 : k = 12
            · refine x_icmp_ne (tgt := 189) dR_next_182 (by decide) (fun h => absurd (by rw [c5]; rfl) h) (fun _ => ?_)
              refine x_iconst (v := -1) dR_next_185 rfl ?_
              refine x_goto (tgt := 195) dR_next_186 (by decide) ?_
              -- at 195: .putfield 177
              exact mid _ (by rw [if_neg c3, if_neg c4, if_pos c5])
            · refine x_icmp_ne (tgt := 189) dR_next_182 (by decide) (fun _ => ?_) (fun h => absurd h (fun y => c5 ((nI_eq (b := 12) (by omega) (by omega)).mp y)))
              refine x_iconst (v := 4) dR_next_189 rfl ?_
              refine x_iload_n dR_next_190 rfl ?_
              refine x_iadd dR_next_191 ?_
              refine x_bipush (v := 9) dR_next_192 rfl ?_
              refine x_isub dR_next_194 ?_
              -- at 195: .putfield 177
              exact mid _ (by rw [if_neg c3, if_neg c4, if_neg c5])
      · have c1 : ¬ isLet (I 78 i) := c1
        refine x_if_eq (tgt := 217) dR_next_100 (by decide) (fun _ => ?_) (fun h => absurd (by decide) h)
        refine x_iload_n dR_next_217 rfl ?_
        refine x_bipush (v := 48) dR_next_218 rfl ?_
        refine x_bipush (v := 57) dR_next_220 rfl ?_
        -- at 222: .invokestatic 151
        refine x_callS_3 c_R_in ok_R_in ml_R_151 dR_next_222 rfl rfl ?_
        refine ⟨_, _, _, rfl, fun c2 => ?_, fun c2 => ?_⟩
        · have c2 : isDig (I 78 i) := c2
          refine x_if_eq (tgt := 326) dR_next_225 (by decide) (fun h => absurd h (by decide)) (fun _ => ?_)
          refine x_iconst (v := 0) dR_next_228 rfl ?_
          refine x_istoren_2 dR_next_229 rfl rfl ?_
          -- at 230: .aload_n 0
          have h3 := digits i (z - i) i I1 (I 78 i) (Nat.le_refl _) (Nat.le_refl _) hi hF1 q44 (fun _ => by rw [q47, Nat.sub_self]; rfl)
          rw [Nat.sub_self] at h3
          refine h3 (fun I2 e hF2 he h2 h3 h4 => ?_)
          have eT : tokAt (I 78) z i = if 4 < e - i then ((1, i, 0), e) else ((2, i, numV (I 78) (e - i) i), e) := by
            rw [tokAt, if_neg c1, if_pos c2, ← he]
          have hle : i < e ∧ e ≤ z := by
            rw [eT] at hend2
            split at hend2 <;> exact hend2
          refine x_aload_n dR_next_309 rfl ?_
          refine x_iload_n dR_next_310 rfl ?_
          refine x_iconst (v := 4) dR_next_311 rfl ?_
          -- at 312: .if_icmp .le 7
          by_cases c3 : e - i ≤ 4
          · rw [if_neg (by omega)] at eT
            rw [eT] at htok
            refine x_icmp_le (tgt := 319) dR_next_312 (by decide) (fun _ => ?_) (fun h => absurd (nI_le (b := 4) c3 (by omega)) h)
            refine x_iconst (v := 1) dR_next_319 rfl ?_
            refine x_putI fl_R_177 rfl dR_next_320 (by decide) rfl rfl rfl rfl ?_
            refine x_goto (tgt := 403) dR_next_323 (by decide) ?_
            -- at 403: .return_
            refine x_return dR_next_403 rfl ?_
            refine h1 _ e _ _ htok (hF2.up (by decide) _) ?_ hle.2 ?_ (fun _ => rfl)
            · rw [f59_n (by decide)]; exact h2
            · refine RTok_of f59_s (fun _ => ?_) (fun y => absurd y (by decide)) (fun y => absurd y (by decide)) (fun y => absurd y (by decide)) ?_
              · rw [f59_n (by decide)]; exact h4 c3
              · rw [f59_n (by decide), h3, q45]
          · rw [if_pos (by omega)] at eT
            rw [eT] at htok
            refine x_icmp_le (tgt := 319) dR_next_312 (by decide) (fun h => absurd h (nI_ge (a := 4) (b := e - i) (by omega) (by omega))) (fun _ => ?_)
            refine x_iconst (v := -1) dR_next_315 rfl ?_
            refine x_goto (tgt := 320) dR_next_316 (by decide) ?_
            refine x_putI fl_R_177 rfl dR_next_320 (by decide) rfl rfl rfl rfl ?_
            refine x_goto (tgt := 403) dR_next_323 (by decide) ?_
            -- at 403: .return_
            refine x_return dR_next_403 rfl ?_
            refine h1 _ e _ _ htok (hF2.up (by decide) _) ?_ hle.2 ?_ (fun _ => rfl)
            · rw [f59_n (by decide)]; exact h2
            · refine RTok_n f59_s (Or.inr (Or.inl rfl)) ?_
              rw [f59_n (by decide), h3, q45]
        · have c2 : ¬ isDig (I 78 i) := c2
          have eT : tokAt (I 78) z i = ((if isSig (I 78 i) then I 78 i else 1, i, 0), i + 1) := by
            rw [tokAt, if_neg c1, if_neg c2]
          rw [eT] at htok
          refine x_if_eq (tgt := 326) dR_next_225 (by decide) (fun _ => ?_) (fun h => absurd (by decide) h)
          have fin : ∀ tok : Int32, tok = rtok (if isSig (I 78 i) then I 78 i else 1) → ∀ a2 : Int32, X mR_next G (3, 0, 0) S1 I1 L 390 [.ref 59, .int (I 78 i), .int a2] [.int tok, .ref 59] Post := by
            intro tok ht a2
            refine x_putI fl_R_177 rfl dR_next_390 (by decide) rfl rfl rfl rfl ?_
            refine x_aload_n dR_next_393 rfl ?_
            refine x_dup dR_next_394 rfl ?_
            refine x_getI fl_R_171 rfl dR_next_395 rfl rfl ?_
            -- at 398: .iconst 1
            rw [f59_n (by decide), q44]
            refine x_iconst (v := 1) dR_next_398 rfl ?_
            refine x_iadd dR_next_399 ?_
            refine x_putI fl_R_171 rfl dR_next_400 (by decide) rfl rfl rfl rfl ?_
            -- at 403: .return_
            refine x_return dR_next_403 rfl ?_
            refine h1 _ (i + 1) _ _ htok ((hF1.up (by decide) _).up (by decide) _) ?_ (by omega) ?_ (fun _ => rfl)
            · rw [f59_s, nI_1]
            · refine RTok_n ?_ ?_ ?_
              · rw [f59_n (by decide), f59_s, ht]
              · split
                · rename_i hs
                  exact Or.inr (Or.inr hs)
                · exact Or.inr (Or.inl rfl)
              · rw [f59_n (by decide), f59_n (by decide), q45]
          have yes : isSig (I 78 i) → X mR_next G (3, 0, 0) S1 I1 L 374 [.ref 59, .int (I 78 i), .null] [] Post := by
            intro hs
            refine x_iconst (v := 1) dR_next_374 rfl ?_
            refine x_goto (tgt := 379) dR_next_375 (by decide) ?_
            refine x_istoren_2 dR_next_379 rfl rfl ?_
            refine x_aload_n dR_next_380 rfl ?_
            refine x_iload_n dR_next_381 rfl ?_
            -- at 382: .ifCond .eq 7
            refine x_if_eq (tgt := 389) dR_next_382 (by decide) (fun h => absurd h (by decide)) (fun _ => ?_)
            refine x_iload_n dR_next_385 rfl ?_
            refine x_goto (tgt := 390) dR_next_386 (by decide) ?_
            -- at 390: .putfield 177
            exact fin _ (by rw [if_pos hs, rtok_sig hs]) _
          have no : ¬ isSig (I 78 i) → X mR_next G (3, 0, 0) S1 I1 L 378 [.ref 59, .int (I 78 i), .null] [] Post := by
            intro hs
            refine x_iconst (v := 0) dR_next_378 rfl ?_
            refine x_istoren_2 dR_next_379 rfl rfl ?_
            refine x_aload_n dR_next_380 rfl ?_
            refine x_iload_n dR_next_381 rfl ?_
            -- at 382: .ifCond .eq 7
            refine x_if_eq (tgt := 389) dR_next_382 (by decide) (fun _ => ?_) (fun h => absurd rfl h)
            refine x_iconst (v := -1) dR_next_389 rfl ?_
            -- at 390: .putfield 177
            exact fin _ (by rw [if_neg hs]; decide) _
          refine x_iload_n dR_next_326 rfl ?_
          refine x_bipush (v := 40) dR_next_327 rfl ?_
          -- at 329: .if_icmp .eq 45
          refine x_icmp_eq (tgt := 374) dR_next_329 (by decide) (fun d1 => ?_) (fun d1 => ?_)
          · exact yes (Or.inl d1)
          refine x_iload_n dR_next_332 rfl ?_
          refine x_bipush (v := 41) dR_next_333 rfl ?_
          -- at 335: .if_icmp .eq 39
          refine x_icmp_eq (tgt := 374) dR_next_335 (by decide) (fun d2 => ?_) (fun d2 => ?_)
          · exact yes (Or.inr (Or.inl d2))
          refine x_iload_n dR_next_338 rfl ?_
          refine x_bipush (v := 59) dR_next_339 rfl ?_
          -- at 341: .if_icmp .eq 33
          refine x_icmp_eq (tgt := 374) dR_next_341 (by decide) (fun d3 => ?_) (fun d3 => ?_)
          · exact yes (Or.inr (Or.inr (Or.inl d3)))
          refine x_iload_n dR_next_344 rfl ?_
          refine x_bipush (v := 43) dR_next_345 rfl ?_
          -- at 347: .if_icmp .eq 27
          refine x_icmp_eq (tgt := 374) dR_next_347 (by decide) (fun d4 => ?_) (fun d4 => ?_)
          · exact yes (Or.inr (Or.inr (Or.inr (Or.inl d4))))
          refine x_iload_n dR_next_350 rfl ?_
          refine x_bipush (v := 45) dR_next_351 rfl ?_
          -- at 353: .if_icmp .eq 21
          refine x_icmp_eq (tgt := 374) dR_next_353 (by decide) (fun d5 => ?_) (fun d5 => ?_)
          · exact yes (Or.inr (Or.inr (Or.inr (Or.inr (Or.inl d5)))))
          refine x_iload_n dR_next_356 rfl ?_
          refine x_bipush (v := 42) dR_next_357 rfl ?_
          -- at 359: .if_icmp .eq 15
          refine x_icmp_eq (tgt := 374) dR_next_359 (by decide) (fun d6 => ?_) (fun d6 => ?_)
          · exact yes (Or.inr (Or.inr (Or.inr (Or.inr (Or.inr (Or.inl d6))))))
          refine x_iload_n dR_next_362 rfl ?_
          refine x_bipush (v := 60) dR_next_363 rfl ?_
          -- at 365: .if_icmp .eq 9
          refine x_icmp_eq (tgt := 374) dR_next_365 (by decide) (fun d7 => ?_) (fun d7 => ?_)
          · exact yes (Or.inr (Or.inr (Or.inr (Or.inr (Or.inr (Or.inr (Or.inl d7)))))))
          refine x_iload_n dR_next_368 rfl ?_
          refine x_bipush (v := 61) dR_next_369 rfl ?_
          -- at 371: .if_icmp .ne 7
          refine x_icmp_ne (tgt := 378) dR_next_371 (by decide) (fun d8 => ?_) (fun d8 => ?_)
          · refine no ?_
            rintro (y | y | y | y | y | y | y | y)
            · exact d1 y
            · exact d2 y
            · exact d3 y
            · exact d4 y
            · exact d5 y
            · exact d6 y
            · exact d7 y
            · exact d8 y
          · exact yes (Or.inr (Or.inr (Or.inr (Or.inr (Or.inr (Or.inr (Or.inr d8)))))))
    · obtain rfl : i = z := by omega
      refine x_icmp_ne (tgt := 82) dR_next_78 (by decide) (fun h => absurd rfl h) (fun _ => ?_)
      refine x_return dR_next_81 rfl ?_
      have htok := tokS_end (f := I 78) (Nat.lt_irrefl i)
      rw [hT] at htok
      exact h1 I1 i _ _ htok hF1 q44 (Nat.le_refl _) (RTok_n (by rw [q46]; decide) (Or.inl rfl) q45) (fun y => absurd rfl y)
  -- blanks
  have blanks : ∀ (k i : Nat) (I' : IM), z - i ≤ k → i ≤ z → FrN [44, 45, 46, 47] I I' → I' 59 44 = nI i → tokS (I 78) z i = tokS (I 78) z a → X mR_next G (3, 0, 0) S1 I' L 0 [.ref 59, .null, .null] [] Post := by
    intro k
    induction k with
    | zero =>
      intro i I' hk hi hF hat hT
      refine x_aload_n dR_next_0 rfl ?_
      refine x_getI fl_R_171 rfl dR_next_1 rfl rfl ?_
      refine x_aload_n dR_next_4 rfl ?_
      refine x_getI fl_R_137 rfl dR_next_5 rfl rfl ?_
      -- at 8: .if_icmp .ge 44
      rw [hat, size hF]
      refine x_icmp_ge (tgt := 52) dR_next_8 (by decide) (fun _ => ?_) (fun h => absurd (by rw [show i = z by omega]; exact Int32.le_refl _) h)
      exact main i I' hi hF hat hT (fun y => absurd y (by omega))
    | succ k ih =>
      intro i I' hk hi hF hat hT
      by_cases c0 : i < z
      · have next : isBla (I 78 i) → X mR_next G (3, 0, 0) S1 I' L 39 [.ref 59, .null, .null] [] Post := by
          intro hb
          refine x_aload_n dR_next_39 rfl ?_
          refine x_dup dR_next_40 rfl ?_
          refine x_getI fl_R_171 rfl dR_next_41 rfl rfl ?_
          -- at 44: .iconst 1
          rw [hat]
          refine x_iconst (v := 1) dR_next_44 rfl ?_
          refine x_iadd dR_next_45 ?_
          refine x_putI fl_R_171 rfl dR_next_46 (by decide) rfl rfl rfl rfl ?_
          refine x_goto (tgt := 0) dR_next_49 (by decide) ?_
          -- at 0: .aload_n 0
          rw [nI_1]
          exact ih (i + 1) _ (by omega) (by omega) (hF.up (by decide) _) f59_s (by rw [← tokS_bla c0 hb]; exact hT)
        refine x_aload_n dR_next_0 rfl ?_
        refine x_getI fl_R_171 rfl dR_next_1 rfl rfl ?_
        refine x_aload_n dR_next_4 rfl ?_
        refine x_getI fl_R_137 rfl dR_next_5 rfl rfl ?_
        -- at 8: .if_icmp .ge 44
        rw [hat, size hF]
        refine x_icmp_ge (tgt := 52) dR_next_8 (by decide) (fun h => absurd h (nI_ge c0 (by omega))) (fun _ => ?_)
        refine x_aload_n dR_next_11 rfl ?_
        refine x_getR fl_R_68 rfl dR_next_12 rfl rfl rfl ?_
        refine x_aload_n dR_next_15 rfl ?_
        refine x_getI fl_R_171 rfl dR_next_16 rfl rfl ?_
        -- at 19: .iaload
        rw [hat]
        refine x_ialdJ (j := i) dR_next_19 rfl rfl (by first | rfl | (simp only [← nI_add, ← pk_mul]; rfl)) (by omega) ?_
        refine x_bipush (v := 32) dR_next_20 rfl ?_
        -- at 22: .if_icmp .eq 17
        rw [tape hF]
        refine x_icmp_eq (tgt := 39) dR_next_22 (by decide) (fun d1 => ?_) (fun d1 => ?_)
        · exact next (Or.inl d1)
        · refine x_aload_n dR_next_25 rfl ?_
          refine x_getR fl_R_68 rfl dR_next_26 rfl rfl rfl ?_
          refine x_aload_n dR_next_29 rfl ?_
          refine x_getI fl_R_171 rfl dR_next_30 rfl rfl ?_
          -- at 33: .iaload
          rw [hat]
          refine x_ialdJ (j := i) dR_next_33 rfl rfl (by first | rfl | (simp only [← nI_add, ← pk_mul]; rfl)) (by omega) ?_
          refine x_bipush (v := 10) dR_next_34 rfl ?_
          -- at 36: .if_icmp .ne 16
          rw [tape hF]
          refine x_icmp_ne (tgt := 52) dR_next_36 (by decide) (fun d2 => ?_) (fun d2 => ?_)
          · exact main i I' hi hF hat hT (fun _ y => y.elim d1 d2)
          · exact next (Or.inr d2)
      · refine x_aload_n dR_next_0 rfl ?_
        refine x_getI fl_R_171 rfl dR_next_1 rfl rfl ?_
        refine x_aload_n dR_next_4 rfl ?_
        refine x_getI fl_R_137 rfl dR_next_5 rfl rfl ?_
        -- at 8: .if_icmp .ge 44
        rw [hat, size hF]
        refine x_icmp_ge (tgt := 52) dR_next_8 (by decide) (fun _ => ?_) (fun h => absurd (by rw [show i = z by omega]; exact Int32.le_refl _) h)
        exact main i I' hi hF hat hT (fun y => absurd y c0)
  exact blanks (z - a) a I (Nat.le_refl _) haz FrN.rfl ha rfl
