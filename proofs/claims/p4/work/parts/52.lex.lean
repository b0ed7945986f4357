/-! texts: from bytes to tokens -/
abbrev isLet (b : Int32) : Prop := 97 ≤ b ∧ b ≤ 122
abbrev isDig (b : Int32) : Prop := 48 ≤ b ∧ b ≤ 57
abbrev isSig (b : Int32) : Prop := b = 40 ∨ b = 41 ∨ b = 59 ∨ b = 43 ∨ b = 45 ∨ b = 42 ∨ b = 60 ∨ b = 61
abbrev isBla (b : Int32) : Prop := b = 32 ∨ b = 10
def letE (f : Nat → Int32) (z k a : Nat) : Nat := match k with
  | 0 => a
  | j + 1 => if a < z ∧ isLet (f a) then letE f z j (a + 1) else a
def digE (f : Nat → Int32) (z k a : Nat) : Nat := match k with
  | 0 => a
  | j + 1 => if a < z ∧ isDig (f a) then digE f z j (a + 1) else a
def wordAt (f : Nat → Int32) (a e : Nat) : List Int32 := (List.range (e - a)).map fun i => f (a + i)
/-- what a word is: its sort and which -/
def kindW (w : List Int32) : Int32 × Int32 :=
  if w = [108, 111, 117, 100] then (3, 0) else if w = [102, 97, 114] then (3, 1) else if w = [101, 97, 114] then (3, 2) else if w = [110, 101, 101, 100] then (3, 3) else
  if w = [109, 97, 110, 121] then (3, 4) else if w = [98, 97, 115, 101] then (3, 5) else if w = [104, 101, 97, 114, 100] then (4, 0) else if w = [115, 104, 97, 114, 101] then (5, 0) else
  if w = [112, 97, 105, 110] then (6, 0) else if w = [111, 114] then (7, 0) else if w = [97, 110, 100] then (8, 0) else if w = [110, 111, 116] then (9, 0) else (1, 0)
def numV (f : Nat → Int32) (k a : Nat) : Int32 := match k with
  | 0 => 0
  | j + 1 => numV f j a * 10 + f (a + j) - 48
def tokAt (f : Nat → Int32) (z a : Nat) : Tok × Nat :=
  if isLet (f a) then (((kindW (wordAt f a (letE f z (z - a) a))).1, a, (kindW (wordAt f a (letE f z (z - a) a))).2), letE f z (z - a) a) else
  if isDig (f a) then (if 4 < digE f z (z - a) a - a then ((1, a, 0), digE f z (z - a) a) else ((2, a, numV f (digE f z (z - a) a - a) a), digE f z (z - a) a)) else
  ((if isSig (f a) then f a else 1, a, 0), a + 1)
def toks (f : Nat → Int32) (z k a : Nat) : List Tok := match k with
  | 0 => [(0, z, 0)]
  | j + 1 => if a < z then (if isBla (f a) then toks f z j (a + 1) else (tokAt f z a).1 :: toks f z j (tokAt f z a).2) else [(0, z, 0)]
theorem letE_ge (f : Nat → Int32) (z : Nat) : ∀ k a, a ≤ letE f z k a ∧ (a ≤ z → letE f z k a ≤ z) := by
  intro k
  induction k with
  | zero => intro a; exact ⟨Nat.le_refl _, id⟩
  | succ j ih =>
    intro a
    rw [letE]
    split
    · rename_i h
      obtain ⟨i1, i2⟩ := ih (a + 1)
      exact ⟨by omega, fun _ => i2 (by omega)⟩
    · exact ⟨Nat.le_refl _, id⟩
theorem digE_ge (f : Nat → Int32) (z : Nat) : ∀ k a, a ≤ digE f z k a ∧ (a ≤ z → digE f z k a ≤ z) := by
  intro k
  induction k with
  | zero => intro a; exact ⟨Nat.le_refl _, id⟩
  | succ j ih =>
    intro a
    rw [digE]
    split
    · rename_i h
      obtain ⟨i1, i2⟩ := ih (a + 1)
      exact ⟨by omega, fun _ => i2 (by omega)⟩
    · exact ⟨Nat.le_refl _, id⟩
theorem letE_gt {f : Nat → Int32} {z a : Nat} (h : a < z) (hl : isLet (f a)) : a < letE f z (z - a) a := by
  obtain ⟨k, e⟩ : ∃ k, z - a = k + 1 := ⟨z - a - 1, by omega⟩
  rw [e, letE, if_pos ⟨h, hl⟩]
  have := (letE_ge f z k (a + 1)).1
  omega
theorem digE_gt {f : Nat → Int32} {z a : Nat} (h : a < z) (hl : isDig (f a)) : a < digE f z (z - a) a := by
  obtain ⟨k, e⟩ : ∃ k, z - a = k + 1 := ⟨z - a - 1, by omega⟩
  rw [e, digE, if_pos ⟨h, hl⟩]
  have := (digE_ge f z k (a + 1)).1
  omega
theorem tokAt_end {f : Nat → Int32} {z a : Nat} (h : a < z) : a < (tokAt f z a).2 ∧ (tokAt f z a).2 ≤ z := by
  unfold tokAt
  split
  · rename_i hl
    exact ⟨letE_gt h hl, (letE_ge f z (z - a) a).2 (by omega)⟩
  · split
    · rename_i hl
      split
      · exact ⟨digE_gt h hl, (digE_ge f z (z - a) a).2 (by omega)⟩
      · exact ⟨digE_gt h hl, (digE_ge f z (z - a) a).2 (by omega)⟩
    · exact ⟨by show a < a + 1; omega, by show a + 1 ≤ z; omega⟩
theorem toks_fuel (f : Nat → Int32) (z : Nat) : ∀ (k k' a : Nat), z - a ≤ k → z - a ≤ k' → toks f z k a = toks f z k' a := by
  intro k
  induction k with
  | zero =>
    intro k' a h h'
    cases k' with
    | zero => rfl
    | succ j => rw [toks, toks, if_neg (by omega)]
  | succ i ih =>
    intro k' a h h'
    cases k' with
    | zero => rw [toks, toks, if_neg (by omega)]
    | succ j =>
      rw [toks, toks]
      by_cases ha : a < z
      · rw [if_pos ha, if_pos ha, ih j (a + 1) (by omega) (by omega)]
        have := tokAt_end (f := f) ha
        rw [ih j (tokAt f z a).2 (by omega) (by omega)]
      · rw [if_neg ha, if_neg ha]
/-- all tokens from a byte on -/
def tokS (f : Nat → Int32) (z a : Nat) : List Tok := toks f z (z - a) a
theorem tokS_end {f : Nat → Int32} {z a : Nat} (h : ¬ a < z) : tokS f z a = [(0, z, 0)] := by
  unfold tokS
  rw [show z - a = 0 by omega]
  rfl
theorem tokS_bla {f : Nat → Int32} {z a : Nat} (h : a < z) (hb : isBla (f a)) : tokS f z a = tokS f z (a + 1) := by
  unfold tokS
  obtain ⟨k, e⟩ : ∃ k, z - a = k + 1 := ⟨z - a - 1, by omega⟩
  rw [e, toks, if_pos h, if_pos hb]
  exact toks_fuel f z _ _ _ (by omega) (by omega)
theorem tokS_tok {f : Nat → Int32} {z a : Nat} (h : a < z) (hb : ¬ isBla (f a)) : tokS f z a = (tokAt f z a).1 :: tokS f z (tokAt f z a).2 := by
  unfold tokS
  obtain ⟨k, e⟩ : ∃ k, z - a = k + 1 := ⟨z - a - 1, by omega⟩
  have := tokAt_end (f := f) h
  rw [e, toks, if_pos h, if_neg hb]
  rw [toks_fuel f z k (z - (tokAt f z a).2) _ (by omega) (by omega)]
/-- what tokens may be -/
def TokOk (t : Tok) : Prop := (t.1 = 2 → ∃ v, v < 10000 ∧ t.2.2 = nI v) ∧ (t.1 = 3 → ∃ v, v < 6 ∧ t.2.2 = nI v)
def Tgood (T : List Tok) : Prop := 0 < T.length ∧ (∀ k, k < T.length → ¬ ts T k = 0 → k + 1 < T.length) ∧ ∀ k, k < T.length → TokOk (tk T k)
theorem iteP {α : Type} {P : α → Prop} {c : Prop} [Decidable c] {x y : α} (h1 : P x) (h2 : P y) : P (if c then x else y) := by
  split
  · exact h1
  · exact h2
def kwP (x : Int32 × Int32) : Prop := ¬ x.1 = 0 ∧ ¬ x.1 = 2 ∧ (x.1 = 3 → ∃ v, v < 6 ∧ x.2 = nI v)
theorem kwP_3 {v : Nat} (h : v < 6) : kwP (3, nI v) := ⟨show ¬ (3 : Int32) = 0 by decide, show ¬ (3 : Int32) = 2 by decide, fun _ => ⟨v, h, rfl⟩⟩
theorem kwP_o {s : Int32} (h : s = 1 ∨ s = 4 ∨ s = 5 ∨ s = 6 ∨ s = 7 ∨ s = 8 ∨ s = 9) : kwP (s, 0) := by
  refine ⟨fun e => ?_, fun e => ?_, fun e => ?_⟩
  · have e : s = 0 := e
    rw [e] at h
    exact absurd h (by decide)
  · have e : s = 2 := e
    rw [e] at h
    exact absurd h (by decide)
  · have e : s = 3 := e
    rw [e] at h
    exact absurd h (by decide)
theorem kindW_ok (w : List Int32) : kwP (kindW w) :=
  iteP (P := kwP) (kwP_3 (v := 0) (by omega)) (iteP (P := kwP) (kwP_3 (v := 1) (by omega)) (iteP (P := kwP) (kwP_3 (v := 2) (by omega)) (iteP (P := kwP) (kwP_3 (v := 3) (by omega)) (iteP (P := kwP) (kwP_3 (v := 4) (by omega)) (iteP (P := kwP) (kwP_3 (v := 5) (by omega))
    (iteP (P := kwP) (kwP_o (by decide)) (iteP (P := kwP) (kwP_o (by decide)) (iteP (P := kwP) (kwP_o (by decide)) (iteP (P := kwP) (kwP_o (by decide)) (iteP (P := kwP) (kwP_o (by decide)) (iteP (P := kwP) (kwP_o (by decide)) (kwP_o (by decide)))))))))))))
theorem TokOk_1 {s : Int32} (a : Nat) (h : s = 0 ∨ s = 1) : TokOk (s, a, 0) := by
  refine ⟨fun e => ?_, fun e => ?_⟩
  · have e : s = 2 := e
    rw [e] at h
    exact absurd h (by decide)
  · have e : s = 3 := e
    rw [e] at h
    exact absurd h (by decide)
theorem digE_all (f : Nat → Int32) (z : Nat) : ∀ k a i, a ≤ i → i < digE f z k a → isDig (f i) := by
  intro k
  induction k with
  | zero => intro a i h1 h2; rw [digE] at h2; omega
  | succ j ih =>
    intro a i h1 h2
    rw [digE] at h2
    split at h2
    · rename_i h
      by_cases e : i = a
      · rw [e]; exact h.2
      · exact ih (a + 1) i (by omega) h2
    · omega
theorem letE_all (f : Nat → Int32) (z : Nat) : ∀ k a i, a ≤ i → i < letE f z k a → isLet (f i) := by
  intro k
  induction k with
  | zero => intro a i h1 h2; rw [letE] at h2; omega
  | succ j ih =>
    intro a i h1 h2
    rw [letE] at h2
    split at h2
    · rename_i h
      by_cases e : i = a
      · rw [e]; exact h.2
      · exact ih (a + 1) i (by omega) h2
    · omega
theorem numV_ok {f : Nat → Int32} {a : Nat} : ∀ k, k ≤ 4 → (∀ i, i < k → isDig (f (a + i))) → ∃ v, v < 10 ^ k ∧ numV f k a = nI v := by
  intro k
  induction k with
  | zero => intro _ _; exact ⟨0, by omega, rfl⟩
  | succ j ih =>
    intro hk hd
    obtain ⟨v, hv, ev⟩ := ih (by omega) (fun i hi => hd i (by omega))
    have h2 := hd j (by omega)
    obtain ⟨d, hd2, ed⟩ := nI_of2 (x := f (a + j)) (M := 57) (n := 57) (by decide) (Int32.not_lt.mpr (Int32.le_trans (by decide) h2.1)) h2.2
    have hd3 : 48 ≤ d := by
      by_cases z : 48 ≤ d
      · exact z
      · rw [ed] at h2
        exact absurd h2.1 (nI_ge (b := 48) (by omega) (by omega))
    refine ⟨v * 10 + (d - 48), ?_, ?_⟩
    · have : (10 : Nat) ^ (j + 1) = 10 ^ j * 10 := Nat.pow_succ ..
      omega
    · rw [numV, ev, ed, show (10 : Int32) = nI 10 from rfl, pk_mul, nI_add, show (48 : Int32) = nI 48 from rfl, pk_sub (by omega)]
      congr 1
      omega
theorem tokAt_ok {f : Nat → Int32} {z a : Nat} (h : a < z) : TokOk (tokAt f z a).1 ∧ ¬ (tokAt f z a).1.1 = 0 := by
  unfold tokAt
  split
  · obtain ⟨k1, k2, k3⟩ := kindW_ok (wordAt f a (letE f z (z - a) a))
    exact ⟨⟨fun e => absurd e k2, k3⟩, k1⟩
  · split
    · rename_i hl
      split
      · exact ⟨TokOk_1 a (Or.inr rfl), show ¬ (1 : Int32) = 0 by decide⟩
      · rename_i h4
        refine ⟨⟨fun _ => ?_, fun e => absurd e (show ¬ (2 : Int32) = 3 by decide)⟩, show ¬ (2 : Int32) = 0 by decide⟩
        obtain ⟨v, hv, e⟩ := numV_ok (f := f) (a := a) (digE f z (z - a) a - a) (by omega) (fun i hi => digE_all f z (z - a) a _ (by omega) (by omega))
        have : (10 : Nat) ^ (digE f z (z - a) a - a) ≤ 10 ^ 4 := Nat.pow_le_pow_right (by omega) (by omega)
        exact ⟨v, by omega, e⟩
    · split
      · rename_i hs
        refine ⟨⟨fun e => ?_, fun e => ?_⟩, fun e => ?_⟩
        · have e : f a = 2 := e
          rw [e] at hs
          exact absurd hs (by decide)
        · have e : f a = 3 := e
          rw [e] at hs
          exact absurd hs (by decide)
        · have e : f a = 0 := e
          rw [e] at hs
          exact absurd hs (by decide)
      · exact ⟨TokOk_1 a (Or.inr rfl), show ¬ (1 : Int32) = 0 by decide⟩
theorem tk_cons (t : Tok) (T : List Tok) (k : Nat) : tk (t :: T) (k + 1) = tk T k := by simp [tk]
theorem tk_zero (t : Tok) (T : List Tok) : tk (t :: T) 0 = t := by simp [tk]
theorem Tgood_cons {t : Tok} {T : List Tok} (h : Tgood T) (h1 : TokOk t) : Tgood (t :: T) := by
  obtain ⟨a1, a2, a3⟩ := h
  refine ⟨by simp, fun k hk hn => ?_, fun k hk => ?_⟩
  · cases k with
    | zero => simpa using a1
    | succ k =>
      have hk' : k < T.length := by simpa using hk
      have := a2 k hk' (by unfold ts at hn ⊢; rw [tk_cons] at hn; exact hn)
      simpa using this
  · cases k with
    | zero => rw [tk_zero]; exact h1
    | succ k =>
      rw [tk_cons]
      exact a3 k (by simpa using hk)
theorem tokS_good (f : Nat → Int32) (z : Nat) : ∀ (n a : Nat), z - a ≤ n → Tgood (tokS f z a) ∧ (tokS f z a).length ≤ z - a + 1 := by
  have h0 : Tgood [((0 : Int32), z, (0 : Int32))] := by
    refine ⟨by simp, fun k hk hn => ?_, fun k hk => ?_⟩
    · have : k = 0 := by simpa using hk
      subst this
      exact absurd rfl hn
    · have : k = 0 := by simpa using hk
      subst this
      exact TokOk_1 z (Or.inl rfl)
  intro n
  induction n with
  | zero =>
    intro a h
    rw [tokS_end (by omega)]
    exact ⟨h0, by simp⟩
  | succ n ih =>
    intro a h
    by_cases ha : a < z
    · by_cases hb : isBla (f a)
      · rw [tokS_bla ha hb]
        obtain ⟨i1, i2⟩ := ih (a + 1) (by omega)
        exact ⟨i1, by omega⟩
      · rw [tokS_tok ha hb]
        have he := tokAt_end (f := f) ha
        obtain ⟨i1, i2⟩ := ih (tokAt f z a).2 (by omega)
        exact ⟨Tgood_cons i1 (tokAt_ok ha).1, by simp; omega⟩
    · rw [tokS_end ha]
      exact ⟨h0, by simp⟩
/-- a TEXT: its three programs, or the place of its FAULT -/
def ptE (p : Int32) (T : List Tok) : Nat ⊕ (List Int32 × List Tok) := match T with
  | [] => .inl 0
  | t :: r => if t.1 = p then sy r true true [] [] else .inl t.2.1
def pt (T : List Tok) : Nat ⊕ (List Int32 × List Int32 × List Int32) := match ptE 4 T with
  | .inl x => .inl x
  | .inr (a, T1) => match ptE 5 T1 with
    | .inl x => .inl x
    | .inr (b, T2) => match ptE 6 T2 with
      | .inl x => .inl x
      | .inr (c, T3) => match T3 with
        | [] => .inl 0
        | t :: _ => if t.1 = 0 then .inr (a, b, c) else .inl t.2.1
