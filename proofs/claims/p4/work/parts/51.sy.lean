/-! texts: what tokens spell: signs are held till one that binds less comes -/
abbrev Tok : Type := Int32 × Nat × Int32
def rank (c : Int32) : Nat := if c = 0 then 0 else if c = 11 then 1 else if c = 12 then 2 else if c = 13 then 3 else if c = 14 ∨ c = 15 then 4 else if c = 16 ∨ c = 17 then 5 else if c = 18 then 6 else 7
def unw (r : Nat) (h o : List Int32) : List Int32 × List Int32 := match h with
  | [] => ([], o)
  | c :: t => if r ≤ rank c then unw r t (o ++ [c]) else (c :: t, o)
abbrev isOpn (c : Int32) : Prop := c = 0 ∨ c = 13 ∨ c = 19
def cnt (h : List Int32) : Nat := match h with
  | [] => 0
  | c :: t => cnt t + (if isOpn c then 1 else 0)
def sgn (s : Int32) : Int32 := if s = 7 then 11 else if s = 8 then 12 else if s = 60 then 14 else if s = 61 then 15 else if s = 43 then 16 else if s = 45 then 17 else if s = 42 then 18 else -1
def top (h : List Int32) : Nat := match h with
  | [] => 0
  | c :: _ => rank c
def cod (t : Tok) : Int32 := if t.1 = 2 then 100000 + t.2.2 else t.2.2
def lst (c : Int32) : Nat := if rank c = 4 then 5 else rank c
def sy (T : List Tok) (w m : Bool) (h o : List Int32) : Nat ⊕ (List Int32 × List Tok) := match T with
  | [] => .inl 0
  | t :: ts =>
    if w = true then
      if t.1 = 2 ∨ t.1 = 3 then sy ts false false (unw 7 h (o ++ [cod t])).1 (unw 7 h (o ++ [cod t])).2 else
      if t.1 = 9 ∧ m = true then (if cnt h < 5 then sy ts true true (13 :: h) o else .inl t.2.1) else
      if t.1 = 45 then (if cnt h < 5 then sy ts true false (19 :: h) o else .inl t.2.1) else
      if t.1 = 40 then (if cnt h < 5 then sy ts true true (0 :: h) o else .inl t.2.1) else .inl t.2.1
    else
      if t.1 = 59 then (if (unw 1 h o).1 = [] then .inr ((unw 1 h o).2, ts) else .inl t.2.1) else
      if t.1 = 41 then (if (unw 1 h o).1 = [] then .inl t.2.1 else sy ts false false (unw 7 (unw 1 h o).1.tail (unw 1 h o).2).1 (unw 7 (unw 1 h o).1.tail (unw 1 h o).2).2) else
      if sgn t.1 = -1 then .inl t.2.1 else
      if rank (sgn t.1) = 4 ∧ top (unw 5 h o).1 = 4 then .inl t.2.1 else
      sy ts true (decide (sgn t.1 ≤ 12)) (sgn t.1 :: (unw (lst (sgn t.1)) h o).1) (unw (lst (sgn t.1)) h o).2
theorem unw_stop {r : Nat} {h o : List Int32} (hr : top h < r) : unw r h o = (h, o) := by
  cases h with
  | nil => rfl
  | cons c t =>
    have : rank c < r := hr
    rw [unw, if_neg (by omega)]
theorem unw_pop {r : Nat} {c : Int32} {h o : List Int32} (hr : r ≤ rank c) : unw r (c :: h) o = unw r h (o ++ [c]) := by
  rw [unw, if_pos hr]
/-- what the next token would let go is let go now -/
theorem sy_pop {t : Tok} {ts : List Tok} {c : Int32} {h o : List Int32} (h1 : 1 ≤ rank c) (h2 : ¬ sgn t.1 = -1 → lst (sgn t.1) ≤ rank c) : sy (t :: ts) false false (c :: h) o = sy (t :: ts) false false h (o ++ [c]) := by
  rw [sy, sy]
  simp only [Bool.false_eq_true, if_false]
  rw [unw_pop (o := o) h1]
  by_cases e1 : t.1 = 59
  · simp only [e1, if_true]
  · simp only [e1, if_false]
    by_cases e2 : t.1 = 41
    · simp only [e2, if_true]
    · simp only [e2, if_false]
      by_cases e3 : sgn t.1 = -1
      · simp only [e3, if_true]
      · simp only [e3, if_false]
        have h3 := h2 e3
        rw [unw_pop (o := o) h3]
        by_cases e4 : rank (sgn t.1) = 4
        · have h5 : 5 ≤ rank c := by
            unfold lst at h3
            rw [if_pos e4] at h3
            exact h3
          rw [unw_pop (o := o) h5]
        · simp only [e4, false_and, if_false]
theorem sy_lit {t : Tok} {ts : List Tok} {m : Bool} {h o : List Int32} (ht : t.1 = 2 ∨ t.1 = 3) : sy (t :: ts) true m h o = sy ts false false (unw 7 h (o ++ [cod t])).1 (unw 7 h (o ++ [cod t])).2 := by
  rw [sy, if_pos rfl, if_pos ht]
theorem sy_not {t : Tok} {ts : List Tok} {h o : List Int32} (ht : t.1 = 9) : sy (t :: ts) true true h o = if cnt h < 5 then sy ts true true (13 :: h) o else .inl t.2.1 := by
  rw [sy, if_pos rfl, if_neg (by rw [ht]; decide), if_pos ⟨ht, rfl⟩]
theorem sy_mn {t : Tok} {ts : List Tok} {h o : List Int32} (ht : ¬ t.1 = 9) : sy (t :: ts) true true h o = sy (t :: ts) true false h o := by
  rw [sy, sy, if_pos rfl, if_pos rfl, if_neg (c := t.1 = 9 ∧ true = true) (fun z => ht z.1), if_neg (c := t.1 = 9 ∧ false = true) (fun z => ht z.1)]
theorem sy_neg {t : Tok} {ts : List Tok} {m : Bool} {h o : List Int32} (ht : t.1 = 45) : sy (t :: ts) true m h o = if cnt h < 5 then sy ts true false (19 :: h) o else .inl t.2.1 := by
  rw [sy, if_pos rfl, if_neg (by rw [ht]; decide), if_neg (by rw [ht]; exact fun z => absurd z.1 (by decide)), if_pos ht]
theorem sy_par {t : Tok} {ts : List Tok} {m : Bool} {h o : List Int32} (ht : t.1 = 40) : sy (t :: ts) true m h o = if cnt h < 5 then sy ts true true (0 :: h) o else .inl t.2.1 := by
  rw [sy, if_pos rfl, if_neg (by rw [ht]; decide), if_neg (by rw [ht]; exact fun z => absurd z.1 (by decide)), if_neg (by rw [ht]; decide), if_pos ht]
theorem sy_bad {t : Tok} {ts : List Tok} {h o : List Int32} (h1 : ¬ t.1 = 2) (h2 : ¬ t.1 = 3) (h3 : ¬ t.1 = 45) (h4 : ¬ t.1 = 40) : sy (t :: ts) true false h o = .inl t.2.1 := by
  rw [sy, if_pos rfl, if_neg (fun z => z.elim h1 h2), if_neg (fun z => absurd z.2 (by decide)), if_neg h3, if_neg h4]
theorem sy_end {t : Tok} {ts : List Tok} {h o : List Int32} (ht : t.1 = 59) : sy (t :: ts) false false h o = if (unw 1 h o).1 = [] then .inr ((unw 1 h o).2, ts) else .inl t.2.1 := by
  rw [sy, if_neg (by decide), if_pos ht]
theorem sy_cls {t : Tok} {ts : List Tok} {h o : List Int32} (ht : t.1 = 41) : sy (t :: ts) false false h o = if (unw 1 h o).1 = [] then .inl t.2.1 else sy ts false false (unw 7 (unw 1 h o).1.tail (unw 1 h o).2).1 (unw 7 (unw 1 h o).1.tail (unw 1 h o).2).2 := by
  rw [sy, if_neg (by decide), if_neg (by rw [ht]; decide), if_pos ht]
theorem sy_oth {t : Tok} {ts : List Tok} {h o : List Int32} (h1 : ¬ t.1 = 59) (h2 : ¬ t.1 = 41) (h3 : sgn t.1 = -1) : sy (t :: ts) false false h o = .inl t.2.1 := by
  rw [sy, if_neg (by decide), if_neg h1, if_neg h2, if_pos h3]
theorem sgn_ne {s : Int32} (h : ¬ sgn s = -1) : s = 7 ∨ s = 8 ∨ s = 60 ∨ s = 61 ∨ s = 43 ∨ s = 45 ∨ s = 42 := by
  refine Classical.byContradiction fun z => h ?_
  simp only [not_or] at z
  obtain ⟨z1, z2, z3, z4, z5, z6, z7⟩ := z
  unfold sgn
  rw [if_neg z1, if_neg z2, if_neg z3, if_neg z4, if_neg z5, if_neg z6, if_neg z7]
/-- a sign between two, where no sign that binds as much is held -/
theorem sy_sgn {t : Tok} {ts : List Tok} {h o : List Int32} (h3 : ¬ sgn t.1 = -1) (ht : top h < lst (sgn t.1)) (h4 : rank (sgn t.1) = 4 → ¬ top h = 4) : sy (t :: ts) false false h o = sy ts true (decide (sgn t.1 ≤ 12)) (sgn t.1 :: h) o := by
  have hs := sgn_ne h3
  have h1 : ¬ t.1 = 59 := fun z => by rw [z] at hs; revert hs; decide
  have h2 : ¬ t.1 = 41 := fun z => by rw [z] at hs; revert hs; decide
  have h5 : ¬ (rank (sgn t.1) = 4 ∧ top (unw 5 h o).1 = 4) := by
    rintro ⟨e1, e2⟩
    unfold lst at ht
    rw [if_pos e1] at ht
    rw [unw_stop ht] at e2
    exact h4 e1 e2
  rw [sy, if_neg (by decide), if_neg h1, if_neg h2, if_neg h3, if_neg h5, unw_stop ht]
/-- a second comparison -/
theorem sy_cmp2 {t : Tok} {ts : List Tok} {h o : List Int32} (ht : t.1 = 60 ∨ t.1 = 61) (h4 : top h = 4) : sy (t :: ts) false false h o = .inl t.2.1 := by
  have e : rank (sgn t.1) = 4 ∧ ¬ t.1 = 59 ∧ ¬ t.1 = 41 ∧ ¬ sgn t.1 = -1 := by
    rcases ht with e | e <;> rw [e] <;> decide
  obtain ⟨e1, e2, e3, e4⟩ := e
  rw [sy, if_neg (by decide), if_neg e2, if_neg e3, if_neg e4, if_pos ⟨e1, by rw [unw_stop (by omega)]; exact h4⟩]
/-! levels: how what is read down agrees with what is held -/
def tk (T : List Tok) (k : Nat) : Tok := T.getD k (0, 0, 0)
def ts (T : List Tok) (k : Nat) : Int32 := (tk T k).1
def tp (T : List Tok) (k : Nat) : Nat := (tk T k).2.1
theorem drop_tk {T : List Tok} {k : Nat} (h : k < T.length) : T.drop k = tk T k :: T.drop (k + 1) := by
  rw [List.drop_eq_getElem_cons h]
  congr 1
  unfold tk
  rw [List.getD_eq_getElem?_getD, List.getElem?_eq_getElem h]
  rfl
abbrev joinsP (l : Nat) (s : Int32) : Prop := (l = 0 ∧ s = 7) ∨ (l = 1 ∧ s = 8) ∨ (l = 3 ∧ (s = 43 ∨ s = 45)) ∨ (l = 4 ∧ s = 42)
abbrev excP (l : Nat) (s : Int32) : Prop := (l ≤ 0 ∧ s = 7) ∨ (l ≤ 1 ∧ s = 8) ∨ (l ≤ 3 ∧ (s = 43 ∨ s = 45)) ∨ (l ≤ 4 ∧ s = 42)
def ctx (l : Nat) : Nat := match l with
  | 0 => 1 | 1 => 2 | 2 => 4 | 3 => 5 | 4 => 6 | _ => 7
abbrev cmpP (s : Int32) : Prop := s = 60 ∨ s = 61
def wfC (C : List Int32) : Prop := ∀ (r : List Int32) (x : Nat), wfR (C ++ r) x = wfR r (x + 1)
def LevEq (T : List Tok) (l op i j : Nat) (C : List Int32) (b : Prop) [Decidable b] : Prop :=
  ∀ h o, cnt h = op → top h < ctx l → sy (T.drop i) true (decide (l ≤ 2)) h o = if b ∧ cmpP (ts T j) then .inl (tp T j) else sy (T.drop j) false false h (o ++ C)
def LevOk (T : List Tok) (l op i j : Nat) (C : List Int32) : Prop := i + C.length ≤ j ∧ j < T.length ∧ ¬ excP l (ts T j) ∧ wfC C ∧ LevEq T l op i j C (l ≤ 2)
def LevNo (T : List Tok) (l op i j : Nat) : Prop := i ≤ j ∧ j < T.length ∧ ∀ h o, cnt h = op → top h < ctx l → sy (T.drop i) true (decide (l ≤ 2)) h o = .inl (tp T j)
def BinIn (T : List Tok) (l op i j : Nat) (C : List Int32) : Prop := i + C.length ≤ j ∧ j < T.length ∧ ¬ excP (l + 1) (ts T j) ∧ wfC C ∧ LevEq T l op i j C (l ≤ 2)
def OneOk (T : List Tok) (op i j : Nat) (C : List Int32) : Prop := i + C.length ≤ j ∧ j < T.length ∧ wfC C ∧ ∀ h o, cnt h = op → sy (T.drop i) true false h o = sy (T.drop j) false false (unw 7 h (o ++ C)).1 (unw 7 h (o ++ C)).2
def OneNo (T : List Tok) (op i j : Nat) : Prop := i ≤ j ∧ j < T.length ∧ ∀ h o, cnt h = op → sy (T.drop i) true false h o = .inl (tp T j)
abbrev isBin (l : Nat) : Prop := l = 0 ∨ l = 1 ∨ l = 3 ∨ l = 4
theorem wfC_one {C : List Int32} {c : Int32} (h : wfC C) (hc : c = 13 ∨ c = 19) : wfC (C ++ [c]) := by
  intro r x
  rw [List.append_assoc, h]
  rcases hc with rfl | rfl <;> simp [wfR]
theorem wfC_two {C D : List Int32} {c : Int32} (h : wfC C) (h2 : wfC D) (hc : c = 11 ∨ c = 12 ∨ (14 ≤ c ∧ c ≤ 18)) : wfC (C ++ D ++ [c]) := by
  intro r x
  rw [List.append_assoc, List.append_assoc, h, h2]
  show wfR (c :: r) (x + 1 + 1) = _
  have n1 : ¬ ((100000 ≤ c ∧ c < 110000) ∨ (0 ≤ c ∧ c < 6)) := by
    rintro (z | z)
    · rcases hc with rfl | rfl | hc
      · exact absurd z.1 (by decide)
      · exact absurd z.1 (by decide)
      · exact absurd (Int32.le_trans z.1 hc.2) (by decide)
    · rcases hc with rfl | rfl | hc
      · exact absurd z.2 (by decide)
      · exact absurd z.2 (by decide)
      · exact absurd (Int32.lt_of_le_of_lt hc.1 z.2) (by decide)
  have n2 : ¬ (c = 13 ∨ c = 19) := by
    rintro (rfl | rfl) <;> rcases hc with hc | hc | hc <;> first | (exact absurd hc (by decide)) | (exact absurd hc.1 (by decide)) | (exact absurd hc.2 (by decide))
  rw [wfR, if_neg n1, if_neg n2, if_pos hc, if_pos (by omega)]
  rfl
theorem joins_facts {l : Nat} {s : Int32} (h : joinsP l s) : ¬ sgn s = -1 ∧ ¬ rank (sgn s) = 4 ∧ lst (sgn s) = ctx l ∧ rank (sgn s) = ctx l ∧ ctx l < ctx (l + 1) ∧ decide (sgn s ≤ 12) = decide (l + 1 ≤ 2) ∧ ¬ isOpn (sgn s) ∧ ¬ cmpP s ∧ (sgn s = 11 ∨ sgn s = 12 ∨ (14 ≤ sgn s ∧ sgn s ≤ 18)) := by
  rcases h with ⟨rfl, rfl⟩ | ⟨rfl, rfl⟩ | ⟨rfl, rfl | rfl⟩ | ⟨rfl, rfl⟩ <;> decide
theorem ctx_le {l : Nat} : ctx l ≤ ctx (l + 1) := by
  unfold ctx
  split <;> split <;> first | omega | simp_all
theorem bin_le {l : Nat} (h : isBin l) : decide (l ≤ 2) = decide (l + 1 ≤ 2) := by
  rcases h with rfl | rfl | rfl | rfl <;> rfl
theorem bin_init {T : List Tok} {l op i j : Nat} {C : List Int32} (hl : isBin l) (h : LevOk T (l + 1) op i j C) : BinIn T l op i j C := by
  obtain ⟨a1, a2, a3, a4, a5⟩ := h
  refine ⟨a1, a2, a3, a4, fun h o hc ht => ?_⟩
  rw [bin_le hl, a5 h o hc (Nat.lt_of_lt_of_le ht ctx_le)]
  have e : (l + 1 ≤ 2) ↔ l ≤ 2 := by rcases hl with rfl | rfl | rfl | rfl <;> decide
  by_cases z : l ≤ 2
  · simp [z, e.mpr z]
  · simp [z]
    intro y
    omega
theorem bin_done {T : List Tok} {l op i j : Nat} {C : List Int32} (hl : isBin l) (h : BinIn T l op i j C) (hj : ¬ joinsP l (ts T j)) : LevOk T l op i j C := by
  obtain ⟨a1, a2, a3, a4, a5⟩ := h
  refine ⟨a1, a2, fun z => ?_, a4, a5⟩
  rcases z with ⟨z1, z2⟩ | ⟨z1, z2⟩ | ⟨z1, z2⟩ | ⟨z1, z2⟩
  · exact hj (Or.inl ⟨by omega, z2⟩)
  · by_cases e : l = 1
    · exact hj (Or.inr (Or.inl ⟨e, z2⟩))
    · exact a3 (Or.inr (Or.inl ⟨by omega, z2⟩))
  · by_cases e : l = 3
    · exact hj (Or.inr (Or.inr (Or.inl ⟨e, z2⟩)))
    · exact a3 (Or.inr (Or.inr (Or.inl ⟨by omega, z2⟩)))
  · by_cases e : l = 4
    · exact hj (Or.inr (Or.inr (Or.inr ⟨e, z2⟩)))
    · exact a3 (Or.inr (Or.inr (Or.inr ⟨by omega, z2⟩)))
theorem cnt_c {c : Int32} {h : List Int32} (hc : ¬ isOpn c) : cnt (c :: h) = cnt h := by
  rw [cnt, if_neg hc]
  rfl
theorem cnt_o {c : Int32} {h : List Int32} (hc : isOpn c) : cnt (c :: h) = cnt h + 1 := by
  rw [cnt, if_pos hc]
/-- the token at which a sign that a level joins was read goes on with the level above -/
theorem bin_go {T : List Tok} {l op i j : Nat} {C : List Int32} (h : BinIn T l op i j C) (hj : joinsP l (ts T j)) {hh o : List Int32} (hc : cnt hh = op) (ht : top hh < ctx l) :
    sy (T.drop i) true (decide (l ≤ 2)) hh o = sy (T.drop (j + 1)) true (decide (l + 1 ≤ 2)) (sgn (ts T j) :: hh) (o ++ C) := by
  obtain ⟨a1, a2, a3, a4, a5⟩ := h
  obtain ⟨f1, f2, f3, f4, f5, f6, f7, f8, f9⟩ := joins_facts hj
  rw [a5 hh o hc ht, if_neg (fun z => f8 z.2), drop_tk a2]
  rw [sy_sgn (t := tk T j) f1 (by show _ < lst (sgn (ts T j)); rw [f3]; exact ht) (fun z => absurd z f2)]
  show sy _ true (decide (sgn (ts T j) ≤ 12)) _ _ = _
  rw [f6]
  rfl
theorem pop_ok {l : Nat} {s : Int32} {c : Int32} (hl : isBin l) (hr : rank c = ctx l) (he : ¬ excP (l + 1) s) (hb : ¬ (l + 1 ≤ 2 ∧ cmpP s)) : ¬ sgn s = -1 → lst (sgn s) ≤ rank c := by
  intro h
  rw [hr]
  have hs := sgn_ne h
  rcases hs with rfl | rfl | rfl | rfl | rfl | rfl | rfl <;> rcases hl with rfl | rfl | rfl | rfl <;> first | (exact Nat.le_of_ble_eq_true rfl) | (exact absurd (by decide) he) | (exact absurd (by decide) hb)
theorem bin_step {T : List Tok} {l op i j j2 : Nat} {C D : List Int32} (hl : isBin l) (h : BinIn T l op i j C) (hj : joinsP l (ts T j)) (h2 : LevOk T (l + 1) op (j + 1) j2 D) : BinIn T l op i j2 (C ++ D ++ [sgn (ts T j)]) := by
  have hb := h
  obtain ⟨a1, a2, a3, a4, a5⟩ := h
  obtain ⟨b1, b2, b3, b4, b5⟩ := h2
  obtain ⟨f1, f2, f3, f4, f5, f6, f7, f8, f9⟩ := joins_facts hj
  refine ⟨by simp; omega, b2, b3, wfC_two a4 b4 f9, fun hh o hc ht => ?_⟩
  rw [bin_go hb hj hc ht, b5 _ _ (by rw [cnt_c f7]; exact hc) (by show rank _ < _; rw [f4]; exact f5)]
  by_cases z : l + 1 ≤ 2 ∧ cmpP (ts T j2)
  · rw [if_pos z, if_pos ⟨by omega, z.2⟩]
  · rw [if_neg z]
    have z2 : ¬ (l ≤ 2 ∧ cmpP (ts T j2)) := fun y => z ⟨by rcases hl with rfl | rfl | rfl | rfl <;> omega, y.2⟩
    have hr1 : 1 ≤ ctx l := by rcases hl with rfl | rfl | rfl | rfl <;> decide
    rw [if_neg z2, drop_tk b2, sy_pop (t := tk T j2) (by rw [f4]; exact hr1) (pop_ok hl f4 b3 z)]
    rw [← List.append_assoc, ← List.append_assoc]
theorem bin_fail {T : List Tok} {l op i j j2 : Nat} {C : List Int32} (hl : isBin l) (h : BinIn T l op i j C) (hj : joinsP l (ts T j)) (h2 : LevNo T (l + 1) op (j + 1) j2) : LevNo T l op i j2 := by
  have hb := h
  obtain ⟨a1, a2, a3, a4, a5⟩ := h
  obtain ⟨b1, b2, b5⟩ := h2
  obtain ⟨f1, f2, f3, f4, f5, f6, f7, f8, f9⟩ := joins_facts hj
  refine ⟨by omega, b2, fun hh o hc ht => ?_⟩
  rw [bin_go hb hj hc ht, b5 _ _ (by rw [cnt_c f7]; exact hc) (by show rank _ < _; rw [f4]; exact f5)]
theorem bin_no {T : List Tok} {l op i j : Nat} (hl : isBin l) (h : LevNo T (l + 1) op i j) : LevNo T l op i j := by
  obtain ⟨a1, a2, a3⟩ := h
  refine ⟨a1, a2, fun hh o hc ht => ?_⟩
  rw [bin_le hl, a3 hh o hc (Nat.lt_of_lt_of_le ht ctx_le)]
theorem one_lev {T : List Tok} {op i j : Nat} {C : List Int32} (h : OneOk T op i j C) : LevOk T 5 op i j C := by
  obtain ⟨a1, a2, a4, a5⟩ := h
  refine ⟨a1, a2, by rintro (z | z | z | z) <;> omega, a4, fun hh o hc ht => ?_⟩
  rw [if_neg (fun z => absurd z.1 (by decide)), show decide (5 ≤ 2) = false from rfl, a5 hh o hc, unw_stop (r := 7) ht]
theorem one_levN {T : List Tok} {op i j : Nat} (h : OneNo T op i j) : LevNo T 5 op i j := by
  obtain ⟨a1, a2, a3⟩ := h
  exact ⟨a1, a2, fun hh o hc _ => a3 hh o hc⟩
/-! not, comparisons -/
theorem not_ok {T : List Tok} {op i j : Nat} {C : List Int32} (hi : i < T.length) (h9 : ts T i = 9) (h5 : op < 5) (h : LevOk T 2 (op + 1) (i + 1) j C) : LevOk T 2 op i j (C ++ [13]) := by
  obtain ⟨a1, a2, a3, a4, a5⟩ := h
  refine ⟨by simp; omega, a2, a3, wfC_one a4 (Or.inl rfl), fun hh o hc ht => ?_⟩
  have e := a5 (13 :: hh) o (by rw [cnt_o (by decide)]; omega) (by show rank 13 < ctx 2; decide)
  rw [show decide (2 ≤ 2) = true from rfl] at e ⊢
  rw [drop_tk hi, sy_not h9, if_pos (by omega), e]
  by_cases z : cmpP (ts T j)
  · rw [if_pos ⟨by omega, z⟩, if_pos ⟨by omega, z⟩]
  · rw [if_neg (fun y => z y.2), if_neg (fun y => z y.2), drop_tk a2, sy_pop (t := tk T j) (by decide), List.append_assoc]
    intro hs
    rcases sgn_ne hs with e | e | e | e | e | e | e
    · rw [e]; decide
    · rw [e]; decide
    · exact absurd (Or.inl e) z
    · exact absurd (Or.inr e) z
    · exact absurd (Or.inr (Or.inr (Or.inl ⟨by omega, Or.inl e⟩))) a3
    · exact absurd (Or.inr (Or.inr (Or.inl ⟨by omega, Or.inr e⟩))) a3
    · exact absurd (Or.inr (Or.inr (Or.inr ⟨by omega, e⟩))) a3
theorem not_no {T : List Tok} {op i j : Nat} (hi : i < T.length) (h9 : ts T i = 9) (h5 : op < 5) (h : LevNo T 2 (op + 1) (i + 1) j) : LevNo T 2 op i j := by
  obtain ⟨a1, a2, a5⟩ := h
  refine ⟨by omega, a2, fun hh o hc ht => ?_⟩
  have e := a5 (13 :: hh) o (by rw [cnt_o (by decide)]; omega) (by show rank 13 < ctx 2; decide)
  rw [show decide (2 ≤ 2) = true from rfl] at e ⊢
  rw [drop_tk hi, sy_not h9, if_pos (by omega), e]
theorem not_full {T : List Tok} {i : Nat} {op : Nat} (hi : i < T.length) (h9 : ts T i = 9) (h5 : ¬ op < 5) : LevNo T 2 op i i := by
  refine ⟨Nat.le_refl _, hi, fun hh o hc ht => ?_⟩
  rw [show decide (2 ≤ 2) = true from rfl, drop_tk hi, sy_not h9, if_neg (by omega)]
  rfl
theorem sum_only {T : List Tok} {op i j : Nat} {C : List Int32} (hi : i < T.length) (h9 : ¬ ts T i = 9) (h : LevOk T 3 op i j C) (hj : ¬ cmpP (ts T j)) : LevOk T 2 op i j C := by
  obtain ⟨a1, a2, a3, a4, a5⟩ := h
  refine ⟨a1, a2, fun z => a3 ?_, a4, fun hh o hc ht => ?_⟩
  · rcases z with ⟨z1, z2⟩ | ⟨z1, z2⟩ | ⟨z1, z2⟩ | ⟨z1, z2⟩
    · omega
    · omega
    · exact Or.inr (Or.inr (Or.inl ⟨by omega, z2⟩))
    · exact Or.inr (Or.inr (Or.inr ⟨by omega, z2⟩))
  · have e := a5 hh o hc (Nat.lt_of_lt_of_le ht (by decide))
    rw [show decide (3 ≤ 2) = false from rfl, if_neg (fun z => absurd z.1 (by decide))] at e
    rw [show decide (2 ≤ 2) = true from rfl, if_neg (fun z => hj z.2), ← e, drop_tk hi, sy_mn h9]
theorem sum_no {T : List Tok} {op i j : Nat} (hi : i < T.length) (h9 : ¬ ts T i = 9) (h : LevNo T 3 op i j) : LevNo T 2 op i j := by
  obtain ⟨a1, a2, a5⟩ := h
  refine ⟨a1, a2, fun hh o hc ht => ?_⟩
  have e := a5 hh o hc (Nat.lt_of_lt_of_le ht (by decide))
  rw [show decide (3 ≤ 2) = false from rfl] at e
  rw [show decide (2 ≤ 2) = true from rfl, ← e, drop_tk hi, sy_mn h9]
theorem cmp_go {T : List Tok} {op i j : Nat} {C : List Int32} (hi : i < T.length) (h9 : ¬ ts T i = 9) (h : LevOk T 3 op i j C) (hj : cmpP (ts T j)) {hh o : List Int32} (hc : cnt hh = op) (ht : top hh < ctx 2) :
    sy (T.drop i) true true hh o = sy (T.drop (j + 1)) true false (sgn (ts T j) :: hh) (o ++ C) := by
  obtain ⟨a1, a2, a3, a4, a5⟩ := h
  have e := a5 hh o hc (Nat.lt_of_lt_of_le ht (by decide))
  rw [show decide (3 ≤ 2) = false from rfl, if_neg (fun z => absurd z.1 (by decide))] at e
  have f : ¬ sgn (ts T j) = -1 ∧ lst (sgn (ts T j)) = 5 ∧ decide (sgn (ts T j) ≤ 12) = false := by
    rcases hj with z | z <;> rw [z] <;> decide
  obtain ⟨f1, f2, f3⟩ := f
  have ht4 : top hh < 4 := ht
  rw [drop_tk hi, sy_mn h9, ← drop_tk hi, e, drop_tk a2, sy_sgn (t := tk T j) f1 (by show _ < lst (sgn (ts T j)); rw [f2]; omega) (fun _ => by omega)]
  show sy _ true (decide (sgn (ts T j) ≤ 12)) _ _ = _
  rw [f3]
  rfl
theorem cmp_ok {T : List Tok} {op i j j2 : Nat} {C D : List Int32} (hi : i < T.length) (h9 : ¬ ts T i = 9) (h : LevOk T 3 op i j C) (hj : cmpP (ts T j)) (h2 : LevOk T 3 op (j + 1) j2 D) : LevOk T 2 op i j2 (C ++ D ++ [sgn (ts T j)]) := by
  have hb := h
  obtain ⟨a1, a2, a3, a4, a5⟩ := h
  obtain ⟨b1, b2, b3, b4, b5⟩ := h2
  have f : rank (sgn (ts T j)) = 4 ∧ ¬ isOpn (sgn (ts T j)) ∧ (sgn (ts T j) = 11 ∨ sgn (ts T j) = 12 ∨ (14 ≤ sgn (ts T j) ∧ sgn (ts T j) ≤ 18)) := by
    rcases hj with z | z <;> rw [z] <;> decide
  obtain ⟨f1, f2, f3⟩ := f
  refine ⟨by simp; omega, b2, fun z => b3 ?_, wfC_two a4 b4 f3, fun hh o hc ht => ?_⟩
  · rcases z with ⟨z1, z2⟩ | ⟨z1, z2⟩ | ⟨z1, z2⟩ | ⟨z1, z2⟩
    · omega
    · omega
    · exact Or.inr (Or.inr (Or.inl ⟨by omega, z2⟩))
    · exact Or.inr (Or.inr (Or.inr ⟨by omega, z2⟩))
  · have e := b5 (sgn (ts T j) :: hh) (o ++ C) (by rw [cnt_c f2]; exact hc) (by show rank _ < ctx 3; rw [f1]; decide)
    rw [show decide (3 ≤ 2) = false from rfl, if_neg (fun z => absurd z.1 (by decide))] at e
    rw [show decide (2 ≤ 2) = true from rfl, cmp_go hi h9 hb hj hc ht, e, drop_tk b2]
    by_cases z : cmpP (ts T j2)
    · rw [if_pos ⟨by omega, z⟩, sy_cmp2 (t := tk T j2) (h := sgn (ts T j) :: hh) z f1]
      rfl
    · rw [if_neg (fun y => z y.2), sy_pop (t := tk T j2) (by rw [f1]; decide), ← List.append_assoc, ← List.append_assoc]
      intro hs
      rw [f1]
      rcases sgn_ne hs with e | e | e | e | e | e | e
      · rw [e]; decide
      · rw [e]; decide
      · exact absurd (Or.inl e) z
      · exact absurd (Or.inr e) z
      · exact absurd (Or.inr (Or.inr (Or.inl ⟨by omega, Or.inl e⟩))) b3
      · exact absurd (Or.inr (Or.inr (Or.inl ⟨by omega, Or.inr e⟩))) b3
      · exact absurd (Or.inr (Or.inr (Or.inr ⟨by omega, e⟩))) b3
theorem cmp_no {T : List Tok} {op i j j2 : Nat} {C : List Int32} (hi : i < T.length) (h9 : ¬ ts T i = 9) (h : LevOk T 3 op i j C) (hj : cmpP (ts T j)) (h2 : LevNo T 3 op (j + 1) j2) : LevNo T 2 op i j2 := by
  have hb := h
  obtain ⟨a1, a2, a3, a4, a5⟩ := h
  obtain ⟨b1, b2, b5⟩ := h2
  have f : rank (sgn (ts T j)) = 4 ∧ ¬ isOpn (sgn (ts T j)) := by
    rcases hj with z | z <;> rw [z] <;> decide
  obtain ⟨f1, f2⟩ := f
  refine ⟨by omega, b2, fun hh o hc ht => ?_⟩
  have e := b5 (sgn (ts T j) :: hh) (o ++ C) (by rw [cnt_c f2]; exact hc) (by show rank _ < ctx 3; rw [f1]; decide)
  rw [show decide (3 ≤ 2) = false from rfl] at e
  rw [show decide (2 ≤ 2) = true from rfl, cmp_go hi h9 hb hj hc ht, e]
/-! ONE -/
theorem one_lit {T : List Tok} {op i : Nat} (hi : i + 1 < T.length) (h : ts T i = 2 ∨ ts T i = 3) (hw : wfC [cod (tk T i)]) : OneOk T op i (i + 1) [cod (tk T i)] := by
  refine ⟨by simp, hi, hw, fun hh o _ => ?_⟩
  rw [drop_tk (by omega), sy_lit h]
theorem neg_ok {T : List Tok} {op i j : Nat} {C : List Int32} (hi : i < T.length) (h1 : ts T i = 45) (h5 : op < 5) (h : OneOk T (op + 1) (i + 1) j C) : OneOk T op i j (C ++ [19]) := by
  obtain ⟨a1, a2, a4, a5⟩ := h
  refine ⟨by simp; omega, a2, wfC_one a4 (Or.inr rfl), fun hh o hc => ?_⟩
  rw [drop_tk hi, sy_neg h1, if_pos (by omega), a5 _ _ (by rw [cnt_o (by decide)]; omega), unw_pop (by decide), List.append_assoc]
theorem neg_no {T : List Tok} {op i j : Nat} (hi : i < T.length) (h1 : ts T i = 45) (h5 : op < 5) (h : OneNo T (op + 1) (i + 1) j) : OneNo T op i j := by
  obtain ⟨a1, a2, a5⟩ := h
  refine ⟨by omega, a2, fun hh o hc => ?_⟩
  rw [drop_tk hi, sy_neg h1, if_pos (by omega), a5 _ _ (by rw [cnt_o (by decide)]; omega)]
theorem neg_full {T : List Tok} {op i : Nat} (hi : i < T.length) (h1 : ts T i = 45) (h5 : ¬ op < 5) : OneNo T op i i := by
  refine ⟨Nat.le_refl _, hi, fun hh o hc => ?_⟩
  rw [drop_tk hi, sy_neg h1, if_neg (by omega)]
  rfl
theorem par_eq {T : List Tok} {op i j : Nat} {C : List Int32} (hi : i < T.length) (h1 : ts T i = 40) (h5 : op < 5) (h : LevOk T 0 (op + 1) (i + 1) j C) {hh o : List Int32} (hc : cnt hh = op) :
    sy (T.drop i) true false hh o = if ts T j = 41 then sy (T.drop (j + 1)) false false (unw 7 hh (o ++ C)).1 (unw 7 hh (o ++ C)).2 else .inl (tp T j) := by
  obtain ⟨a1, a2, a3, a4, a5⟩ := h
  have e := a5 (0 :: hh) o (by rw [cnt_o (by decide)]; omega) (by show rank 0 < ctx 0; decide)
  rw [show decide (0 ≤ 2) = true from rfl] at e
  rw [drop_tk hi, sy_par h1, if_pos (by omega), e]
  have u : unw 1 (0 :: hh) (o ++ C) = (0 :: hh, o ++ C) := unw_stop (by show rank 0 < 1; decide)
  by_cases z : cmpP (ts T j)
  · rw [if_pos ⟨by omega, z⟩, if_neg (fun y => by rw [y] at z; revert z; decide)]
  · rw [if_neg (fun y => z y.2), drop_tk a2]
    by_cases y : ts T j = 41
    · rw [if_pos y, sy_cls (t := tk T j) y, u, if_neg (by simp)]
      rfl
    · rw [if_neg y]
      by_cases w : ts T j = 59
      · rw [sy_end (t := tk T j) w, u, if_neg (by simp)]
        rfl
      · by_cases v : sgn (ts T j) = -1
        · rw [sy_oth (t := tk T j) w y v]
          rfl
        · exfalso
          rcases sgn_ne v with e | e | e | e | e | e | e
          · exact a3 (Or.inl ⟨by omega, e⟩)
          · exact a3 (Or.inr (Or.inl ⟨by omega, e⟩))
          · exact absurd (Or.inl e) z
          · exact absurd (Or.inr e) z
          · exact absurd (Or.inr (Or.inr (Or.inl ⟨by omega, Or.inl e⟩))) a3
          · exact absurd (Or.inr (Or.inr (Or.inl ⟨by omega, Or.inr e⟩))) a3
          · exact absurd (Or.inr (Or.inr (Or.inr ⟨by omega, e⟩))) a3
theorem par_ok {T : List Tok} {op i j : Nat} {C : List Int32} (hi : i < T.length) (h1 : ts T i = 40) (h5 : op < 5) (h : LevOk T 0 (op + 1) (i + 1) j C) (hj : ts T j = 41) (hj2 : j + 1 < T.length) : OneOk T op i (j + 1) C :=
  ⟨by have := h.1; omega, hj2, h.2.2.2.1, fun hh o hc => by rw [par_eq hi h1 h5 h hc, if_pos hj]⟩
theorem par_no {T : List Tok} {op i j : Nat} {C : List Int32} (hi : i < T.length) (h1 : ts T i = 40) (h5 : op < 5) (h : LevOk T 0 (op + 1) (i + 1) j C) (hj : ¬ ts T j = 41) : OneNo T op i j :=
  ⟨by have := h.1; omega, h.2.1, fun hh o hc => by rw [par_eq hi h1 h5 h hc, if_neg hj]⟩
theorem par_no2 {T : List Tok} {op i j : Nat} (hi : i < T.length) (h1 : ts T i = 40) (h5 : op < 5) (h : LevNo T 0 (op + 1) (i + 1) j) : OneNo T op i j := by
  obtain ⟨a1, a2, a5⟩ := h
  refine ⟨by omega, a2, fun hh o hc => ?_⟩
  have e := a5 (0 :: hh) o (by rw [cnt_o (by decide)]; omega) (by show rank 0 < ctx 0; decide)
  rw [show decide (0 ≤ 2) = true from rfl] at e
  rw [drop_tk hi, sy_par h1, if_pos (by omega), e]
theorem par_full {T : List Tok} {op i : Nat} (hi : i < T.length) (h1 : ts T i = 40) (h5 : ¬ op < 5) : OneNo T op i i := by
  refine ⟨Nat.le_refl _, hi, fun hh o hc => ?_⟩
  rw [drop_tk hi, sy_par h1, if_neg (by omega)]
  rfl
theorem one_bad {T : List Tok} {op i : Nat} (hi : i < T.length) (h1 : ¬ ts T i = 2) (h2 : ¬ ts T i = 3) (h3 : ¬ ts T i = 45) (h4 : ¬ ts T i = 40) : OneNo T op i i := by
  refine ⟨Nat.le_refl _, hi, fun hh o hc => ?_⟩
  rw [drop_tk hi, sy_bad h1 h2 h3 h4]
  rfl
/-- an E and what stands behind it -/
theorem e_end {T : List Tok} {i j : Nat} {C : List Int32} (h : LevOk T 0 0 i j C) : sy (T.drop i) true true [] [] = if ts T j = 59 then .inr (C, T.drop (j + 1)) else .inl (tp T j) := by
  obtain ⟨a1, a2, a3, a4, a5⟩ := h
  have e := a5 [] [] rfl (by decide)
  rw [show decide (0 ≤ 2) = true from rfl] at e
  rw [e]
  by_cases z : cmpP (ts T j)
  · rw [if_pos ⟨by omega, z⟩, if_neg (fun y => by rw [y] at z; revert z; decide)]
  · rw [if_neg (fun y => z y.2), drop_tk a2]
    by_cases y : ts T j = 59
    · rw [if_pos y, sy_end (t := tk T j) y]
      rfl
    · rw [if_neg y]
      by_cases w : ts T j = 41
      · rw [sy_cls (t := tk T j) w]
        rfl
      · by_cases v : sgn (ts T j) = -1
        · rw [sy_oth (t := tk T j) y w v]
          rfl
        · exfalso
          rcases sgn_ne v with e | e | e | e | e | e | e
          · exact a3 (Or.inl ⟨by omega, e⟩)
          · exact a3 (Or.inr (Or.inl ⟨by omega, e⟩))
          · exact absurd (Or.inl e) z
          · exact absurd (Or.inr e) z
          · exact absurd (Or.inr (Or.inr (Or.inl ⟨by omega, Or.inl e⟩))) a3
          · exact absurd (Or.inr (Or.inr (Or.inl ⟨by omega, Or.inr e⟩))) a3
          · exact absurd (Or.inr (Or.inr (Or.inr ⟨by omega, e⟩))) a3
