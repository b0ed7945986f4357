section
-- 51.sy
/-! texts: what tokens spell: signs are held till one that binds less comes -/
abbrev Tok : Type := Int32 × Nat × Int32
def rank (c : Int32) : Nat := if c = 0 then 0 else if c = 11 then 1 else if c = 12 then 2 else if c = 13 then 3 else if c = 14 ∨ c = 15 then 4 else if c = 16 ∨ c = 17 then 5 else if c = 18 then 6 else 7
def unw (r : Nat) (h o : List Int32) : List Int32 × List Int32 := match h with
  | [] => ([], o)
  | c :: t => if r ≤ rank c then unw r t (o ++ [c]) else (c :: t, o)
abbrev isOpn (c : Int32) : Prop := c = 0 ∨ c = 13 ∨ c = 19
def cnt (h : List Int32) : Nat := match h with
  | [] => 0
  | c :: t => cnt t + (if isOpn c then 1 else 0)
def sgn (s : Int32) : Int32 := if s = 7 then 11 else if s = 8 then 12 else if s = 60 then 14 else if s = 61 then 15 else if s = 43 then 16 else if s = 45 then 17 else if s = 42 then 18 else -1
def top (h : List Int32) : Nat := match h with
  | [] => 0
  | c :: _ => rank c
def cod (t : Tok) : Int32 := if t.1 = 2 then 100000 + t.2.2 else t.2.2
def lst (c : Int32) : Nat := if rank c = 4 then 5 else rank c
def sy (T : List Tok) (w m : Bool) (h o : List Int32) : Nat ⊕ (List Int32 × List Tok) := match T with
  | [] => .inl 0
  | t :: ts =>
    if w = true then
      if t.1 = 2 ∨ t.1 = 3 then sy ts false false (unw 7 h (o ++ [cod t])).1 (unw 7 h (o ++ [cod t])).2 else
      if t.1 = 9 ∧ m = true then (if cnt h < 5 then sy ts true true (13 :: h) o else .inl t.2.1) else
      if t.1 = 45 then (if cnt h < 5 then sy ts true false (19 :: h) o else .inl t.2.1) else
      if t.1 = 40 then (if cnt h < 5 then sy ts true true (0 :: h) o else .inl t.2.1) else .inl t.2.1
    else
      if t.1 = 59 then (if (unw 1 h o).1 = [] then .inr ((unw 1 h o).2, ts) else .inl t.2.1) else
      if t.1 = 41 then (if (unw 1 h o).1 = [] then .inl t.2.1 else sy ts false false (unw 7 (unw 1 h o).1.tail (unw 1 h o).2).1 (unw 7 (unw 1 h o).1.tail (unw 1 h o).2).2) else
      if sgn t.1 = -1 then .inl t.2.1 else
      if rank (sgn t.1) = 4 ∧ top (unw 5 h o).1 = 4 then .inl t.2.1 else
      sy ts true (decide (sgn t.1 ≤ 12)) (sgn t.1 :: (unw (lst (sgn t.1)) h o).1) (unw (lst (sgn t.1)) h o).2
theorem unw_stop {r : Nat} {h o : List Int32} (hr : top h < r) : unw r h o = (h, o) := by
  cases h with
  | nil => rfl
  | cons c t =>
    have : rank c < r := hr
    rw [unw, if_neg (by omega)]
theorem unw_pop {r : Nat} {c : Int32} {h o : List Int32} (hr : r ≤ rank c) : unw r (c :: h) o = unw r h (o ++ [c]) := by
  rw [unw, if_pos hr]
/-- what the next token would let go is let go now -/
theorem sy_pop {t : Tok} {ts : List Tok} {c : Int32} {h o : List Int32} (h1 : 1 ≤ rank c) (h2 : ¬ sgn t.1 = -1 → lst (sgn t.1) ≤ rank c) : sy (t :: ts) false false (c :: h) o = sy (t :: ts) false false h (o ++ [c]) := by
  rw [sy, sy]
  simp only [Bool.false_eq_true, if_false]
  rw [unw_pop (o := o) h1]
  by_cases e1 : t.1 = 59
  · simp only [e1, if_true]
  · simp only [e1, if_false]
    by_cases e2 : t.1 = 41
    · simp only [e2, if_true]
    · simp only [e2, if_false]
      by_cases e3 : sgn t.1 = -1
      · simp only [e3, if_true]
      · simp only [e3, if_false]
        have h3 := h2 e3
        rw [unw_pop (o := o) h3]
        by_cases e4 : rank (sgn t.1) = 4
        · have h5 : 5 ≤ rank c := by
            unfold lst at h3
            rw [if_pos e4] at h3
            exact h3
          rw [unw_pop (o := o) h5]
        · simp only [e4, false_and, if_false]
theorem sy_lit {t : Tok} {ts : List Tok} {m : Bool} {h o : List Int32} (ht : t.1 = 2 ∨ t.1 = 3) : sy (t :: ts) true m h o = sy ts false false (unw 7 h (o ++ [cod t])).1 (unw 7 h (o ++ [cod t])).2 := by
  rw [sy, if_pos rfl, if_pos ht]
theorem sy_not {t : Tok} {ts : List Tok} {h o : List Int32} (ht : t.1 = 9) : sy (t :: ts) true true h o = if cnt h < 5 then sy ts true true (13 :: h) o else .inl t.2.1 := by
  rw [sy, if_pos rfl, if_neg (by rw [ht]; decide), if_pos ⟨ht, rfl⟩]
theorem sy_mn {t : Tok} {ts : List Tok} {h o : List Int32} (ht : ¬ t.1 = 9) : sy (t :: ts) true true h o = sy (t :: ts) true false h o := by
  rw [sy, sy, if_pos rfl, if_pos rfl, if_neg (c := t.1 = 9 ∧ true = true) (fun z => ht z.1), if_neg (c := t.1 = 9 ∧ false = true) (fun z => ht z.1)]
theorem sy_neg {t : Tok} {ts : List Tok} {m : Bool} {h o : List Int32} (ht : t.1 = 45) : sy (t :: ts) true m h o = if cnt h < 5 then sy ts true false (19 :: h) o else .inl t.2.1 := by
  rw [sy, if_pos rfl, if_neg (by rw [ht]; decide), if_neg (by rw [ht]; exact fun z => absurd z.1 (by decide)), if_pos ht]
theorem sy_par {t : Tok} {ts : List Tok} {m : Bool} {h o : List Int32} (ht : t.1 = 40) : sy (t :: ts) true m h o = if cnt h < 5 then sy ts true true (0 :: h) o else .inl t.2.1 := by
  rw [sy, if_pos rfl, if_neg (by rw [ht]; decide), if_neg (by rw [ht]; exact fun z => absurd z.1 (by decide)), if_neg (by rw [ht]; decide), if_pos ht]
theorem sy_bad {t : Tok} {ts : List Tok} {h o : List Int32} (h1 : ¬ t.1 = 2) (h2 : ¬ t.1 = 3) (h3 : ¬ t.1 = 45) (h4 : ¬ t.1 = 40) : sy (t :: ts) true false h o = .inl t.2.1 := by
  rw [sy, if_pos rfl, if_neg (fun z => z.elim h1 h2), if_neg (fun z => absurd z.2 (by decide)), if_neg h3, if_neg h4]
theorem sy_end {t : Tok} {ts : List Tok} {h o : List Int32} (ht : t.1 = 59) : sy (t :: ts) false false h o = if (unw 1 h o).1 = [] then .inr ((unw 1 h o).2, ts) else .inl t.2.1 := by
  rw [sy, if_neg (by decide), if_pos ht]
theorem sy_cls {t : Tok} {ts : List Tok} {h o : List Int32} (ht : t.1 = 41) : sy (t :: ts) false false h o = if (unw 1 h o).1 = [] then .inl t.2.1 else sy ts false false (unw 7 (unw 1 h o).1.tail (unw 1 h o).2).1 (unw 7 (unw 1 h o).1.tail (unw 1 h o).2).2 := by
  rw [sy, if_neg (by decide), if_neg (by rw [ht]; decide), if_pos ht]
theorem sy_oth {t : Tok} {ts : List Tok} {h o : List Int32} (h1 : ¬ t.1 = 59) (h2 : ¬ t.1 = 41) (h3 : sgn t.1 = -1) : sy (t :: ts) false false h o = .inl t.2.1 := by
  rw [sy, if_neg (by decide), if_neg h1, if_neg h2, if_pos h3]
theorem sgn_ne {s : Int32} (h : ¬ sgn s = -1) : s = 7 ∨ s = 8 ∨ s = 60 ∨ s = 61 ∨ s = 43 ∨ s = 45 ∨ s = 42 := by
  refine Classical.byContradiction fun z => h ?_
  simp only [not_or] at z
  obtain ⟨z1, z2, z3, z4, z5, z6, z7⟩ := z
  unfold sgn
  rw [if_neg z1, if_neg z2, if_neg z3, if_neg z4, if_neg z5, if_neg z6, if_neg z7]
/-- a sign between two, where no sign that binds as much is held -/
theorem sy_sgn {t : Tok} {ts : List Tok} {h o : List Int32} (h3 : ¬ sgn t.1 = -1) (ht : top h < lst (sgn t.1)) (h4 : rank (sgn t.1) = 4 → ¬ top h = 4) : sy (t :: ts) false false h o = sy ts true (decide (sgn t.1 ≤ 12)) (sgn t.1 :: h) o := by
  have hs := sgn_ne h3
  have h1 : ¬ t.1 = 59 := fun z => by rw [z] at hs; revert hs; decide
  have h2 : ¬ t.1 = 41 := fun z => by rw [z] at hs; revert hs; decide
  have h5 : ¬ (rank (sgn t.1) = 4 ∧ top (unw 5 h o).1 = 4) := by
    rintro ⟨e1, e2⟩
    unfold lst at ht
    rw [if_pos e1] at ht
    rw [unw_stop ht] at e2
    exact h4 e1 e2
  rw [sy, if_neg (by decide), if_neg h1, if_neg h2, if_neg h3, if_neg h5, unw_stop ht]
/-- a second comparison -/
theorem sy_cmp2 {t : Tok} {ts : List Tok} {h o : List Int32} (ht : t.1 = 60 ∨ t.1 = 61) (h4 : top h = 4) : sy (t :: ts) false false h o = .inl t.2.1 := by
  have e : rank (sgn t.1) = 4 ∧ ¬ t.1 = 59 ∧ ¬ t.1 = 41 ∧ ¬ sgn t.1 = -1 := by
    rcases ht with e | e <;> rw [e] <;> decide
  obtain ⟨e1, e2, e3, e4⟩ := e
  rw [sy, if_neg (by decide), if_neg e2, if_neg e3, if_neg e4, if_pos ⟨e1, by rw [unw_stop (by omega)]; exact h4⟩]
/-! levels: how what is read down agrees with what is held -/
def tk (T : List Tok) (k : Nat) : Tok := T.getD k (0, 0, 0)
def ts (T : List Tok) (k : Nat) : Int32 := (tk T k).1
def tp (T : List Tok) (k : Nat) : Nat := (tk T k).2.1
theorem drop_tk {T : List Tok} {k : Nat} (h : k < T.length) : T.drop k = tk T k :: T.drop (k + 1) := by
  rw [List.drop_eq_getElem_cons h]
  congr 1
  unfold tk
  rw [List.getD_eq_getElem?_getD, List.getElem?_eq_getElem h]
  rfl
abbrev joinsP (l : Nat) (s : Int32) : Prop := (l = 0 ∧ s = 7) ∨ (l = 1 ∧ s = 8) ∨ (l = 3 ∧ (s = 43 ∨ s = 45)) ∨ (l = 4 ∧ s = 42)
abbrev excP (l : Nat) (s : Int32) : Prop := (l ≤ 0 ∧ s = 7) ∨ (l ≤ 1 ∧ s = 8) ∨ (l ≤ 3 ∧ (s = 43 ∨ s = 45)) ∨ (l ≤ 4 ∧ s = 42)
def ctx (l : Nat) : Nat := match l with
  | 0 => 1 | 1 => 2 | 2 => 4 | 3 => 5 | 4 => 6 | _ => 7
abbrev cmpP (s : Int32) : Prop := s = 60 ∨ s = 61
def wfC (C : List Int32) : Prop := ∀ (r : List Int32) (x : Nat), wfR (C ++ r) x = wfR r (x + 1)
def LevEq (T : List Tok) (l op i j : Nat) (C : List Int32) (b : Prop) [Decidable b] : Prop :=
  ∀ h o, cnt h = op → top h < ctx l → sy (T.drop i) true (decide (l ≤ 2)) h o = if b ∧ cmpP (ts T j) then .inl (tp T j) else sy (T.drop j) false false h (o ++ C)
def LevOk (T : List Tok) (l op i j : Nat) (C : List Int32) : Prop := i + C.length ≤ j ∧ j < T.length ∧ ¬ excP l (ts T j) ∧ wfC C ∧ LevEq T l op i j C (l ≤ 2)
def LevNo (T : List Tok) (l op i j : Nat) : Prop := i ≤ j ∧ j < T.length ∧ ∀ h o, cnt h = op → top h < ctx l → sy (T.drop i) true (decide (l ≤ 2)) h o = .inl (tp T j)
def BinIn (T : List Tok) (l op i j : Nat) (C : List Int32) : Prop := i + C.length ≤ j ∧ j < T.length ∧ ¬ excP (l + 1) (ts T j) ∧ wfC C ∧ LevEq T l op i j C (l ≤ 2)
def OneOk (T : List Tok) (op i j : Nat) (C : List Int32) : Prop := i + C.length ≤ j ∧ j < T.length ∧ wfC C ∧ ∀ h o, cnt h = op → sy (T.drop i) true false h o = sy (T.drop j) false false (unw 7 h (o ++ C)).1 (unw 7 h (o ++ C)).2
def OneNo (T : List Tok) (op i j : Nat) : Prop := i ≤ j ∧ j < T.length ∧ ∀ h o, cnt h = op → sy (T.drop i) true false h o = .inl (tp T j)
abbrev isBin (l : Nat) : Prop := l = 0 ∨ l = 1 ∨ l = 3 ∨ l = 4
theorem wfC_one {C : List Int32} {c : Int32} (h : wfC C) (hc : c = 13 ∨ c = 19) : wfC (C ++ [c]) := by
  intro r x
  rw [List.append_assoc, h]
  rcases hc with rfl | rfl <;> simp [wfR]
theorem wfC_two {C D : List Int32} {c : Int32} (h : wfC C) (h2 : wfC D) (hc : c = 11 ∨ c = 12 ∨ (14 ≤ c ∧ c ≤ 18)) : wfC (C ++ D ++ [c]) := by
  intro r x
  rw [List.append_assoc, List.append_assoc, h, h2]
  show wfR (c :: r) (x + 1 + 1) = _
  have n1 : ¬ ((100000 ≤ c ∧ c < 110000) ∨ (0 ≤ c ∧ c < 6)) := by
    rintro (z | z)
    · rcases hc with rfl | rfl | hc
      · exact absurd z.1 (by decide)
      · exact absurd z.1 (by decide)
      · exact absurd (Int32.le_trans z.1 hc.2) (by decide)
    · rcases hc with rfl | rfl | hc
      · exact absurd z.2 (by decide)
      · exact absurd z.2 (by decide)
      · exact absurd (Int32.lt_of_le_of_lt hc.1 z.2) (by decide)
  have n2 : ¬ (c = 13 ∨ c = 19) := by
    rintro (rfl | rfl) <;> rcases hc with hc | hc | hc <;> first | (exact absurd hc (by decide)) | (exact absurd hc.1 (by decide)) | (exact absurd hc.2 (by decide))
  rw [wfR, if_neg n1, if_neg n2, if_pos hc, if_pos (by omega)]
  rfl
theorem joins_facts {l : Nat} {s : Int32} (h : joinsP l s) : ¬ sgn s = -1 ∧ ¬ rank (sgn s) = 4 ∧ lst (sgn s) = ctx l ∧ rank (sgn s) = ctx l ∧ ctx l < ctx (l + 1) ∧ decide (sgn s ≤ 12) = decide (l + 1 ≤ 2) ∧ ¬ isOpn (sgn s) ∧ ¬ cmpP s ∧ (sgn s = 11 ∨ sgn s = 12 ∨ (14 ≤ sgn s ∧ sgn s ≤ 18)) := by
  rcases h with ⟨rfl, rfl⟩ | ⟨rfl, rfl⟩ | ⟨rfl, rfl | rfl⟩ | ⟨rfl, rfl⟩ <;> decide
theorem ctx_le {l : Nat} : ctx l ≤ ctx (l + 1) := by
  unfold ctx
  split <;> split <;> first | omega | simp_all
theorem bin_le {l : Nat} (h : isBin l) : decide (l ≤ 2) = decide (l + 1 ≤ 2) := by
  rcases h with rfl | rfl | rfl | rfl <;> rfl
theorem bin_init {T : List Tok} {l op i j : Nat} {C : List Int32} (hl : isBin l) (h : LevOk T (l + 1) op i j C) : BinIn T l op i j C := by
  obtain ⟨a1, a2, a3, a4, a5⟩ := h
  refine ⟨a1, a2, a3, a4, fun h o hc ht => ?_⟩
  rw [bin_le hl, a5 h o hc (Nat.lt_of_lt_of_le ht ctx_le)]
  have e : (l + 1 ≤ 2) ↔ l ≤ 2 := by rcases hl with rfl | rfl | rfl | rfl <;> decide
  by_cases z : l ≤ 2
  · simp [z, e.mpr z]
  · simp [z]
    intro y
    omega
theorem bin_done {T : List Tok} {l op i j : Nat} {C : List Int32} (hl : isBin l) (h : BinIn T l op i j C) (hj : ¬ joinsP l (ts T j)) : LevOk T l op i j C := by
  obtain ⟨a1, a2, a3, a4, a5⟩ := h
  refine ⟨a1, a2, fun z => ?_, a4, a5⟩
  rcases z with ⟨z1, z2⟩ | ⟨z1, z2⟩ | ⟨z1, z2⟩ | ⟨z1, z2⟩
  · exact hj (Or.inl ⟨by omega, z2⟩)
  · by_cases e : l = 1
    · exact hj (Or.inr (Or.inl ⟨e, z2⟩))
    · exact a3 (Or.inr (Or.inl ⟨by omega, z2⟩))
  · by_cases e : l = 3
    · exact hj (Or.inr (Or.inr (Or.inl ⟨e, z2⟩)))
    · exact a3 (Or.inr (Or.inr (Or.inl ⟨by omega, z2⟩)))
  · by_cases e : l = 4
    · exact hj (Or.inr (Or.inr (Or.inr ⟨e, z2⟩)))
    · exact a3 (Or.inr (Or.inr (Or.inr ⟨by omega, z2⟩)))
theorem cnt_c {c : Int32} {h : List Int32} (hc : ¬ isOpn c) : cnt (c :: h) = cnt h := by
  rw [cnt, if_neg hc]
  rfl
theorem cnt_o {c : Int32} {h : List Int32} (hc : isOpn c) : cnt (c :: h) = cnt h + 1 := by
  rw [cnt, if_pos hc]
/-- the token at which a sign that a level joins was read goes on with the level above -/
theorem bin_go {T : List Tok} {l op i j : Nat} {C : List Int32} (h : BinIn T l op i j C) (hj : joinsP l (ts T j)) {hh o : List Int32} (hc : cnt hh = op) (ht : top hh < ctx l) :
    sy (T.drop i) true (decide (l ≤ 2)) hh o = sy (T.drop (j + 1)) true (decide (l + 1 ≤ 2)) (sgn (ts T j) :: hh) (o ++ C) := by
  obtain ⟨a1, a2, a3, a4, a5⟩ := h
  obtain ⟨f1, f2, f3, f4, f5, f6, f7, f8, f9⟩ := joins_facts hj
  rw [a5 hh o hc ht, if_neg (fun z => f8 z.2), drop_tk a2]
  rw [sy_sgn (t := tk T j) f1 (by show _ < lst (sgn (ts T j)); rw [f3]; exact ht) (fun z => absurd z f2)]
  show sy _ true (decide (sgn (ts T j) ≤ 12)) _ _ = _
  rw [f6]
  rfl
theorem pop_ok {l : Nat} {s : Int32} {c : Int32} (hl : isBin l) (hr : rank c = ctx l) (he : ¬ excP (l + 1) s) (hb : ¬ (l + 1 ≤ 2 ∧ cmpP s)) : ¬ sgn s = -1 → lst (sgn s) ≤ rank c := by
  intro h
  rw [hr]
  have hs := sgn_ne h
  rcases hs with rfl | rfl | rfl | rfl | rfl | rfl | rfl <;> rcases hl with rfl | rfl | rfl | rfl <;> first | (exact Nat.le_of_ble_eq_true rfl) | (exact absurd (by decide) he) | (exact absurd (by decide) hb)
theorem bin_step {T : List Tok} {l op i j j2 : Nat} {C D : List Int32} (hl : isBin l) (h : BinIn T l op i j C) (hj : joinsP l (ts T j)) (h2 : LevOk T (l + 1) op (j + 1) j2 D) : BinIn T l op i j2 (C ++ D ++ [sgn (ts T j)]) := by
  have hb := h
  obtain ⟨a1, a2, a3, a4, a5⟩ := h
  obtain ⟨b1, b2, b3, b4, b5⟩ := h2
  obtain ⟨f1, f2, f3, f4, f5, f6, f7, f8, f9⟩ := joins_facts hj
  refine ⟨by simp; omega, b2, b3, wfC_two a4 b4 f9, fun hh o hc ht => ?_⟩
  rw [bin_go hb hj hc ht, b5 _ _ (by rw [cnt_c f7]; exact hc) (by show rank _ < _; rw [f4]; exact f5)]
  by_cases z : l + 1 ≤ 2 ∧ cmpP (ts T j2)
  · rw [if_pos z, if_pos ⟨by omega, z.2⟩]
  · rw [if_neg z]
    have z2 : ¬ (l ≤ 2 ∧ cmpP (ts T j2)) := fun y => z ⟨by rcases hl with rfl | rfl | rfl | rfl <;> omega, y.2⟩
    have hr1 : 1 ≤ ctx l := by rcases hl with rfl | rfl | rfl | rfl <;> decide
    rw [if_neg z2, drop_tk b2, sy_pop (t := tk T j2) (by rw [f4]; exact hr1) (pop_ok hl f4 b3 z)]
    rw [← List.append_assoc, ← List.append_assoc]
theorem bin_fail {T : List Tok} {l op i j j2 : Nat} {C : List Int32} (hl : isBin l) (h : BinIn T l op i j C) (hj : joinsP l (ts T j)) (h2 : LevNo T (l + 1) op (j + 1) j2) : LevNo T l op i j2 := by
  have hb := h
  obtain ⟨a1, a2, a3, a4, a5⟩ := h
  obtain ⟨b1, b2, b5⟩ := h2
  obtain ⟨f1, f2, f3, f4, f5, f6, f7, f8, f9⟩ := joins_facts hj
  refine ⟨by omega, b2, fun hh o hc ht => ?_⟩
  rw [bin_go hb hj hc ht, b5 _ _ (by rw [cnt_c f7]; exact hc) (by show rank _ < _; rw [f4]; exact f5)]
theorem bin_no {T : List Tok} {l op i j : Nat} (hl : isBin l) (h : LevNo T (l + 1) op i j) : LevNo T l op i j := by
  obtain ⟨a1, a2, a3⟩ := h
  refine ⟨a1, a2, fun hh o hc ht => ?_⟩
  rw [bin_le hl, a3 hh o hc (Nat.lt_of_lt_of_le ht ctx_le)]
theorem one_lev {T : List Tok} {op i j : Nat} {C : List Int32} (h : OneOk T op i j C) : LevOk T 5 op i j C := by
  obtain ⟨a1, a2, a4, a5⟩ := h
  refine ⟨a1, a2, by rintro (z | z | z | z) <;> omega, a4, fun hh o hc ht => ?_⟩
  rw [if_neg (fun z => absurd z.1 (by decide)), show decide (5 ≤ 2) = false from rfl, a5 hh o hc, unw_stop (r := 7) ht]
theorem one_levN {T : List Tok} {op i j : Nat} (h : OneNo T op i j) : LevNo T 5 op i j := by
  obtain ⟨a1, a2, a3⟩ := h
  exact ⟨a1, a2, fun hh o hc _ => a3 hh o hc⟩
/-! not, comparisons -/
theorem not_ok {T : List Tok} {op i j : Nat} {C : List Int32} (hi : i < T.length) (h9 : ts T i = 9) (h5 : op < 5) (h : LevOk T 2 (op + 1) (i + 1) j C) : LevOk T 2 op i j (C ++ [13]) := by
  obtain ⟨a1, a2, a3, a4, a5⟩ := h
  refine ⟨by simp; omega, a2, a3, wfC_one a4 (Or.inl rfl), fun hh o hc ht => ?_⟩
  have e := a5 (13 :: hh) o (by rw [cnt_o (by decide)]; omega) (by show rank 13 < ctx 2; decide)
  rw [show decide (2 ≤ 2) = true from rfl] at e ⊢
  rw [drop_tk hi, sy_not h9, if_pos (by omega), e]
  by_cases z : cmpP (ts T j)
  · rw [if_pos ⟨by omega, z⟩, if_pos ⟨by omega, z⟩]
  · rw [if_neg (fun y => z y.2), if_neg (fun y => z y.2), drop_tk a2, sy_pop (t := tk T j) (by decide), List.append_assoc]
    intro hs
    rcases sgn_ne hs with e | e | e | e | e | e | e
    · rw [e]; decide
    · rw [e]; decide
    · exact absurd (Or.inl e) z
    · exact absurd (Or.inr e) z
    · exact absurd (Or.inr (Or.inr (Or.inl ⟨by omega, Or.inl e⟩))) a3
    · exact absurd (Or.inr (Or.inr (Or.inl ⟨by omega, Or.inr e⟩))) a3
    · exact absurd (Or.inr (Or.inr (Or.inr ⟨by omega, e⟩))) a3
theorem not_no {T : List Tok} {op i j : Nat} (hi : i < T.length) (h9 : ts T i = 9) (h5 : op < 5) (h : LevNo T 2 (op + 1) (i + 1) j) : LevNo T 2 op i j := by
  obtain ⟨a1, a2, a5⟩ := h
  refine ⟨by omega, a2, fun hh o hc ht => ?_⟩
  have e := a5 (13 :: hh) o (by rw [cnt_o (by decide)]; omega) (by show rank 13 < ctx 2; decide)
  rw [show decide (2 ≤ 2) = true from rfl] at e ⊢
  rw [drop_tk hi, sy_not h9, if_pos (by omega), e]
theorem not_full {T : List Tok} {i : Nat} {op : Nat} (hi : i < T.length) (h9 : ts T i = 9) (h5 : ¬ op < 5) : LevNo T 2 op i i := by
  refine ⟨Nat.le_refl _, hi, fun hh o hc ht => ?_⟩
  rw [show decide (2 ≤ 2) = true from rfl, drop_tk hi, sy_not h9, if_neg (by omega)]
  rfl
theorem sum_only {T : List Tok} {op i j : Nat} {C : List Int32} (hi : i < T.length) (h9 : ¬ ts T i = 9) (h : LevOk T 3 op i j C) (hj : ¬ cmpP (ts T j)) : LevOk T 2 op i j C := by
  obtain ⟨a1, a2, a3, a4, a5⟩ := h
  refine ⟨a1, a2, fun z => a3 ?_, a4, fun hh o hc ht => ?_⟩
  · rcases z with ⟨z1, z2⟩ | ⟨z1, z2⟩ | ⟨z1, z2⟩ | ⟨z1, z2⟩
    · omega
    · omega
    · exact Or.inr (Or.inr (Or.inl ⟨by omega, z2⟩))
    · exact Or.inr (Or.inr (Or.inr ⟨by omega, z2⟩))
  · have e := a5 hh o hc (Nat.lt_of_lt_of_le ht (by decide))
    rw [show decide (3 ≤ 2) = false from rfl, if_neg (fun z => absurd z.1 (by decide))] at e
    rw [show decide (2 ≤ 2) = true from rfl, if_neg (fun z => hj z.2), ← e, drop_tk hi, sy_mn h9]
theorem sum_no {T : List Tok} {op i j : Nat} (hi : i < T.length) (h9 : ¬ ts T i = 9) (h : LevNo T 3 op i j) : LevNo T 2 op i j := by
  obtain ⟨a1, a2, a5⟩ := h
  refine ⟨a1, a2, fun hh o hc ht => ?_⟩
  have e := a5 hh o hc (Nat.lt_of_lt_of_le ht (by decide))
  rw [show decide (3 ≤ 2) = false from rfl] at e
  rw [show decide (2 ≤ 2) = true from rfl, ← e, drop_tk hi, sy_mn h9]
theorem cmp_go {T : List Tok} {op i j : Nat} {C : List Int32} (hi : i < T.length) (h9 : ¬ ts T i = 9) (h : LevOk T 3 op i j C) (hj : cmpP (ts T j)) {hh o : List Int32} (hc : cnt hh = op) (ht : top hh < ctx 2) :
    sy (T.drop i) true true hh o = sy (T.drop (j + 1)) true false (sgn (ts T j) :: hh) (o ++ C) := by
  obtain ⟨a1, a2, a3, a4, a5⟩ := h
  have e := a5 hh o hc (Nat.lt_of_lt_of_le ht (by decide))
  rw [show decide (3 ≤ 2) = false from rfl, if_neg (fun z => absurd z.1 (by decide))] at e
  have f : ¬ sgn (ts T j) = -1 ∧ lst (sgn (ts T j)) = 5 ∧ decide (sgn (ts T j) ≤ 12) = false := by
    rcases hj with z | z <;> rw [z] <;> decide
  obtain ⟨f1, f2, f3⟩ := f
  have ht4 : top hh < 4 := ht
  rw [drop_tk hi, sy_mn h9, ← drop_tk hi, e, drop_tk a2, sy_sgn (t := tk T j) f1 (by show _ < lst (sgn (ts T j)); rw [f2]; omega) (fun _ => by omega)]
  show sy _ true (decide (sgn (ts T j) ≤ 12)) _ _ = _
  rw [f3]
  rfl
theorem cmp_ok {T : List Tok} {op i j j2 : Nat} {C D : List Int32} (hi : i < T.length) (h9 : ¬ ts T i = 9) (h : LevOk T 3 op i j C) (hj : cmpP (ts T j)) (h2 : LevOk T 3 op (j + 1) j2 D) : LevOk T 2 op i j2 (C ++ D ++ [sgn (ts T j)]) := by
  have hb := h
  obtain ⟨a1, a2, a3, a4, a5⟩ := h
  obtain ⟨b1, b2, b3, b4, b5⟩ := h2
  have f : rank (sgn (ts T j)) = 4 ∧ ¬ isOpn (sgn (ts T j)) ∧ (sgn (ts T j) = 11 ∨ sgn (ts T j) = 12 ∨ (14 ≤ sgn (ts T j) ∧ sgn (ts T j) ≤ 18)) := by
    rcases hj with z | z <;> rw [z] <;> decide
  obtain ⟨f1, f2, f3⟩ := f
  refine ⟨by simp; omega, b2, fun z => b3 ?_, wfC_two a4 b4 f3, fun hh o hc ht => ?_⟩
  · rcases z with ⟨z1, z2⟩ | ⟨z1, z2⟩ | ⟨z1, z2⟩ | ⟨z1, z2⟩
    · omega
    · omega
    · exact Or.inr (Or.inr (Or.inl ⟨by omega, z2⟩))
    · exact Or.inr (Or.inr (Or.inr ⟨by omega, z2⟩))
  · have e := b5 (sgn (ts T j) :: hh) (o ++ C) (by rw [cnt_c f2]; exact hc) (by show rank _ < ctx 3; rw [f1]; decide)
    rw [show decide (3 ≤ 2) = false from rfl, if_neg (fun z => absurd z.1 (by decide))] at e
    rw [show decide (2 ≤ 2) = true from rfl, cmp_go hi h9 hb hj hc ht, e, drop_tk b2]
    by_cases z : cmpP (ts T j2)
    · rw [if_pos ⟨by omega, z⟩, sy_cmp2 (t := tk T j2) (h := sgn (ts T j) :: hh) z f1]
      rfl
    · rw [if_neg (fun y => z y.2), sy_pop (t := tk T j2) (by rw [f1]; decide), ← List.append_assoc, ← List.append_assoc]
      intro hs
      rw [f1]
      rcases sgn_ne hs with e | e | e | e | e | e | e
      · rw [e]; decide
      · rw [e]; decide
      · exact absurd (Or.inl e) z
      · exact absurd (Or.inr e) z
      · exact absurd (Or.inr (Or.inr (Or.inl ⟨by omega, Or.inl e⟩))) b3
      · exact absurd (Or.inr (Or.inr (Or.inl ⟨by omega, Or.inr e⟩))) b3
      · exact absurd (Or.inr (Or.inr (Or.inr ⟨by omega, e⟩))) b3
theorem cmp_no {T : List Tok} {op i j j2 : Nat} {C : List Int32} (hi : i < T.length) (h9 : ¬ ts T i = 9) (h : LevOk T 3 op i j C) (hj : cmpP (ts T j)) (h2 : LevNo T 3 op (j + 1) j2) : LevNo T 2 op i j2 := by
  have hb := h
  obtain ⟨a1, a2, a3, a4, a5⟩ := h
  obtain ⟨b1, b2, b5⟩ := h2
  have f : rank (sgn (ts T j)) = 4 ∧ ¬ isOpn (sgn (ts T j)) := by
    rcases hj with z | z <;> rw [z] <;> decide
  obtain ⟨f1, f2⟩ := f
  refine ⟨by omega, b2, fun hh o hc ht => ?_⟩
  have e := b5 (sgn (ts T j) :: hh) (o ++ C) (by rw [cnt_c f2]; exact hc) (by show rank _ < ctx 3; rw [f1]; decide)
  rw [show decide (3 ≤ 2) = false from rfl] at e
  rw [show decide (2 ≤ 2) = true from rfl, cmp_go hi h9 hb hj hc ht, e]
/-! ONE -/
theorem one_lit {T : List Tok} {op i : Nat} (hi : i + 1 < T.length) (h : ts T i = 2 ∨ ts T i = 3) (hw : wfC [cod (tk T i)]) : OneOk T op i (i + 1) [cod (tk T i)] := by
  refine ⟨by simp, hi, hw, fun hh o _ => ?_⟩
  rw [drop_tk (by omega), sy_lit h]
theorem neg_ok {T : List Tok} {op i j : Nat} {C : List Int32} (hi : i < T.length) (h1 : ts T i = 45) (h5 : op < 5) (h : OneOk T (op + 1) (i + 1) j C) : OneOk T op i j (C ++ [19]) := by
  obtain ⟨a1, a2, a4, a5⟩ := h
  refine ⟨by simp; omega, a2, wfC_one a4 (Or.inr rfl), fun hh o hc => ?_⟩
  rw [drop_tk hi, sy_neg h1, if_pos (by omega), a5 _ _ (by rw [cnt_o (by decide)]; omega), unw_pop (by decide), List.append_assoc]
theorem neg_no {T : List Tok} {op i j : Nat} (hi : i < T.length) (h1 : ts T i = 45) (h5 : op < 5) (h : OneNo T (op + 1) (i + 1) j) : OneNo T op i j := by
  obtain ⟨a1, a2, a5⟩ := h
  refine ⟨by omega, a2, fun hh o hc => ?_⟩
  rw [drop_tk hi, sy_neg h1, if_pos (by omega), a5 _ _ (by rw [cnt_o (by decide)]; omega)]
theorem neg_full {T : List Tok} {op i : Nat} (hi : i < T.length) (h1 : ts T i = 45) (h5 : ¬ op < 5) : OneNo T op i i := by
  refine ⟨Nat.le_refl _, hi, fun hh o hc => ?_⟩
  rw [drop_tk hi, sy_neg h1, if_neg (by omega)]
  rfl
theorem par_eq {T : List Tok} {op i j : Nat} {C : List Int32} (hi : i < T.length) (h1 : ts T i = 40) (h5 : op < 5) (h : LevOk T 0 (op + 1) (i + 1) j C) {hh o : List Int32} (hc : cnt hh = op) :
    sy (T.drop i) true false hh o = if ts T j = 41 then sy (T.drop (j + 1)) false false (unw 7 hh (o ++ C)).1 (unw 7 hh (o ++ C)).2 else .inl (tp T j) := by
  obtain ⟨a1, a2, a3, a4, a5⟩ := h
  have e := a5 (0 :: hh) o (by rw [cnt_o (by decide)]; omega) (by show rank 0 < ctx 0; decide)
  rw [show decide (0 ≤ 2) = true from rfl] at e
  rw [drop_tk hi, sy_par h1, if_pos (by omega), e]
  have u : unw 1 (0 :: hh) (o ++ C) = (0 :: hh, o ++ C) := unw_stop (by show rank 0 < 1; decide)
  by_cases z : cmpP (ts T j)
  · rw [if_pos ⟨by omega, z⟩, if_neg (fun y => by rw [y] at z; revert z; decide)]
  · rw [if_neg (fun y => z y.2), drop_tk a2]
    by_cases y : ts T j = 41
    · rw [if_pos y, sy_cls (t := tk T j) y, u, if_neg (by simp)]
      rfl
    · rw [if_neg y]
      by_cases w : ts T j = 59
      · rw [sy_end (t := tk T j) w, u, if_neg (by simp)]
        rfl
      · by_cases v : sgn (ts T j) = -1
        · rw [sy_oth (t := tk T j) w y v]
          rfl
        · exfalso
          rcases sgn_ne v with e | e | e | e | e | e | e
          · exact a3 (Or.inl ⟨by omega, e⟩)
          · exact a3 (Or.inr (Or.inl ⟨by omega, e⟩))
          · exact absurd (Or.inl e) z
          · exact absurd (Or.inr e) z
          · exact absurd (Or.inr (Or.inr (Or.inl ⟨by omega, Or.inl e⟩))) a3
          · exact absurd (Or.inr (Or.inr (Or.inl ⟨by omega, Or.inr e⟩))) a3
          · exact absurd (Or.inr (Or.inr (Or.inr ⟨by omega, e⟩))) a3
theorem par_ok {T : List Tok} {op i j : Nat} {C : List Int32} (hi : i < T.length) (h1 : ts T i = 40) (h5 : op < 5) (h : LevOk T 0 (op + 1) (i + 1) j C) (hj : ts T j = 41) (hj2 : j + 1 < T.length) : OneOk T op i (j + 1) C :=
  ⟨by have := h.1; omega, hj2, h.2.2.2.1, fun hh o hc => by rw [par_eq hi h1 h5 h hc, if_pos hj]⟩
theorem par_no {T : List Tok} {op i j : Nat} {C : List Int32} (hi : i < T.length) (h1 : ts T i = 40) (h5 : op < 5) (h : LevOk T 0 (op + 1) (i + 1) j C) (hj : ¬ ts T j = 41) : OneNo T op i j :=
  ⟨by have := h.1; omega, h.2.1, fun hh o hc => by rw [par_eq hi h1 h5 h hc, if_neg hj]⟩
theorem par_no2 {T : List Tok} {op i j : Nat} (hi : i < T.length) (h1 : ts T i = 40) (h5 : op < 5) (h : LevNo T 0 (op + 1) (i + 1) j) : OneNo T op i j := by
  obtain ⟨a1, a2, a5⟩ := h
  refine ⟨by omega, a2, fun hh o hc => ?_⟩
  have e := a5 (0 :: hh) o (by rw [cnt_o (by decide)]; omega) (by show rank 0 < ctx 0; decide)
  rw [show decide (0 ≤ 2) = true from rfl] at e
  rw [drop_tk hi, sy_par h1, if_pos (by omega), e]
theorem par_full {T : List Tok} {op i : Nat} (hi : i < T.length) (h1 : ts T i = 40) (h5 : ¬ op < 5) : OneNo T op i i := by
  refine ⟨Nat.le_refl _, hi, fun hh o hc => ?_⟩
  rw [drop_tk hi, sy_par h1, if_neg (by omega)]
  rfl
theorem one_bad {T : List Tok} {op i : Nat} (hi : i < T.length) (h1 : ¬ ts T i = 2) (h2 : ¬ ts T i = 3) (h3 : ¬ ts T i = 45) (h4 : ¬ ts T i = 40) : OneNo T op i i := by
  refine ⟨Nat.le_refl _, hi, fun hh o hc => ?_⟩
  rw [drop_tk hi, sy_bad h1 h2 h3 h4]
  rfl
/-- an E and what stands behind it -/
theorem e_end {T : List Tok} {i j : Nat} {C : List Int32} (h : LevOk T 0 0 i j C) : sy (T.drop i) true true [] [] = if ts T j = 59 then .inr (C, T.drop (j + 1)) else .inl (tp T j) := by
  obtain ⟨a1, a2, a3, a4, a5⟩ := h
  have e := a5 [] [] rfl (by decide)
  rw [show decide (0 ≤ 2) = true from rfl] at e
  rw [e]
  by_cases z : cmpP (ts T j)
  · rw [if_pos ⟨by omega, z⟩, if_neg (fun y => by rw [y] at z; revert z; decide)]
  · rw [if_neg (fun y => z y.2), drop_tk a2]
    by_cases y : ts T j = 59
    · rw [if_pos y, sy_end (t := tk T j) y]
      rfl
    · rw [if_neg y]
      by_cases w : ts T j = 41
      · rw [sy_cls (t := tk T j) w]
        rfl
      · by_cases v : sgn (ts T j) = -1
        · rw [sy_oth (t := tk T j) y w v]
          rfl
        · exfalso
          rcases sgn_ne v with e | e | e | e | e | e | e
          · exact a3 (Or.inl ⟨by omega, e⟩)
          · exact a3 (Or.inr (Or.inl ⟨by omega, e⟩))
          · exact absurd (Or.inl e) z
          · exact absurd (Or.inr e) z
          · exact absurd (Or.inr (Or.inr (Or.inl ⟨by omega, Or.inl e⟩))) a3
          · exact absurd (Or.inr (Or.inr (Or.inl ⟨by omega, Or.inr e⟩))) a3
          · exact absurd (Or.inr (Or.inr (Or.inr ⟨by omega, e⟩))) a3
end
section
-- 52.lex
/-! texts: from bytes to tokens -/
abbrev isLet (b : Int32) : Prop := 97 ≤ b ∧ b ≤ 122
abbrev isDig (b : Int32) : Prop := 48 ≤ b ∧ b ≤ 57
abbrev isSig (b : Int32) : Prop := b = 40 ∨ b = 41 ∨ b = 59 ∨ b = 43 ∨ b = 45 ∨ b = 42 ∨ b = 60 ∨ b = 61
abbrev isBla (b : Int32) : Prop := b = 32 ∨ b = 10
def letE (f : Nat → Int32) (z k a : Nat) : Nat := match k with
  | 0 => a
  | j + 1 => if a < z ∧ isLet (f a) then letE f z j (a + 1) else a
def digE (f : Nat → Int32) (z k a : Nat) : Nat := match k with
  | 0 => a
  | j + 1 => if a < z ∧ isDig (f a) then digE f z j (a + 1) else a
def wordAt (f : Nat → Int32) (a e : Nat) : List Int32 := (List.range (e - a)).map fun i => f (a + i)
/-- what a word is: its sort and which -/
def kindW (w : List Int32) : Int32 × Int32 :=
  if w = [108, 111, 117, 100] then (3, 0) else if w = [102, 97, 114] then (3, 1) else if w = [101, 97, 114] then (3, 2) else if w = [110, 101, 101, 100] then (3, 3) else
  if w = [109, 97, 110, 121] then (3, 4) else if w = [98, 97, 115, 101] then (3, 5) else if w = [104, 101, 97, 114, 100] then (4, 0) else if w = [115, 104, 97, 114, 101] then (5, 0) else
  if w = [112, 97, 105, 110] then (6, 0) else if w = [111, 114] then (7, 0) else if w = [97, 110, 100] then (8, 0) else if w = [110, 111, 116] then (9, 0) else (1, 0)
def numV (f : Nat → Int32) (k a : Nat) : Int32 := match k with
  | 0 => 0
  | j + 1 => numV f j a * 10 + f (a + j) - 48
def tokAt (f : Nat → Int32) (z a : Nat) : Tok × Nat :=
  if isLet (f a) then (((kindW (wordAt f a (letE f z (z - a) a))).1, a, (kindW (wordAt f a (letE f z (z - a) a))).2), letE f z (z - a) a) else
  if isDig (f a) then (if 4 < digE f z (z - a) a - a then ((1, a, 0), digE f z (z - a) a) else ((2, a, numV f (digE f z (z - a) a - a) a), digE f z (z - a) a)) else
  ((if isSig (f a) then f a else 1, a, 0), a + 1)
def toks (f : Nat → Int32) (z k a : Nat) : List Tok := match k with
  | 0 => [(0, z, 0)]
  | j + 1 => if a < z then (if isBla (f a) then toks f z j (a + 1) else (tokAt f z a).1 :: toks f z j (tokAt f z a).2) else [(0, z, 0)]
theorem letE_ge (f : Nat → Int32) (z : Nat) : ∀ k a, a ≤ letE f z k a ∧ (a ≤ z → letE f z k a ≤ z) := by
  intro k
  induction k with
  | zero => intro a; exact ⟨Nat.le_refl _, id⟩
  | succ j ih =>
    intro a
    rw [letE]
    split
    · rename_i h
      obtain ⟨i1, i2⟩ := ih (a + 1)
      exact ⟨by omega, fun _ => i2 (by omega)⟩
    · exact ⟨Nat.le_refl _, id⟩
theorem digE_ge (f : Nat → Int32) (z : Nat) : ∀ k a, a ≤ digE f z k a ∧ (a ≤ z → digE f z k a ≤ z) := by
  intro k
  induction k with
  | zero => intro a; exact ⟨Nat.le_refl _, id⟩
  | succ j ih =>
    intro a
    rw [digE]
    split
    · rename_i h
      obtain ⟨i1, i2⟩ := ih (a + 1)
      exact ⟨by omega, fun _ => i2 (by omega)⟩
    · exact ⟨Nat.le_refl _, id⟩
theorem letE_gt {f : Nat → Int32} {z a : Nat} (h : a < z) (hl : isLet (f a)) : a < letE f z (z - a) a := by
  obtain ⟨k, e⟩ : ∃ k, z - a = k + 1 := ⟨z - a - 1, by omega⟩
  rw [e, letE, if_pos ⟨h, hl⟩]
  have := (letE_ge f z k (a + 1)).1
  omega
theorem digE_gt {f : Nat → Int32} {z a : Nat} (h : a < z) (hl : isDig (f a)) : a < digE f z (z - a) a := by
  obtain ⟨k, e⟩ : ∃ k, z - a = k + 1 := ⟨z - a - 1, by omega⟩
  rw [e, digE, if_pos ⟨h, hl⟩]
  have := (digE_ge f z k (a + 1)).1
  omega
theorem tokAt_end {f : Nat → Int32} {z a : Nat} (h : a < z) : a < (tokAt f z a).2 ∧ (tokAt f z a).2 ≤ z := by
  unfold tokAt
  split
  · rename_i hl
    exact ⟨letE_gt h hl, (letE_ge f z (z - a) a).2 (by omega)⟩
  · split
    · rename_i hl
      split
      · exact ⟨digE_gt h hl, (digE_ge f z (z - a) a).2 (by omega)⟩
      · exact ⟨digE_gt h hl, (digE_ge f z (z - a) a).2 (by omega)⟩
    · exact ⟨by show a < a + 1; omega, by show a + 1 ≤ z; omega⟩
theorem toks_fuel (f : Nat → Int32) (z : Nat) : ∀ (k k' a : Nat), z - a ≤ k → z - a ≤ k' → toks f z k a = toks f z k' a := by
  intro k
  induction k with
  | zero =>
    intro k' a h h'
    cases k' with
    | zero => rfl
    | succ j => rw [toks, toks, if_neg (by omega)]
  | succ i ih =>
    intro k' a h h'
    cases k' with
    | zero => rw [toks, toks, if_neg (by omega)]
    | succ j =>
      rw [toks, toks]
      by_cases ha : a < z
      · rw [if_pos ha, if_pos ha, ih j (a + 1) (by omega) (by omega)]
        have := tokAt_end (f := f) ha
        rw [ih j (tokAt f z a).2 (by omega) (by omega)]
      · rw [if_neg ha, if_neg ha]
/-- all tokens from a byte on -/
def tokS (f : Nat → Int32) (z a : Nat) : List Tok := toks f z (z - a) a
theorem tokS_end {f : Nat → Int32} {z a : Nat} (h : ¬ a < z) : tokS f z a = [(0, z, 0)] := by
  unfold tokS
  rw [show z - a = 0 by omega]
  rfl
theorem tokS_bla {f : Nat → Int32} {z a : Nat} (h : a < z) (hb : isBla (f a)) : tokS f z a = tokS f z (a + 1) := by
  unfold tokS
  obtain ⟨k, e⟩ : ∃ k, z - a = k + 1 := ⟨z - a - 1, by omega⟩
  rw [e, toks, if_pos h, if_pos hb]
  exact toks_fuel f z _ _ _ (by omega) (by omega)
theorem tokS_tok {f : Nat → Int32} {z a : Nat} (h : a < z) (hb : ¬ isBla (f a)) : tokS f z a = (tokAt f z a).1 :: tokS f z (tokAt f z a).2 := by
  unfold tokS
  obtain ⟨k, e⟩ : ∃ k, z - a = k + 1 := ⟨z - a - 1, by omega⟩
  have := tokAt_end (f := f) h
  rw [e, toks, if_pos h, if_neg hb]
  rw [toks_fuel f z k (z - (tokAt f z a).2) _ (by omega) (by omega)]
/-- what tokens may be -/
def TokOk (t : Tok) : Prop := (t.1 = 2 → ∃ v, v < 10000 ∧ t.2.2 = nI v) ∧ (t.1 = 3 → ∃ v, v < 6 ∧ t.2.2 = nI v)
def Tgood (T : List Tok) : Prop := 0 < T.length ∧ (∀ k, k < T.length → ¬ ts T k = 0 → k + 1 < T.length) ∧ ∀ k, k < T.length → TokOk (tk T k)
theorem iteP {α : Type} {P : α → Prop} {c : Prop} [Decidable c] {x y : α} (h1 : P x) (h2 : P y) : P (if c then x else y) := by
  split
  · exact h1
  · exact h2
def kwP (x : Int32 × Int32) : Prop := ¬ x.1 = 0 ∧ ¬ x.1 = 2 ∧ (x.1 = 3 → ∃ v, v < 6 ∧ x.2 = nI v)
theorem kwP_3 {v : Nat} (h : v < 6) : kwP (3, nI v) := ⟨show ¬ (3 : Int32) = 0 by decide, show ¬ (3 : Int32) = 2 by decide, fun _ => ⟨v, h, rfl⟩⟩
theorem kwP_o {s : Int32} (h : s = 1 ∨ s = 4 ∨ s = 5 ∨ s = 6 ∨ s = 7 ∨ s = 8 ∨ s = 9) : kwP (s, 0) := by
  refine ⟨fun e => ?_, fun e => ?_, fun e => ?_⟩
  · have e : s = 0 := e
    rw [e] at h
    exact absurd h (by decide)
  · have e : s = 2 := e
    rw [e] at h
    exact absurd h (by decide)
  · have e : s = 3 := e
    rw [e] at h
    exact absurd h (by decide)
theorem kindW_ok (w : List Int32) : kwP (kindW w) :=
  iteP (P := kwP) (kwP_3 (v := 0) (by omega)) (iteP (P := kwP) (kwP_3 (v := 1) (by omega)) (iteP (P := kwP) (kwP_3 (v := 2) (by omega)) (iteP (P := kwP) (kwP_3 (v := 3) (by omega)) (iteP (P := kwP) (kwP_3 (v := 4) (by omega)) (iteP (P := kwP) (kwP_3 (v := 5) (by omega))
    (iteP (P := kwP) (kwP_o (by decide)) (iteP (P := kwP) (kwP_o (by decide)) (iteP (P := kwP) (kwP_o (by decide)) (iteP (P := kwP) (kwP_o (by decide)) (iteP (P := kwP) (kwP_o (by decide)) (iteP (P := kwP) (kwP_o (by decide)) (kwP_o (by decide)))))))))))))
theorem TokOk_1 {s : Int32} (a : Nat) (h : s = 0 ∨ s = 1) : TokOk (s, a, 0) := by
  refine ⟨fun e => ?_, fun e => ?_⟩
  · have e : s = 2 := e
    rw [e] at h
    exact absurd h (by decide)
  · have e : s = 3 := e
    rw [e] at h
    exact absurd h (by decide)
theorem digE_all (f : Nat → Int32) (z : Nat) : ∀ k a i, a ≤ i → i < digE f z k a → isDig (f i) := by
  intro k
  induction k with
  | zero => intro a i h1 h2; rw [digE] at h2; omega
  | succ j ih =>
    intro a i h1 h2
    rw [digE] at h2
    split at h2
    · rename_i h
      by_cases e : i = a
      · rw [e]; exact h.2
      · exact ih (a + 1) i (by omega) h2
    · omega
theorem letE_all (f : Nat → Int32) (z : Nat) : ∀ k a i, a ≤ i → i < letE f z k a → isLet (f i) := by
  intro k
  induction k with
  | zero => intro a i h1 h2; rw [letE] at h2; omega
  | succ j ih =>
    intro a i h1 h2
    rw [letE] at h2
    split at h2
    · rename_i h
      by_cases e : i = a
      · rw [e]; exact h.2
      · exact ih (a + 1) i (by omega) h2
    · omega
theorem numV_ok {f : Nat → Int32} {a : Nat} : ∀ k, k ≤ 4 → (∀ i, i < k → isDig (f (a + i))) → ∃ v, v < 10 ^ k ∧ numV f k a = nI v := by
  intro k
  induction k with
  | zero => intro _ _; exact ⟨0, by omega, rfl⟩
  | succ j ih =>
    intro hk hd
    obtain ⟨v, hv, ev⟩ := ih (by omega) (fun i hi => hd i (by omega))
    have h2 := hd j (by omega)
    obtain ⟨d, hd2, ed⟩ := nI_of2 (x := f (a + j)) (M := 57) (n := 57) (by decide) (Int32.not_lt.mpr (Int32.le_trans (by decide) h2.1)) h2.2
    have hd3 : 48 ≤ d := by
      by_cases z : 48 ≤ d
      · exact z
      · rw [ed] at h2
        exact absurd h2.1 (nI_ge (b := 48) (by omega) (by omega))
    refine ⟨v * 10 + (d - 48), ?_, ?_⟩
    · have : (10 : Nat) ^ (j + 1) = 10 ^ j * 10 := Nat.pow_succ ..
      omega
    · rw [numV, ev, ed, show (10 : Int32) = nI 10 from rfl, pk_mul, nI_add, show (48 : Int32) = nI 48 from rfl, pk_sub (by omega)]
      congr 1
      omega
theorem tokAt_ok {f : Nat → Int32} {z a : Nat} (h : a < z) : TokOk (tokAt f z a).1 ∧ ¬ (tokAt f z a).1.1 = 0 := by
  unfold tokAt
  split
  · obtain ⟨k1, k2, k3⟩ := kindW_ok (wordAt f a (letE f z (z - a) a))
    exact ⟨⟨fun e => absurd e k2, k3⟩, k1⟩
  · split
    · rename_i hl
      split
      · exact ⟨TokOk_1 a (Or.inr rfl), show ¬ (1 : Int32) = 0 by decide⟩
      · rename_i h4
        refine ⟨⟨fun _ => ?_, fun e => absurd e (show ¬ (2 : Int32) = 3 by decide)⟩, show ¬ (2 : Int32) = 0 by decide⟩
        obtain ⟨v, hv, e⟩ := numV_ok (f := f) (a := a) (digE f z (z - a) a - a) (by omega) (fun i hi => digE_all f z (z - a) a _ (by omega) (by omega))
        have : (10 : Nat) ^ (digE f z (z - a) a - a) ≤ 10 ^ 4 := Nat.pow_le_pow_right (by omega) (by omega)
        exact ⟨v, by omega, e⟩
    · split
      · rename_i hs
        refine ⟨⟨fun e => ?_, fun e => ?_⟩, fun e => ?_⟩
        · have e : f a = 2 := e
          rw [e] at hs
          exact absurd hs (by decide)
        · have e : f a = 3 := e
          rw [e] at hs
          exact absurd hs (by decide)
        · have e : f a = 0 := e
          rw [e] at hs
          exact absurd hs (by decide)
      · exact ⟨TokOk_1 a (Or.inr rfl), show ¬ (1 : Int32) = 0 by decide⟩
theorem tk_cons (t : Tok) (T : List Tok) (k : Nat) : tk (t :: T) (k + 1) = tk T k := by simp [tk]
theorem tk_zero (t : Tok) (T : List Tok) : tk (t :: T) 0 = t := by simp [tk]
theorem Tgood_cons {t : Tok} {T : List Tok} (h : Tgood T) (h1 : TokOk t) : Tgood (t :: T) := by
  obtain ⟨a1, a2, a3⟩ := h
  refine ⟨by simp, fun k hk hn => ?_, fun k hk => ?_⟩
  · cases k with
    | zero => simpa using a1
    | succ k =>
      have hk' : k < T.length := by simpa using hk
      have := a2 k hk' (by unfold ts at hn ⊢; rw [tk_cons] at hn; exact hn)
      simpa using this
  · cases k with
    | zero => rw [tk_zero]; exact h1
    | succ k =>
      rw [tk_cons]
      exact a3 k (by simpa using hk)
theorem tokS_good (f : Nat → Int32) (z : Nat) : ∀ (n a : Nat), z - a ≤ n → Tgood (tokS f z a) ∧ (tokS f z a).length ≤ z - a + 1 := by
  have h0 : Tgood [((0 : Int32), z, (0 : Int32))] := by
    refine ⟨by simp, fun k hk hn => ?_, fun k hk => ?_⟩
    · have : k = 0 := by simpa using hk
      subst this
      exact absurd rfl hn
    · have : k = 0 := by simpa using hk
      subst this
      exact TokOk_1 z (Or.inl rfl)
  intro n
  induction n with
  | zero =>
    intro a h
    rw [tokS_end (by omega)]
    exact ⟨h0, by simp⟩
  | succ n ih =>
    intro a h
    by_cases ha : a < z
    · by_cases hb : isBla (f a)
      · rw [tokS_bla ha hb]
        obtain ⟨i1, i2⟩ := ih (a + 1) (by omega)
        exact ⟨i1, by omega⟩
      · rw [tokS_tok ha hb]
        have he := tokAt_end (f := f) ha
        obtain ⟨i1, i2⟩ := ih (tokAt f z a).2 (by omega)
        exact ⟨Tgood_cons i1 (tokAt_ok ha).1, by simp; omega⟩
    · rw [tokS_end ha]
      exact ⟨h0, by simp⟩
/-- a TEXT: its three programs, or the place of its FAULT -/
def ptE (p : Int32) (T : List Tok) : Nat ⊕ (List Int32 × List Tok) := match T with
  | [] => .inl 0
  | t :: r => if t.1 = p then sy r true true [] [] else .inl t.2.1
def pt (T : List Tok) : Nat ⊕ (List Int32 × List Int32 × List Int32) := match ptE 4 T with
  | .inl x => .inl x
  | .inr (a, T1) => match ptE 5 T1 with
    | .inl x => .inl x
    | .inr (b, T2) => match ptE 6 T2 with
      | .inl x => .inl x
      | .inr (c, T3) => match T3 with
        | [] => .inl 0
        | t :: _ => if t.1 = 0 then .inr (a, b, c) else .inl t.2.1
end
section
-- 53.str
/-! texts: the string constants -/
set_option maxRecDepth 100000 in
theorem fk_val : Cond.fieldLink "java/lang/String" 9 "java/lang/String" "value" "[B" ∈ lwT := (lwT_of (List.mem_of_getElem? (i := 1670) rfl) rfl)
set_option maxRecDepth 100000 in
theorem fk_cod : Cond.fieldLink "java/lang/String" 15 "java/lang/String" "coder" "B" ∈ lwT := (lwT_of (List.mem_of_getElem? (i := 1671) rfl) rfl)
set_option maxRecDepth 100000 in
theorem fk_cs : Cond.fieldLink "java/lang/String" 38 "java/lang/String" "COMPACT_STRINGS" "Z" ∈ lwT := (lwT_of (List.mem_of_getElem? (i := 423) rfl) rfl)
set_option maxRecDepth 100000 in
theorem fk_si : Cond.fieldLink "java/lang/String" 1053 "jdk/internal/util/Preconditions" "SIOOBE_FORMATTER" "Ljava/util/function/BiFunction;" ∈ lwT := (lwT_of (List.mem_of_getElem? (i := 439) rfl) rfl)
section STR
variable {M : MI} {G : WG} {r : Nat × Nat × Nat} {S : Shp} {I : IM} {L : LM} {pc : Nat} {loc rest : List Value} {Post : PostT}
theorem x_getSV {idx i : Nat} (hd : decode (mcc M) pc = .ok (.getfield idx, 3)) (hl : Cond.fieldLink (my M).cls idx "java/lang/String" "value" "[B" ∈ lwT) (hi : i < nStr) (kk : X M G r S I L (pc + 3) loc (.ref (1000000 + (50 + i)) :: rest) Post) : X M G r S I L pc loc (.ref (1000000 + i) :: rest) Post := by
  intro p l e R s m args below meth c Q B H locs cells slots ls hc hs hR hS hL
  have K := kk p l e R s m args below meth c Q B H locs cells slots ls hc hs hR hS hL
  have e0 : (Value.ref (1000000 + i) :: rest).map (vmap G) = .ref (gf G i) :: rest.map (vmap G) := by
    show Value.ref (adr G (1000000 + i)) :: _ = _
    rw [adr_f]
  have e1 : (Value.ref (1000000 + (50 + i)) :: rest).map (vmap G) = .ref (gf G (50 + i)) :: rest.map (vmap G) := by
    show Value.ref (adr G (1000000 + (50 + i))) :: _ = _
    rw [adr_f]
  rw [e1] at K
  rw [e0]
  exact vk_getf B.1.1 B.1.2.1 (B.2.1.2.2.2.1.1 i hi).2.2.1 hS B.1.2.2.2.1 (B.1.2.2.2.2.1 _ hl) (fun x hx => hx) hd K
theorem x_getSC {idx i : Nat} (hd : decode (mcc M) pc = .ok (.getfield idx, 3)) (hl : Cond.fieldLink (my M).cls idx "java/lang/String" "coder" "B" ∈ lwT) (hi : i < nStr) (kk : X M G r S I L (pc + 3) loc (.int 0 :: rest) Post) : X M G r S I L pc loc (.ref (1000000 + i) :: rest) Post := by
  intro p l e R s m args below meth c Q B H locs cells slots ls hc hs hR hS hL
  have K := kk p l e R s m args below meth c Q B H locs cells slots ls hc hs hR hS hL
  have e0 : (Value.ref (1000000 + i) :: rest).map (vmap G) = .ref (gf G i) :: rest.map (vmap G) := by
    show Value.ref (adr G (1000000 + i)) :: _ = _
    rw [adr_f]
  rw [e0]
  exact vk_getf B.1.1 B.1.2.1 (B.2.1.2.2.2.1.1 i hi).2.1 hS B.1.2.2.2.1 (B.1.2.2.2.2.1 _ hl) (fun x hx => hx) hd K
theorem x_getsCS {idx : Nat} (hd : decode (mcc M) pc = .ok (.getstatic idx, 3)) (hl : Cond.fieldLink (my M).cls idx "java/lang/String" "COMPACT_STRINGS" "Z" ∈ lwT) (kk : X M G r S I L (pc + 3) loc (.int 1 :: rest) Post) : X M G r S I L pc loc rest Post := by
  intro p l e R s m args below meth c Q B H locs cells slots ls hc hs hR hS hL
  have K := kk p l e R s m args below meth c Q B H locs cells slots ls hc hs hR hS hL
  exact va_gets B.1.1 B.1.2.1 B.2.1.2.2.2.2.1 hS B.1.2.2.2.1 (B.1.2.2.2.2.1 _ hl) (fun x hx => hx) hd K
theorem x_getsSI {idx : Nat} (hd : decode (mcc M) pc = .ok (.getstatic idx, 3)) (hl : Cond.fieldLink (my M).cls idx "jdk/internal/util/Preconditions" "SIOOBE_FORMATTER" "Ljava/util/function/BiFunction;" ∈ lwT) (kk : ∀ v : Value, (v = .null ∨ v = .ref (1000000 + 150)) → X M G r S I L (pc + 3) loc (v :: rest) Post) : X M G r S I L pc loc rest Post := by
  intro p l e R s m args below meth c Q B H locs cells slots ls hc hs hR hS hL
  rcases B.2.1.2.2.2.2.2.1 with hz | hz
  · have K := kk .null (Or.inl rfl) p l e R s m args below meth c Q B H locs cells slots ls hc hs hR hS hL
    exact va_gets B.1.1 B.1.2.1 hz hS B.1.2.2.2.1 (B.1.2.2.2.2.1 _ hl) (fun x hx => hx) hd K
  · have K := kk (.ref (1000000 + 150)) (Or.inr rfl) p l e R s m args below meth c Q B H locs cells slots ls hc hs hR hS hL
    have e1 : (Value.ref (1000000 + 150) :: rest).map (vmap G) = .ref (gf G 150) :: rest.map (vmap G) := by
      show Value.ref (adr G (1000000 + 150)) :: _ = _
      rw [adr_f]
    rw [e1] at K
    exact va_gets B.1.1 B.1.2.1 hz hS B.1.2.2.2.1 (B.1.2.2.2.2.1 _ hl) (fun x hx => hx) hd K
theorem x_alenB {q : Nat} {v : Int32} (hd : decode (mcc M) pc = .ok (.arraylength, 1)) (hi : q < nStr) (hv : nI (stL.getD q 0) = v) (kk : X M G r S I L (pc + 1) loc (.int v :: rest) Post) : X M G r S I L pc loc (.ref (1000000 + (50 + q)) :: rest) Post := by
  intro p l e R s m args below meth c Q B H locs cells slots ls hc hs hR hS hL
  have K := kk p l e R s m args below meth c Q B H locs cells slots ls hc hs hR hS hL
  have e1 : (Value.ref (1000000 + (50 + q)) :: rest).map (vmap G) = .ref (gf G (50 + q)) :: rest.map (vmap G) := by
    show Value.ref (adr G (1000000 + (50 + q))) :: _ = _
    rw [adr_f]
  rw [e1]
  exact va_tlen B.1.1 B.1.2.1 (B.2.1.2.2.2.1.1 q hi).2.2.2 hS hv hd K
theorem x_baldB {q : Nat} {i v : Int32} (hd : decode (mcc M) pc = .ok (.baload, 1)) (hi : q < nStr) (hn : vp_in i (stL.getD q 0)) (hv : (stB.getD q []).getD i.toNatClampNeg 0 = v) (kk : X M G r S I L (pc + 1) loc (.int v :: rest) Post) : X M G r S I L pc loc (.int i :: .ref (1000000 + (50 + q)) :: rest) Post := by
  intro p l e R s m args below meth c Q B H locs cells slots ls hc hs hR hS hL
  have K := kk p l e R s m args below meth c Q B H locs cells slots ls hc hs hR hS hL
  have e1 : (Value.int i :: Value.ref (1000000 + (50 + q)) :: rest).map (vmap G) = .int i :: .ref (gf G (50 + q)) :: rest.map (vmap G) := by
    show Value.int i :: Value.ref (adr G (1000000 + (50 + q))) :: _ = _
    rw [adr_f]
  rw [e1]
  exact va_tb B.1.1 B.1.2.1 (B.2.1.2.2.2.1.1 q hi).2.2.2 hS hn (v := .int v) (by rw [hv]) hd K
theorem x_i2c {x v : Int32} (hd : decode (mcc M) pc = .ok (.i2c, 1)) (hv : (x.toUInt32 % 65536).toInt32 = v) (kk : X M G r S I L (pc + 1) loc (.int v :: rest) Post) : X M G r S I L pc loc (.int x :: rest) Post := by
  intro p l e R s m args below meth c Q B H locs cells slots ls hc hs hR hS hL
  exact lv_i2c B.1.1 B.1.2.1 hd hv (kk p l e R s m args below meth c Q B H locs cells slots ls hc hs hR hS hL)
end STR
section STC
variable {M M2 : MI} {G : WG} {d rc rs mc ms d2 : Nat} {S : Shp} {I : IM} {L : LM} {pc : Nat} {loc rest As : List Value} {Post : PostT} {Sp : SpT} {n idx : Nat}
/-- a call on a string constant -/
theorem x_callT {i : Nat} {st : List Value} (hM : Con M2 d2 mc ms Sp) (ho : VOk M2 n) (hl : Cond.methodLink (my M).cls idx (my M2) ∈ lwT) (hd : decode (mcc M) pc = .ok (.invokevirtual idx, 3)) (hdd : Nat.ble (d2 + 1) d = true) (hst : st = As.reverse ++ .ref (1000000 + i) :: rest) (hn : As.length = n) (hi : i < nStr) (hci : (my M2).cls = "java/lang/String") (hrest : Nat.ble (rest.map Value.category).sum 8 = true)
    (hSp : Sp (.ref (1000000 + i) :: As) S I L (fun v S' I' L' => X M G (d, rc, rs) S' I' L' (pc + 3) loc (v.toList ++ rest) Post)) : X M G (d, rc + mc, rs + ms) S I L pc loc st Post := by
  intro p l e R s m args below meth c Q B H locs cells slots ls hc hs hR hS hL
  subst hst
  obtain ⟨⟨o1, o2, o3, o4⟩, o5, o6⟩ := ho
  have hdd' : d2 + 1 ≤ d := Nat.le_of_ble_eq_true hdd
  have hf1 : d ≤ R.frames := B.2.2.2.2.2.1
  have hf2 : 500 * d ≤ R.locals := B.2.2.2.2.2.2
  dsimp only at hc hs
  have hrecv := vk_recv B.2.1.2.2.2.1 hi hS
  rw [← hci] at hrecv
  have ha : adr G (1000000 + i) = gf G i := adr_f G i
  have e0 : (As.reverse ++ Value.ref (1000000 + i) :: rest).map (vmap G) = (As.map (vmap G)).reverse ++ .ref (gf G i) :: rest.map (vmap G) := by
    rw [List.map_append, List.map_reverse, List.map_cons]
    show _ ++ Value.ref (adr G (1000000 + i)) :: _ = _
    rw [ha]
  have hpre := x_pre (As := .ref (1000000 + i) :: As) B hR hS
  have e1 : ((Value.ref (1000000 + i) :: As).map (vmap G)) = .ref (gf G i) :: As.map (vmap G) := by
    show Value.ref (adr G (1000000 + i)) :: _ = _
    rw [ha]
  rw [e1] at hpre
  rw [e0]
  refine x_back B (by omega) (by omega) hS hL (va_runV (nL := mnl M) (As := As.map (vmap G)) (rest := rest.map (vmap G)) (n := n) (Ts := lwT) (own := (my M).cls) (C := (my M2).cls) ⟨B.1.1, B.1.2.1, B.1.2.2.1, B.1.2.2.2.1, B.1.2.2.2.2.1⟩ (hM G l _ S I L _ hSp) (cwV n B.1.2.2.2.2.1 (good_in ?_) rfl rfl rfl ⟨rfl, o3⟩ ⟨by show d2 + 1 ≤ R.frames; omega, by show 8 + (mnl M2 + 11) + 500 * d2 ≤ R.locals; omega⟩) ⟨PP.blind, hrecv, hpre⟩ rfl (by rw [List.length_map]; exact hn) hL.1 rfl ?_ hd ⟨by omega, by omega⟩)
  · intro w hw
    rcases List.mem_append.mp hw with hw | hw
    · simp only [List.mem_cons, List.not_mem_nil, or_false] at hw
      rcases hw with rfl | rfl | rfl | rfl
      · exact hl
      · exact o5
      · exact o6
      · exact o2
    · exact mws_in o1 w hw
  · rw [cat_map]
    exact lv_room (pc := pc) (ls := ls) (m := m) (Nat.le_of_ble_eq_true hrest)
end STC
def sp_String_coder : SpT := fun as S I L Post => ∃ i : Nat, as = [.ref (1000000 + i)] ∧ i < nStr ∧ Post (some (.int 0)) S I L
set_option maxHeartbeats 4000000 in
set_option maxRecDepth 100000 in
theorem c_String_coder : Con mString_coder 2 0 0 sp_String_coder := by
  refine con_of_X rfl fun G as S I L Post hs => ?_
  obtain ⟨i, rfl, hi, h1⟩ := hs
  refine ⟨0, Nat.le_of_ble_eq_true rfl, ?_⟩
  show X mString_coder G _ S I L 0 [.ref (1000000 + i)] [] Post
  refine x_getsCS dString_coder_0 fk_cs ?_
  refine x_if_eq (tgt := 13) dString_coder_3 (by decide) (fun h => absurd h (by decide)) (fun _ => ?_)
  refine x_aload_n dString_coder_6 rfl ?_
  -- at 7: .getfield 15
  refine x_getSC dString_coder_7 fk_cod hi ?_
  refine x_goto (tgt := 14) dString_coder_10 (by decide) ?_
  -- at 14: .ireturn
  refine x_ireturn dString_coder_14 rfl rfl ?_
  exact h1
def sp_String_isLatin1 : SpT := fun as S I L Post => ∃ i : Nat, as = [.ref (1000000 + i)] ∧ i < nStr ∧ Post (some (.int 1)) S I L
set_option maxHeartbeats 4000000 in
set_option maxRecDepth 100000 in
theorem c_String_isLatin1 : Con mString_isLatin1 2 0 0 sp_String_isLatin1 := by
  refine con_of_X rfl fun G as S I L Post hs => ?_
  obtain ⟨i, rfl, hi, h1⟩ := hs
  refine ⟨0, Nat.le_of_ble_eq_true rfl, ?_⟩
  show X mString_isLatin1 G _ S I L 0 [.ref (1000000 + i)] [] Post
  refine x_getsCS dString_isLatin1_0 fk_cs ?_
  refine x_if_eq (tgt := 17) dString_isLatin1_3 (by decide) (fun h => absurd h (by decide)) (fun _ => ?_)
  refine x_aload_n dString_isLatin1_6 rfl ?_
  -- at 7: .getfield 15
  refine x_getSC dString_isLatin1_7 fk_cod hi ?_
  refine x_if_ne (tgt := 17) dString_isLatin1_10 (by decide) (fun h => absurd (by decide) h) (fun _ => ?_)
  refine x_iconst (v := 1) dString_isLatin1_13 rfl ?_
  refine x_goto (tgt := 18) dString_isLatin1_14 (by decide) ?_
  -- at 18: .ireturn
  refine x_ireturn dString_isLatin1_18 rfl rfl ?_
  exact h1
def sp_String_length : SpT := fun as S I L Post => ∃ i : Nat, as = [.ref (1000000 + i)] ∧ i < nStr ∧ Post (some (.int (nI (stL.getD i 0)))) S I L
set_option maxHeartbeats 4000000 in
set_option maxRecDepth 100000 in
theorem c_String_length : Con mString_length 3 0 0 sp_String_length := by
  refine con_of_X rfl fun G as S I L Post hs => ?_
  obtain ⟨i, rfl, hi, h1⟩ := hs
  refine ⟨0, Nat.le_of_ble_eq_true rfl, ?_⟩
  show X mString_length G _ S I L 0 [.ref (1000000 + i)] [] Post
  refine x_aload_n dString_length_0 rfl ?_
  -- at 1: .getfield 9
  refine x_getSV dString_length_1 fk_val hi ?_
  refine x_alenB dString_length_4 hi rfl ?_
  refine x_aload_n dString_length_5 rfl ?_
  -- at 6: .invokevirtual 335
  refine x_callT (As := []) (rest := [_]) c_String_coder ok_String_coder ml_String_335 dString_length_6 rfl rfl rfl hi rfl rfl ?_
  refine ⟨i, rfl, hi, ?_⟩
  refine x_ishr dString_length_9 ?_
  -- at 10: .ireturn
  refine x_eqi (y := nI (stL.getD i 0)) ?_ ?_
  · exact (show ∀ i, i < nStr → nI (stL.getD i 0) >>> (0 &&& 31) = nI (stL.getD i 0) by decide +kernel) i hi
  refine x_ireturn dString_length_10 rfl rfl ?_
  exact h1
def sp_Preconditions_checkIndex : SpT := fun as S I L Post => ∃ (i n : Int32) (v : Value), as = [.int i, .int n, v] ∧ (v = .null ∨ v = .ref (1000000 + 150)) ∧ 0 ≤ i ∧ i < n ∧ Post (some (.int i)) S I L
set_option maxHeartbeats 4000000 in
set_option maxRecDepth 100000 in
theorem c_Preconditions_checkIndex : Con mPreconditions_checkIndex 2 0 0 sp_Preconditions_checkIndex := by
  refine con_of_X rfl fun G as S I L Post hs => ?_
  obtain ⟨i, n, v, rfl, hv, h0, hn, h1⟩ := hs
  rcases hv with rfl | rfl
  · refine ⟨0, Nat.le_of_ble_eq_true rfl, ?_⟩
    show X mPreconditions_checkIndex G _ S I L 0 [.int i, .int n, .null] [] Post
    refine x_iload_n dPreconditions_checkIndex_0 rfl ?_
    -- at 1: .ifCond .lt 8
    refine x_if_lt (tgt := 9) dPreconditions_checkIndex_1 (by decide) (fun h => absurd h (Int32.not_lt.mpr h0)) (fun _ => ?_)
    refine x_iload_n dPreconditions_checkIndex_4 rfl ?_
    refine x_iload_n dPreconditions_checkIndex_5 rfl ?_
    -- at 6: .if_icmp .lt 10
    refine x_icmp_lt (tgt := 16) dPreconditions_checkIndex_6 (by decide) (fun _ => ?_) (fun h => absurd hn h)
    refine x_iload_n dPreconditions_checkIndex_16 rfl ?_
    -- at 17: .ireturn
    refine x_ireturn dPreconditions_checkIndex_17 rfl rfl ?_
    exact h1
  · refine ⟨0, Nat.le_of_ble_eq_true rfl, ?_⟩
    show X mPreconditions_checkIndex G _ S I L 0 [.int i, .int n, .ref (1000000 + 150)] [] Post
    refine x_iload_n dPreconditions_checkIndex_0 rfl ?_
    -- at 1: .ifCond .lt 8
    refine x_if_lt (tgt := 9) dPreconditions_checkIndex_1 (by decide) (fun h => absurd h (Int32.not_lt.mpr h0)) (fun _ => ?_)
    refine x_iload_n dPreconditions_checkIndex_4 rfl ?_
    refine x_iload_n dPreconditions_checkIndex_5 rfl ?_
    -- at 6: .if_icmp .lt 10
    refine x_icmp_lt (tgt := 16) dPreconditions_checkIndex_6 (by decide) (fun _ => ?_) (fun h => absurd hn h)
    refine x_iload_n dPreconditions_checkIndex_16 rfl ?_
    -- at 17: .ireturn
    refine x_ireturn dPreconditions_checkIndex_17 rfl rfl ?_
    exact h1
def sp_String_checkIndex : SpT := fun as S I L Post => ∃ i n : Int32, as = [.int i, .int n] ∧ 0 ≤ i ∧ i < n ∧ Post none S I L
set_option maxHeartbeats 4000000 in
set_option maxRecDepth 100000 in
theorem c_String_checkIndex : Con mString_checkIndex 3 0 0 sp_String_checkIndex := by
  refine con_of_X rfl fun G as S I L Post hs => ?_
  obtain ⟨i, n, rfl, h0, hn, h1⟩ := hs
  refine ⟨0, Nat.le_of_ble_eq_true rfl, ?_⟩
  show X mString_checkIndex G _ S I L 0 [.int i, .int n] [] Post
  refine x_iload_n dString_checkIndex_0 rfl ?_
  refine x_iload_n dString_checkIndex_1 rfl ?_
  -- at 2: .getstatic 1053
  refine x_getsSI dString_checkIndex_2 fk_si fun v hv => ?_
  refine x_callS_3 c_Preconditions_checkIndex ok_Preconditions_checkIndex ml_String_1059 dString_checkIndex_5 rfl rfl ?_
  refine ⟨i, n, v, rfl, hv, h0, hn, ?_⟩
  refine x_pop dString_checkIndex_8 rfl ?_
  -- at 9: .return_
  refine x_return dString_checkIndex_9 rfl ?_
  exact h1
theorem byt_ok : ∀ q, q < nStr → ∀ j, j < stL.getD q 0 → ∃ k, k < 128 ∧ (stB.getD q []).getD j 0 = nI k := by
  have h : ∀ q, q < nStr → ∀ j, j < stL.getD q 0 → 0 ≤ (stB.getD q []).getD j 0 ∧ (stB.getD q []).getD j 0 ≤ 127 := by decide +kernel
  intro q hq j hj
  obtain ⟨k, hk, e⟩ := inR_of (n := 127) (by decide) (h q hq j hj)
  exact ⟨k, by omega, e⟩
theorem chr_ok : ∀ k, k < 128 → ((nI k &&& 255).toUInt32 % 65536).toInt32 = nI k ∧ narrow .char (.int (nI k)) = .int (nI k) := by decide +kernel
theorem len_ok : ∀ q, q < nStr → stL.getD q 0 ≤ 75 := by decide
def sp_StringLatin1_charAt : SpT := fun as S I L Post => ∃ q j : Nat, as = [.ref (1000000 + (50 + q)), .int (nI j)] ∧ q < nStr ∧ j < stL.getD q 0 ∧ Post (some (.int ((stB.getD q []).getD j 0))) S I L
set_option maxHeartbeats 4000000 in
set_option maxRecDepth 100000 in
theorem c_StringLatin1_charAt : Con mStringLatin1_charAt 4 0 0 sp_StringLatin1_charAt := by
  refine con_of_X rfl fun G as S I L Post hs => ?_
  obtain ⟨q, j, rfl, hq, hj, h1⟩ := hs
  have hl := len_ok q hq
  refine ⟨0, Nat.le_of_ble_eq_true rfl, ?_⟩
  show X mStringLatin1_charAt G _ S I L 0 [.ref (1000000 + (50 + q)), .int (nI j)] [] Post
  refine x_iload_n dStringLatin1_charAt_0 rfl ?_
  refine x_aload_n dStringLatin1_charAt_1 rfl ?_
  -- at 2: .arraylength
  refine x_alenB dStringLatin1_charAt_2 hq rfl ?_
  refine x_callS_2 c_String_checkIndex ok_String_checkIndex ml_StringLatin1_9 dStringLatin1_charAt_3 rfl rfl ?_
  refine ⟨nI j, nI (stL.getD q 0), rfl, nI_le (a := 0) (by omega) (by omega), (nI_ltI (by omega) (by omega)).mpr hj, ?_⟩
  refine x_aload_n dStringLatin1_charAt_6 rfl ?_
  refine x_iload_n dStringLatin1_charAt_7 rfl ?_
  -- at 8: .baload
  obtain ⟨k, hk, ek⟩ := byt_ok q hq j hj
  obtain ⟨k1, k2⟩ := chr_ok k hk
  refine x_baldB dStringLatin1_charAt_8 hq (vp_in_nI hj (by omega)) (v := nI k) (by rw [nI_clamp (by omega)]; exact ek) ?_
  refine x_sipush (v := 255) dStringLatin1_charAt_9 rfl ?_
  refine x_iand dStringLatin1_charAt_12 ?_
  -- at 13: .i2c
  refine x_i2c dStringLatin1_charAt_13 k1 ?_
  refine x_ireturn dStringLatin1_charAt_14 rfl k2 ?_
  rw [ek] at h1
  exact h1
def sp_String_charAt : SpT := fun as S I L Post => ∃ q j : Nat, as = [.ref (1000000 + q), .int (nI j)] ∧ q < nStr ∧ j < stL.getD q 0 ∧ Post (some (.int ((stB.getD q []).getD j 0))) S I L
set_option maxHeartbeats 4000000 in
set_option maxRecDepth 100000 in
theorem c_String_charAt : Con mString_charAt 6 0 0 sp_String_charAt := by
  refine con_of_X rfl fun G as S I L Post hs => ?_
  obtain ⟨q, j, rfl, hq, hj, h1⟩ := hs
  refine ⟨0, Nat.le_of_ble_eq_true rfl, ?_⟩
  show X mString_charAt G _ S I L 0 [.ref (1000000 + q), .int (nI j)] [] Post
  refine x_aload_n dString_charAt_0 rfl ?_
  -- at 1: .invokevirtual 492
  refine x_callT (As := []) (rest := []) c_String_isLatin1 ok_String_isLatin1 ml_String_492 dString_charAt_1 rfl rfl rfl hq rfl rfl ?_
  refine ⟨q, rfl, hq, ?_⟩
  refine x_if_eq (tgt := 16) dString_charAt_4 (by decide) (fun h => absurd h (by decide)) (fun _ => ?_)
  refine x_aload_n dString_charAt_7 rfl ?_
  -- at 8: .getfield 9
  refine x_getSV dString_charAt_8 fk_val hq ?_
  refine x_iload_n dString_charAt_11 rfl ?_
  -- at 12: .invokestatic 495
  refine x_callS_2 c_StringLatin1_charAt ok_StringLatin1_charAt ml_String_495 dString_charAt_12 rfl rfl ?_
  refine ⟨q, j, rfl, hq, hj, ?_⟩
  obtain ⟨k, hk, ek⟩ := byt_ok q hq j hj
  rw [ek] at h1 ⊢
  refine x_ireturn dString_charAt_15 rfl (chr_ok k hk).2 ?_
  exact h1
end
section
-- 54.cut
/-! texts: the class cuts THE TAPE into tokens -/
def sp_Reader_isLetter : SpT := fun as S I L Post => ∃ b : Int32, as = [.int b] ∧ bPost (isLet b) S I L Post
set_option maxHeartbeats 4000000 in
set_option maxRecDepth 100000 in
theorem c_Reader_isLetter : Con mReader_isLetter 3 0 0 sp_Reader_isLetter := by
  refine con_of_X rfl fun G as S I L Post hs => ?_
  obtain ⟨b, rfl, h1, h2⟩ := hs
  refine ⟨0, Nat.le_of_ble_eq_true rfl, ?_⟩
  show X mReader_isLetter G _ S I L 0 [.int b] [] Post
  refine x_iload_n dReader_isLetter_0 rfl ?_
  refine x_bipush (v := 97) dReader_isLetter_1 rfl ?_
  refine x_bipush (v := 122) dReader_isLetter_3 rfl ?_
  -- at 5: .invokestatic 126
  refine x_callSN_3 c_W_within ok_W_within nw_Reader_126 dReader_isLetter_5 rfl rfl ?_
  refine ⟨_, _, _, rfl, fun q => ?_, fun q => ?_⟩
  · refine x_ireturn dReader_isLetter_8 rfl rfl ?_
    exact h1 q
  · refine x_ireturn dReader_isLetter_8 rfl rfl ?_
    exact h2 q
def sp_Reader_isDigit : SpT := fun as S I L Post => ∃ b : Int32, as = [.int b] ∧ bPost (isDig b) S I L Post
set_option maxHeartbeats 4000000 in
set_option maxRecDepth 100000 in
theorem c_Reader_isDigit : Con mReader_isDigit 3 0 0 sp_Reader_isDigit := by
  refine con_of_X rfl fun G as S I L Post hs => ?_
  obtain ⟨b, rfl, h1, h2⟩ := hs
  refine ⟨0, Nat.le_of_ble_eq_true rfl, ?_⟩
  show X mReader_isDigit G _ S I L 0 [.int b] [] Post
  refine x_iload_n dReader_isDigit_0 rfl ?_
  refine x_bipush (v := 48) dReader_isDigit_1 rfl ?_
  refine x_bipush (v := 57) dReader_isDigit_3 rfl ?_
  -- at 5: .invokestatic 126
  refine x_callSN_3 c_W_within ok_W_within nw_Reader_126 dReader_isDigit_5 rfl rfl ?_
  refine ⟨_, _, _, rfl, fun q => ?_, fun q => ?_⟩
  · refine x_ireturn dReader_isDigit_8 rfl rfl ?_
    exact h1 q
  · refine x_ireturn dReader_isDigit_8 rfl rfl ?_
    exact h2 q
def sp_Reader_isSign : SpT := fun as S I L Post => ∃ b : Int32, as = [.int b] ∧ bPost (isSig b) S I L Post
set_option maxHeartbeats 4000000 in
set_option maxRecDepth 100000 in
theorem c_Reader_isSign : Con mReader_isSign 2 0 0 sp_Reader_isSign := by
  refine con_of_X rfl fun G as S I L Post hs => ?_
  obtain ⟨b, rfl, h1, h2⟩ := hs
  refine ⟨0, Nat.le_of_ble_eq_true rfl, ?_⟩
  show X mReader_isSign G _ S I L 0 [.int b] [] Post
  refine x_iload_n dReader_isSign_0 rfl ?_
  -- at 1: .tableswitch 105 40 61 #[103, 103, 103, 103, 105, 103, 105, 105, 105, 105, 105, 105, 105, 105, 105, 105, 105, 105, 105, 103, 103, 103]
  have yes : isSig b → X mReader_isSign G (2, 0, 0) S I L 104 [.int b] [] Post := by
    intro h
    refine x_iconst (v := 1) dReader_isSign_104 rfl ?_
    -- at 105: .ireturn
    refine x_ireturn dReader_isSign_105 rfl rfl ?_
    exact h1 h
  have no : ¬ isSig b → X mReader_isSign G (2, 0, 0) S I L 106 [.int b] [] Post := by
    intro h
    refine x_iconst (v := 0) dReader_isSign_106 rfl ?_
    -- at 107: .ireturn
    refine x_ireturn dReader_isSign_107 rfl rfl ?_
    exact h2 h
  by_cases hr : b.toInt < 40 ∨ (61 : Int) < b.toInt
  · refine x_tableOut (tgt := 106) dReader_isSign_1 hr (by decide) ?_
    refine no ?_
    rintro (e | e | e | e | e | e | e | e) <;> rw [e] at hr <;> exact absurd hr (by decide)
  · have hb : ∃ k, k ≤ 61 ∧ b = nI k := by
      refine nI_of2 (M := 61) (n := 61) (by decide) (fun z => hr (Or.inl ?_)) (Int32.le_iff_toInt_le.mpr ?_)
      · have := Int32.lt_iff_toInt_lt.mp z
        have e0 : (0 : Int32).toInt = 0 := by decide
        omega
      · have e1 : (61 : Int32).toInt = 61 := by decide
        omega
    obtain ⟨k, hk, rfl⟩ := hb
    rw [nI_toInt (by omega)] at hr
    rcases (show k = 40 ∨ k = 41 ∨ k = 42 ∨ k = 43 ∨ k = 44 ∨ k = 45 ∨ k = 46 ∨ k = 47 ∨ k = 48 ∨ k = 49 ∨ k = 50 ∨ k = 51 ∨ k = 52 ∨ k = 53 ∨ k = 54 ∨ k = 55 ∨ k = 56 ∨ k = 57 ∨ k = 58 ∨ k = 59 ∨ k = 60 ∨ k = 61 by omega) with rfl | rfl | rfl | rfl | rfl | rfl | rfl | rfl | rfl | rfl | rfl | rfl | rfl | rfl | rfl | rfl | rfl | rfl | rfl | rfl | rfl | rfl
    all_goals first
      | (refine x_tableIn (tgt := 104) dReader_isSign_1 (by decide) (by decide) rfl (by decide) ?_; exact yes (by decide))
      | (refine x_tableIn (tgt := 106) dReader_isSign_1 (by decide) (by decide) rfl (by decide) ?_; exact no (by decide))
def sp_Reader_lettersEnd : SpT := fun as S I L Post => ∃ a z : Nat, as = [.ref 23, .int (nI a)] ∧ S = S1 ∧ I 23 1 = nI z ∧ z ≤ 160 ∧ a ≤ z ∧ Post (some (.int (nI (letE (I 24) z (z - a) a)))) S1 I L
set_option maxHeartbeats 4000000 in
set_option maxRecDepth 100000 in
theorem c_Reader_lettersEnd : Con mReader_lettersEnd 4 0 0 sp_Reader_lettersEnd := by
  refine con_of_X rfl fun G as S I L Post hs => ?_
  obtain ⟨a, z, rfl, rfl, hz, hz2, ha, h1⟩ := hs
  refine ⟨1, Nat.le_of_ble_eq_true rfl, ?_⟩
  show X mReader_lettersEnd G _ S1 I L 0 [.ref 23, .int (nI a), .null] [] Post
  refine x_iload_n dReader_lettersEnd_0 rfl ?_
  refine x_istoren_2 dReader_lettersEnd_1 rfl rfl ?_
  -- at 2: .iload_n 2
  have loop : ∀ (k i : Nat), i + k = z → letE (I 24) z (z - a) a = letE (I 24) z k i → X mReader_lettersEnd G (4, 0, 0) S1 I L 2 [.ref 23, .int (nI a), .int (nI i)] [] Post := by
    intro k
    induction k with
    | zero =>
      intro i hi he
      obtain rfl : i = z := by omega
      refine x_iload_n dReader_lettersEnd_2 rfl ?_
      refine x_aload_n dReader_lettersEnd_3 rfl ?_
      refine x_getI fl_Reader_15 rfl dReader_lettersEnd_4 rfl rfl ?_
      -- at 7: .if_icmp .ge 21
      rw [hz]
      refine x_icmp_ge (tgt := 28) dReader_lettersEnd_7 (by decide) (fun _ => ?_) (fun h => absurd (Int32.le_refl _) h)
      refine x_iload_n dReader_lettersEnd_28 rfl ?_
      -- at 29: .ireturn
      refine x_ireturn dReader_lettersEnd_29 rfl rfl ?_
      rw [he] at h1
      exact h1
    | succ k ih =>
      intro i hi he
      rw [letE] at he
      refine x_iload_n dReader_lettersEnd_2 rfl ?_
      refine x_aload_n dReader_lettersEnd_3 rfl ?_
      refine x_getI fl_Reader_15 rfl dReader_lettersEnd_4 rfl rfl ?_
      -- at 7: .if_icmp .ge 21
      rw [hz]
      refine x_icmp_ge (tgt := 28) dReader_lettersEnd_7 (by decide) (fun h => absurd h (nI_ge (b := z) (by omega) (by omega))) (fun _ => ?_)
      refine x_aload_n dReader_lettersEnd_10 rfl ?_
      refine x_getR fl_Reader_9 rfl dReader_lettersEnd_11 rfl rfl rfl ?_
      refine x_iload_n dReader_lettersEnd_14 rfl ?_
      refine x_ialdJ (j := i) dReader_lettersEnd_15 rfl rfl (by first | rfl | (simp only [← nI_add, ← pk_mul]; rfl)) (by omega) ?_
      -- at 16: .invokestatic 54
      refine x_callS_1 c_Reader_isLetter ok_Reader_isLetter ml_Reader_54 dReader_lettersEnd_16 rfl rfl ?_
      refine ⟨_, rfl, fun q => ?_, fun q => ?_⟩
      · rw [if_pos ⟨by omega, q⟩] at he
        refine x_if_eq (tgt := 28) dReader_lettersEnd_19 (by decide) (fun h => absurd h (by decide)) (fun _ => ?_)
        refine x_iincp_2 dReader_lettersEnd_22 rfl rfl ?_
        refine x_goto (tgt := 2) dReader_lettersEnd_25 (by decide) ?_
        -- at 2: .iload_n 2
        rw [nI_1]
        exact ih (i + 1) (by omega) he
      · rw [if_neg (fun y => q y.2)] at he
        refine x_if_eq (tgt := 28) dReader_lettersEnd_19 (by decide) (fun _ => ?_) (fun h => absurd (by decide) h)
        refine x_iload_n dReader_lettersEnd_28 rfl ?_
        -- at 29: .ireturn
        refine x_ireturn dReader_lettersEnd_29 rfl rfl ?_
        rw [he] at h1
        exact h1
  exact loop (z - a) a (by omega) rfl
def sp_Reader_digitsEnd : SpT := fun as S I L Post => ∃ a z : Nat, as = [.ref 23, .int (nI a)] ∧ S = S1 ∧ I 23 1 = nI z ∧ z ≤ 160 ∧ a ≤ z ∧ Post (some (.int (nI (digE (I 24) z (z - a) a)))) S1 I L
set_option maxHeartbeats 4000000 in
set_option maxRecDepth 100000 in
theorem c_Reader_digitsEnd : Con mReader_digitsEnd 4 0 0 sp_Reader_digitsEnd := by
  refine con_of_X rfl fun G as S I L Post hs => ?_
  obtain ⟨a, z, rfl, rfl, hz, hz2, ha, h1⟩ := hs
  refine ⟨1, Nat.le_of_ble_eq_true rfl, ?_⟩
  show X mReader_digitsEnd G _ S1 I L 0 [.ref 23, .int (nI a), .null] [] Post
  refine x_iload_n dReader_digitsEnd_0 rfl ?_
  refine x_istoren_2 dReader_digitsEnd_1 rfl rfl ?_
  -- at 2: .iload_n 2
  have loop : ∀ (k i : Nat), i + k = z → digE (I 24) z (z - a) a = digE (I 24) z k i → X mReader_digitsEnd G (4, 0, 0) S1 I L 2 [.ref 23, .int (nI a), .int (nI i)] [] Post := by
    intro k
    induction k with
    | zero =>
      intro i hi he
      obtain rfl : i = z := by omega
      refine x_iload_n dReader_digitsEnd_2 rfl ?_
      refine x_aload_n dReader_digitsEnd_3 rfl ?_
      refine x_getI fl_Reader_15 rfl dReader_digitsEnd_4 rfl rfl ?_
      -- at 7: .if_icmp .ge 21
      rw [hz]
      refine x_icmp_ge (tgt := 28) dReader_digitsEnd_7 (by decide) (fun _ => ?_) (fun h => absurd (Int32.le_refl _) h)
      refine x_iload_n dReader_digitsEnd_28 rfl ?_
      -- at 29: .ireturn
      refine x_ireturn dReader_digitsEnd_29 rfl rfl ?_
      rw [he] at h1
      exact h1
    | succ k ih =>
      intro i hi he
      rw [digE] at he
      refine x_iload_n dReader_digitsEnd_2 rfl ?_
      refine x_aload_n dReader_digitsEnd_3 rfl ?_
      refine x_getI fl_Reader_15 rfl dReader_digitsEnd_4 rfl rfl ?_
      -- at 7: .if_icmp .ge 21
      rw [hz]
      refine x_icmp_ge (tgt := 28) dReader_digitsEnd_7 (by decide) (fun h => absurd h (nI_ge (b := z) (by omega) (by omega))) (fun _ => ?_)
      refine x_aload_n dReader_digitsEnd_10 rfl ?_
      refine x_getR fl_Reader_9 rfl dReader_digitsEnd_11 rfl rfl rfl ?_
      refine x_iload_n dReader_digitsEnd_14 rfl ?_
      refine x_ialdJ (j := i) dReader_digitsEnd_15 rfl rfl (by first | rfl | (simp only [← nI_add, ← pk_mul]; rfl)) (by omega) ?_
      -- at 16: .invokestatic 65
      refine x_callS_1 c_Reader_isDigit ok_Reader_isDigit ml_Reader_65 dReader_digitsEnd_16 rfl rfl ?_
      refine ⟨_, rfl, fun q => ?_, fun q => ?_⟩
      · rw [if_pos ⟨by omega, q⟩] at he
        refine x_if_eq (tgt := 28) dReader_digitsEnd_19 (by decide) (fun h => absurd h (by decide)) (fun _ => ?_)
        refine x_iincp_2 dReader_digitsEnd_22 rfl rfl ?_
        refine x_goto (tgt := 2) dReader_digitsEnd_25 (by decide) ?_
        -- at 2: .iload_n 2
        rw [nI_1]
        exact ih (i + 1) (by omega) he
      · rw [if_neg (fun y => q y.2)] at he
        refine x_if_eq (tgt := 28) dReader_digitsEnd_19 (by decide) (fun _ => ?_) (fun h => absurd (by decide) h)
        refine x_iload_n dReader_digitsEnd_28 rfl ?_
        -- at 29: .ireturn
        refine x_ireturn dReader_digitsEnd_29 rfl rfl ?_
        rw [he] at h1
        exact h1
  exact loop (z - a) a (by omega) rfl
/-- one token more -/
def ptk (I : IM) (n : Nat) (s p v : Int32) : IM := up2 (up2 (up2 (up2 I 25 n s) 26 n p) 27 n v) 23 5 (nI n + 1)
def sp_Reader_putToken : SpT := fun as S I L Post => ∃ (n : Nat) (s p v : Int32), as = [.ref 23, .int s, .int p, .int v] ∧ S = S1 ∧ I 23 5 = nI n ∧ n ≤ 160 ∧ Post none S1 (ptk I n s p v) L
set_option maxHeartbeats 4000000 in
set_option maxRecDepth 100000 in
theorem c_Reader_putToken : Con mReader_putToken 2 0 0 sp_Reader_putToken := by
  refine con_of_X rfl fun G as S I L Post hs => ?_
  obtain ⟨n, s, p, v, rfl, rfl, hn, h160, h1⟩ := hs
  refine ⟨0, Nat.le_of_ble_eq_true rfl, ?_⟩
  show X mReader_putToken G _ S1 I L 0 [.ref 23, .int s, .int p, .int v] [] Post
  refine x_aload_n dReader_putToken_0 rfl ?_
  refine x_getI fl_Reader_28 rfl dReader_putToken_1 rfl rfl ?_
  refine x_sipush (v := 160) dReader_putToken_4 rfl ?_
  -- at 7: .if_icmp .gt 43
  rw [hn]
  refine x_icmp_gt (tgt := 50) dReader_putToken_7 (by decide) (fun h => absurd h (Int32.not_lt.mpr (nI_le (b := 160) h160 (by omega)))) (fun _ => ?_)
  refine x_aload_n dReader_putToken_10 rfl ?_
  refine x_getR fl_Reader_19 rfl dReader_putToken_11 rfl rfl rfl ?_
  refine x_aload_n dReader_putToken_14 rfl ?_
  refine x_getI fl_Reader_28 rfl dReader_putToken_15 rfl rfl ?_
  -- at 18: .iload_n 1
  rw [hn]
  refine x_iload_n dReader_putToken_18 rfl ?_
  refine x_iastJ (j := n) dReader_putToken_19 rfl rfl (by first | rfl | (simp only [← nI_add, ← pk_mul]; rfl)) (by omega) ?_
  refine x_aload_n dReader_putToken_20 rfl ?_
  refine x_getR fl_Reader_22 rfl dReader_putToken_21 rfl rfl rfl ?_
  refine x_aload_n dReader_putToken_24 rfl ?_
  refine x_getI fl_Reader_28 rfl dReader_putToken_25 rfl rfl ?_
  -- at 28: .iload_n 2
  simp only [up2_n, up2_s, ne_eq, Nat.reduceEqDiff, not_false_eq_true, hn]
  refine x_iload_n dReader_putToken_28 rfl ?_
  refine x_iastJ (j := n) dReader_putToken_29 rfl rfl (by first | rfl | (simp only [← nI_add, ← pk_mul]; rfl)) (by omega) ?_
  refine x_aload_n dReader_putToken_30 rfl ?_
  refine x_getR fl_Reader_25 rfl dReader_putToken_31 rfl rfl rfl ?_
  refine x_aload_n dReader_putToken_34 rfl ?_
  refine x_getI fl_Reader_28 rfl dReader_putToken_35 rfl rfl ?_
  -- at 38: .iload_n 3
  simp only [up2_n, up2_s, ne_eq, Nat.reduceEqDiff, not_false_eq_true, hn]
  refine x_iload_n dReader_putToken_38 rfl ?_
  refine x_iastJ (j := n) dReader_putToken_39 rfl rfl (by first | rfl | (simp only [← nI_add, ← pk_mul]; rfl)) (by omega) ?_
  refine x_aload_n dReader_putToken_40 rfl ?_
  refine x_dup dReader_putToken_41 rfl ?_
  refine x_getI fl_Reader_28 rfl dReader_putToken_42 rfl rfl ?_
  refine x_iconst (v := 1) dReader_putToken_45 rfl ?_
  refine x_iadd dReader_putToken_46 ?_
  refine x_putI fl_Reader_28 rfl dReader_putToken_47 (by decide) rfl rfl rfl rfl ?_
  -- at 50: .return_
  simp only [up2_n, up2_s, ne_eq, Nat.reduceEqDiff, not_false_eq_true, hn]
  refine x_return dReader_putToken_50 rfl ?_
  exact h1
def sp_Reader_putNumber : SpT := fun as S I L Post => ∃ a e n : Nat, as = [.ref 23, .int (nI a), .int (nI e)] ∧ S = S1 ∧ I 23 5 = nI n ∧ n ≤ 160 ∧ a ≤ e ∧ e ≤ 160 ∧
  Post none S1 (if 4 < e - a then ptk I n 1 (nI a) 0 else ptk I n 2 (nI a) (numV (I 24) (e - a) a)) L
set_option maxHeartbeats 4000000 in
set_option maxRecDepth 100000 in
theorem c_Reader_putNumber : Con mReader_putNumber 3 0 0 sp_Reader_putNumber := by
  refine con_of_X rfl fun G as S I L Post hs => ?_
  obtain ⟨a, e, n, rfl, rfl, hn, h160, hae, he, h1⟩ := hs
  refine ⟨2, Nat.le_of_ble_eq_true rfl, ?_⟩
  show X mReader_putNumber G _ S1 I L 0 [.ref 23, .int (nI a), .int (nI e), .null, .null] [] Post
  refine x_iload_n dReader_putNumber_0 rfl ?_
  refine x_iload_n dReader_putNumber_1 rfl ?_
  refine x_isub dReader_putNumber_2 ?_
  -- at 3: .iconst 4
  refine x_eqi (y := nI (e - a)) (pk_sub hae) ?_
  refine x_iconst (v := 4) dReader_putNumber_3 rfl ?_
  -- at 4: .if_icmp .le 11
  by_cases h4 : 4 < e - a
  · rw [if_pos h4] at h1
    refine x_icmp_le (tgt := 15) dReader_putNumber_4 (by decide) (fun h => absurd h (nI_ge (a := 4) h4 (by omega))) (fun _ => ?_)
    refine x_aload_n dReader_putNumber_7 rfl ?_
    refine x_iconst (v := 1) dReader_putNumber_8 rfl ?_
    refine x_iload_n dReader_putNumber_9 rfl ?_
    refine x_iconst (v := 0) dReader_putNumber_10 rfl ?_
    -- at 11: .invokevirtual 77
    refine x_callV_3 c_Reader_putToken ok_Reader_putToken ml_Reader_77 dReader_putNumber_11 rfl rfl rfl rfl rfl ?_
    refine ⟨n, _, _, _, rfl, rfl, hn, h160, ?_⟩
    refine x_return dReader_putNumber_14 rfl ?_
    exact h1
  · rw [if_neg h4] at h1
    refine x_icmp_le (tgt := 15) dReader_putNumber_4 (by decide) (fun _ => ?_) (fun h => absurd (nI_le (b := 4) (by omega) (by omega)) h)
    refine x_iconst (v := 0) dReader_putNumber_15 rfl ?_
    refine x_istoren_3 dReader_putNumber_16 rfl rfl ?_
    refine x_iload_n dReader_putNumber_17 rfl ?_
    refine x_istore_4 dReader_putNumber_18 rfl rfl ?_
    -- at 20: .iload 4
    have loop : ∀ (k i : Nat) (acc : Int32), i + k = e - a → acc = numV (I 24) i a → X mReader_putNumber G (3, 0, 0) S1 I L 20 [.ref 23, .int (nI a), .int (nI e), .int acc, .int (nI (a + i))] [] Post := by
      intro k
      induction k with
      | zero =>
        intro i acc hi hacc
        refine x_iload dReader_putNumber_20 rfl ?_
        refine x_iload_n dReader_putNumber_22 rfl ?_
        -- at 23: .if_icmp .ge 25
        refine x_icmp_ge (tgt := 48) dReader_putNumber_23 (by decide) (fun _ => ?_) (fun h => absurd (nI_le (by omega) (by omega)) h)
        refine x_aload_n dReader_putNumber_48 rfl ?_
        refine x_iconst (v := 2) dReader_putNumber_49 rfl ?_
        refine x_iload_n dReader_putNumber_50 rfl ?_
        refine x_iload_n dReader_putNumber_51 rfl ?_
        -- at 52: .invokevirtual 77
        refine x_callV_3 c_Reader_putToken ok_Reader_putToken ml_Reader_77 dReader_putNumber_52 rfl rfl rfl rfl rfl ?_
        refine ⟨n, _, _, _, rfl, rfl, hn, h160, ?_⟩
        refine x_return dReader_putNumber_55 rfl ?_
        obtain rfl : i = e - a := by omega
        rw [hacc]
        exact h1
      | succ k ih =>
        intro i acc hi hacc
        refine x_iload dReader_putNumber_20 rfl ?_
        refine x_iload_n dReader_putNumber_22 rfl ?_
        -- at 23: .if_icmp .ge 25
        refine x_icmp_ge (tgt := 48) dReader_putNumber_23 (by decide) (fun h => absurd h (nI_ge (b := e) (by omega) (by omega))) (fun _ => ?_)
        refine x_iload_n dReader_putNumber_26 rfl ?_
        refine x_bipush (v := 10) dReader_putNumber_27 rfl ?_
        refine x_imul dReader_putNumber_29 ?_
        refine x_aload_n dReader_putNumber_30 rfl ?_
        refine x_getR fl_Reader_9 rfl dReader_putNumber_31 rfl rfl rfl ?_
        refine x_iload dReader_putNumber_34 rfl ?_
        refine x_ialdJ (j := a + i) dReader_putNumber_36 rfl rfl (by first | rfl | (simp only [← nI_add, ← pk_mul]; rfl)) (by omega) ?_
        refine x_iadd dReader_putNumber_37 ?_
        refine x_bipush (v := 48) dReader_putNumber_38 rfl ?_
        refine x_isub dReader_putNumber_40 ?_
        refine x_istoren_3 dReader_putNumber_41 rfl rfl ?_
        refine x_iincp_4 dReader_putNumber_42 rfl rfl ?_
        refine x_goto (tgt := 20) dReader_putNumber_45 (by decide) ?_
        -- at 20: .iload 4
        rw [nI_1]
        refine ih (i + 1) _ (by omega) ?_
        rw [numV, hacc]
    exact loop (e - a) 0 0 (by omega) rfl
/-- a word spells a string constant -/
theorem word_eq {f : Nat → Int32} {a e q : Nat} (hq : q < nStr) (hl : stL.getD q 0 = e - a) (h : ∀ i, i < e - a → (stB.getD q []).getD i 0 = f (a + i)) : wordAt f a e = stB.getD q [] := by
  have hlen : (stB.getD q []).length = stL.getD q 0 := (show ∀ q, q < nStr → (stB.getD q []).length = stL.getD q 0 by decide) q hq
  apply List.ext_getElem
  · rw [show (wordAt f a e).length = e - a by simp [wordAt], hlen, hl]
  · intro i h1 h2
    simp [wordAt] at h1
    have := h i (by omega)
    rw [List.getD_eq_getElem?_getD, List.getElem?_eq_getElem h2] at this
    simp [wordAt]
    exact this.symm
theorem word_ne1 {f : Nat → Int32} {a e q : Nat} (hq : q < nStr) (hl : ¬ stL.getD q 0 = e - a) : ¬ wordAt f a e = stB.getD q [] := by
  intro z
  have hlen : (stB.getD q []).length = stL.getD q 0 := (show ∀ q, q < nStr → (stB.getD q []).length = stL.getD q 0 by decide) q hq
  have h1 : (wordAt f a e).length = e - a := by simp [wordAt]
  rw [z, hlen] at h1
  exact hl h1
theorem word_ne2 {f : Nat → Int32} {a e q i : Nat} (hi : i < e - a) (h : ¬ (stB.getD q []).getD i 0 = f (a + i)) : ¬ wordAt f a e = stB.getD q [] := by
  intro z
  apply h
  rw [← z]
  simp [wordAt, List.getD_eq_getElem?_getD, hi]
def sp_Reader_spells : SpT := fun as S I L Post => ∃ q a e : Nat, as = [.ref 23, .ref (1000000 + q), .int (nI a), .int (nI e)] ∧ S = S1 ∧ q < nStr ∧ a ≤ e ∧ e ≤ 160 ∧ bPost (wordAt (I 24) a e = stB.getD q []) S1 I L Post
set_option maxHeartbeats 4000000 in
set_option maxRecDepth 100000 in
theorem c_Reader_spells : Con mReader_spells 7 0 0 sp_Reader_spells := by
  refine con_of_X rfl fun G as S I L Post hs => ?_
  obtain ⟨q, a, e, rfl, rfl, hq, hae, he, h1, h2⟩ := hs
  have h75 := len_ok q hq
  refine ⟨1, Nat.le_of_ble_eq_true rfl, ?_⟩
  show X mReader_spells G _ S1 I L 0 [.ref 23, .ref (1000000 + q), .int (nI a), .int (nI e), .null] [] Post
  refine x_aload_n dReader_spells_0 rfl ?_
  -- at 1: .invokevirtual 116
  refine x_callT (As := []) (rest := []) c_String_length ok_String_length ml_Reader_116 dReader_spells_1 rfl rfl rfl hq rfl rfl ?_
  refine ⟨q, rfl, hq, ?_⟩
  refine x_iload_n dReader_spells_4 rfl ?_
  refine x_iload_n dReader_spells_5 rfl ?_
  -- at 6: .isub
  refine (x_isub dReader_spells_6 ?_)
  refine x_eqi (y := nI (e - a)) (pk_sub hae) ?_
  by_cases hl : stL.getD q 0 = e - a
  · refine x_icmp_eq (tgt := 12) dReader_spells_7 (by decide) (fun _ => ?_) (fun h => absurd (congrArg nI hl) h)
    refine x_iload_n dReader_spells_12 rfl ?_
    refine x_istore_4 dReader_spells_13 rfl rfl ?_
    -- at 15: .iload 4
    have loop : ∀ (k i : Nat), i + k = e - a → (∀ j, j < i → (stB.getD q []).getD j 0 = I 24 (a + j)) → X mReader_spells G (7, 0, 0) S1 I L 15 [.ref 23, .ref (1000000 + q), .int (nI a), .int (nI e), .int (nI (a + i))] [] Post := by
      intro k
      induction k with
      | zero =>
        intro i hi hall
        refine x_iload dReader_spells_15 rfl ?_
        refine x_iload_n dReader_spells_17 rfl ?_
        -- at 18: .if_icmp .ge 29
        refine x_icmp_ge (tgt := 47) dReader_spells_18 (by decide) (fun _ => ?_) (fun h => absurd (nI_le (by omega) (by omega)) h)
        refine x_iconst (v := 1) dReader_spells_47 rfl ?_
        -- at 48: .ireturn
        refine x_ireturn dReader_spells_48 rfl rfl ?_
        exact h1 (word_eq hq hl (fun j hj => hall j (by omega)))
      | succ k ih =>
        intro i hi hall
        refine x_iload dReader_spells_15 rfl ?_
        refine x_iload_n dReader_spells_17 rfl ?_
        -- at 18: .if_icmp .ge 29
        refine x_icmp_ge (tgt := 47) dReader_spells_18 (by decide) (fun h => absurd h (nI_ge (b := e) (by omega) (by omega))) (fun _ => ?_)
        refine x_aload_n dReader_spells_21 rfl ?_
        refine x_iload dReader_spells_22 rfl ?_
        refine x_iload_n dReader_spells_24 rfl ?_
        refine x_isub dReader_spells_25 ?_
        -- at 26: .invokevirtual 122
        refine x_eqi (y := nI i) (by rw [pk_sub (by omega)]; congr 1; omega) ?_
        refine x_callT (As := [.int (nI i)]) (rest := []) c_String_charAt ok_String_charAt ml_Reader_122 dReader_spells_26 rfl rfl rfl hq rfl rfl ?_
        refine ⟨q, i, rfl, hq, by omega, ?_⟩
        refine x_aload_n dReader_spells_29 rfl ?_
        refine x_getR fl_Reader_9 rfl dReader_spells_30 rfl rfl rfl ?_
        refine x_iload dReader_spells_33 rfl ?_
        refine x_ialdJ (j := a + i) dReader_spells_35 rfl rfl (by first | rfl | (simp only [← nI_add, ← pk_mul]; rfl)) (by omega) ?_
        -- at 36: .if_icmp .eq 5
        refine x_icmp_eq (tgt := 41) dReader_spells_36 (by decide) (fun d1 => ?_) (fun d1 => ?_)
        · refine x_iincp_4 dReader_spells_41 rfl rfl ?_
          refine x_goto (tgt := 15) dReader_spells_44 (by decide) ?_
          -- at 15: .iload 4
          rw [nI_1]
          refine ih (i + 1) (by omega) (fun j hj => ?_)
          by_cases y : j = i
          · subst y; exact d1
          · exact hall j (by omega)
        · refine x_iconst (v := 0) dReader_spells_39 rfl ?_
          -- at 40: .ireturn
          refine x_ireturn dReader_spells_40 rfl rfl ?_
          exact h2 (word_ne2 (i := i) (by omega) d1)
    exact loop (e - a) 0 (by omega) (fun j hj => absurd hj (Nat.not_lt_zero j))
  · refine x_icmp_eq (tgt := 12) dReader_spells_7 (by decide) (fun h => absurd h (fun z => hl ((nI_eq (by omega) (by omega)).mp z))) (fun _ => ?_)
    refine x_iconst (v := 0) dReader_spells_10 rfl ?_
    -- at 11: .ireturn
    refine x_ireturn dReader_spells_11 rfl rfl ?_
    exact h2 (word_ne1 hq hl)
end
section
-- 55.word
/-! texts: words -/
def sp_Reader_nameAt : SpT := fun as S I L Post => ∃ a e : Nat, as = [.ref 23, .int (nI a), .int (nI e)] ∧ S = S1 ∧ a ≤ e ∧ e ≤ 160 ∧ Post (some (.int (if wordAt (I 24) a e = stB.getD 1 [] then 0 else if wordAt (I 24) a e = stB.getD 2 [] then 1 else if wordAt (I 24) a e = stB.getD 3 [] then 2 else if wordAt (I 24) a e = stB.getD 4 [] then 3 else if wordAt (I 24) a e = stB.getD 5 [] then 4 else if wordAt (I 24) a e = stB.getD 6 [] then 5 else -1))) S1 I L
set_option maxHeartbeats 4000000 in
set_option maxRecDepth 100000 in
theorem c_Reader_nameAt : Con mReader_nameAt 8 0 0 sp_Reader_nameAt := by
  refine con_of_X rfl fun G as S I L Post hs => ?_
  obtain ⟨a, e, rfl, rfl, hae, he, h1⟩ := hs
  refine ⟨0, Nat.le_of_ble_eq_true rfl, ?_⟩
  show X mReader_nameAt G _ S1 I L 0 [.ref 23, .int (nI a), .int (nI e)] [] Post
  refine x_aload_n dReader_nameAt_0 rfl ?_
  refine x_ldcS (i := 1) dReader_nameAt_1 rfl rfl rfl ?_
  refine x_iload_n dReader_nameAt_3 rfl ?_
  refine x_iload_n dReader_nameAt_4 rfl ?_
  -- at 5: .invokevirtual 90
  refine x_callV_3 c_Reader_spells ok_Reader_spells ml_Reader_90 dReader_nameAt_5 rfl rfl rfl rfl rfl ?_
  refine ⟨1, a, e, rfl, rfl, by decide, hae, he, fun w => ?_, fun w => ?_⟩
  · rw [if_pos w] at h1
    refine x_if_eq (tgt := 13) dReader_nameAt_8 (by decide) (fun h => absurd h (by decide)) (fun _ => ?_)
    refine x_iconst (v := 0) dReader_nameAt_11 rfl ?_
    -- at 12: .ireturn
    refine x_ireturn dReader_nameAt_12 rfl rfl ?_
    exact h1
  · rw [if_neg w] at h1
    refine x_if_eq (tgt := 13) dReader_nameAt_8 (by decide) (fun _ => ?_) (fun h => absurd (by decide) h)
    refine x_aload_n dReader_nameAt_13 rfl ?_
    refine x_ldcS (i := 2) dReader_nameAt_14 rfl rfl rfl ?_
    refine x_iload_n dReader_nameAt_16 rfl ?_
    refine x_iload_n dReader_nameAt_17 rfl ?_
    -- at 18: .invokevirtual 90
    refine x_callV_3 c_Reader_spells ok_Reader_spells ml_Reader_90 dReader_nameAt_18 rfl rfl rfl rfl rfl ?_
    refine ⟨2, a, e, rfl, rfl, by decide, hae, he, fun w => ?_, fun w => ?_⟩
    · rw [if_pos w] at h1
      refine x_if_eq (tgt := 26) dReader_nameAt_21 (by decide) (fun h => absurd h (by decide)) (fun _ => ?_)
      refine x_iconst (v := 1) dReader_nameAt_24 rfl ?_
      -- at 25: .ireturn
      refine x_ireturn dReader_nameAt_25 rfl rfl ?_
      exact h1
    · rw [if_neg w] at h1
      refine x_if_eq (tgt := 26) dReader_nameAt_21 (by decide) (fun _ => ?_) (fun h => absurd (by decide) h)
      refine x_aload_n dReader_nameAt_26 rfl ?_
      refine x_ldcS (i := 3) dReader_nameAt_27 rfl rfl rfl ?_
      refine x_iload_n dReader_nameAt_29 rfl ?_
      refine x_iload_n dReader_nameAt_30 rfl ?_
      -- at 31: .invokevirtual 90
      refine x_callV_3 c_Reader_spells ok_Reader_spells ml_Reader_90 dReader_nameAt_31 rfl rfl rfl rfl rfl ?_
      refine ⟨3, a, e, rfl, rfl, by decide, hae, he, fun w => ?_, fun w => ?_⟩
      · rw [if_pos w] at h1
        refine x_if_eq (tgt := 39) dReader_nameAt_34 (by decide) (fun h => absurd h (by decide)) (fun _ => ?_)
        refine x_iconst (v := 2) dReader_nameAt_37 rfl ?_
        -- at 38: .ireturn
        refine x_ireturn dReader_nameAt_38 rfl rfl ?_
        exact h1
      · rw [if_neg w] at h1
        refine x_if_eq (tgt := 39) dReader_nameAt_34 (by decide) (fun _ => ?_) (fun h => absurd (by decide) h)
        refine x_aload_n dReader_nameAt_39 rfl ?_
        refine x_ldcS (i := 4) dReader_nameAt_40 rfl rfl rfl ?_
        refine x_iload_n dReader_nameAt_42 rfl ?_
        refine x_iload_n dReader_nameAt_43 rfl ?_
        -- at 44: .invokevirtual 90
        refine x_callV_3 c_Reader_spells ok_Reader_spells ml_Reader_90 dReader_nameAt_44 rfl rfl rfl rfl rfl ?_
        refine ⟨4, a, e, rfl, rfl, by decide, hae, he, fun w => ?_, fun w => ?_⟩
        · rw [if_pos w] at h1
          refine x_if_eq (tgt := 52) dReader_nameAt_47 (by decide) (fun h => absurd h (by decide)) (fun _ => ?_)
          refine x_iconst (v := 3) dReader_nameAt_50 rfl ?_
          -- at 51: .ireturn
          refine x_ireturn dReader_nameAt_51 rfl rfl ?_
          exact h1
        · rw [if_neg w] at h1
          refine x_if_eq (tgt := 52) dReader_nameAt_47 (by decide) (fun _ => ?_) (fun h => absurd (by decide) h)
          refine x_aload_n dReader_nameAt_52 rfl ?_
          refine x_ldcS (i := 5) dReader_nameAt_53 rfl rfl rfl ?_
          refine x_iload_n dReader_nameAt_55 rfl ?_
          refine x_iload_n dReader_nameAt_56 rfl ?_
          -- at 57: .invokevirtual 90
          refine x_callV_3 c_Reader_spells ok_Reader_spells ml_Reader_90 dReader_nameAt_57 rfl rfl rfl rfl rfl ?_
          refine ⟨5, a, e, rfl, rfl, by decide, hae, he, fun w => ?_, fun w => ?_⟩
          · rw [if_pos w] at h1
            refine x_if_eq (tgt := 65) dReader_nameAt_60 (by decide) (fun h => absurd h (by decide)) (fun _ => ?_)
            refine x_iconst (v := 4) dReader_nameAt_63 rfl ?_
            -- at 64: .ireturn
            refine x_ireturn dReader_nameAt_64 rfl rfl ?_
            exact h1
          · rw [if_neg w] at h1
            refine x_if_eq (tgt := 65) dReader_nameAt_60 (by decide) (fun _ => ?_) (fun h => absurd (by decide) h)
            refine x_aload_n dReader_nameAt_65 rfl ?_
            refine x_ldcS (i := 6) dReader_nameAt_66 rfl rfl rfl ?_
            refine x_iload_n dReader_nameAt_68 rfl ?_
            refine x_iload_n dReader_nameAt_69 rfl ?_
            -- at 70: .invokevirtual 90
            refine x_callV_3 c_Reader_spells ok_Reader_spells ml_Reader_90 dReader_nameAt_70 rfl rfl rfl rfl rfl ?_
            refine ⟨6, a, e, rfl, rfl, by decide, hae, he, fun w => ?_, fun w => ?_⟩
            · rw [if_pos w] at h1
              refine x_if_eq (tgt := 78) dReader_nameAt_73 (by decide) (fun h => absurd h (by decide)) (fun _ => ?_)
              refine x_iconst (v := 5) dReader_nameAt_76 rfl ?_
              -- at 77: .ireturn
              refine x_ireturn dReader_nameAt_77 rfl rfl ?_
              exact h1
            · rw [if_neg w] at h1
              refine x_if_eq (tgt := 78) dReader_nameAt_73 (by decide) (fun _ => ?_) (fun h => absurd (by decide) h)
              refine x_iconst (v := -1) dReader_nameAt_78 rfl ?_
              -- at 79: .ireturn
              refine x_ireturn dReader_nameAt_79 rfl rfl ?_
              exact h1
def sp_Reader_keyAt : SpT := fun as S I L Post => ∃ a e : Nat, as = [.ref 23, .int (nI a), .int (nI e)] ∧ S = S1 ∧ a ≤ e ∧ e ≤ 160 ∧ Post (some (.int (if wordAt (I 24) a e = stB.getD 7 [] then 4 else if wordAt (I 24) a e = stB.getD 8 [] then 5 else if wordAt (I 24) a e = stB.getD 9 [] then 6 else if wordAt (I 24) a e = stB.getD 10 [] then 7 else if wordAt (I 24) a e = stB.getD 11 [] then 8 else if wordAt (I 24) a e = stB.getD 12 [] then 9 else 1))) S1 I L
set_option maxHeartbeats 4000000 in
set_option maxRecDepth 100000 in
theorem c_Reader_keyAt : Con mReader_keyAt 8 0 0 sp_Reader_keyAt := by
  refine con_of_X rfl fun G as S I L Post hs => ?_
  obtain ⟨a, e, rfl, rfl, hae, he, h1⟩ := hs
  refine ⟨0, Nat.le_of_ble_eq_true rfl, ?_⟩
  show X mReader_keyAt G _ S1 I L 0 [.ref 23, .int (nI a), .int (nI e)] [] Post
  refine x_aload_n dReader_keyAt_0 rfl ?_
  refine x_ldcS (i := 7) dReader_keyAt_1 rfl rfl rfl ?_
  refine x_iload_n dReader_keyAt_3 rfl ?_
  refine x_iload_n dReader_keyAt_4 rfl ?_
  -- at 5: .invokevirtual 90
  refine x_callV_3 c_Reader_spells ok_Reader_spells ml_Reader_90 dReader_keyAt_5 rfl rfl rfl rfl rfl ?_
  refine ⟨7, a, e, rfl, rfl, by decide, hae, he, fun w => ?_, fun w => ?_⟩
  · rw [if_pos w] at h1
    refine x_if_eq (tgt := 13) dReader_keyAt_8 (by decide) (fun h => absurd h (by decide)) (fun _ => ?_)
    refine x_iconst (v := 4) dReader_keyAt_11 rfl ?_
    -- at 12: .ireturn
    refine x_ireturn dReader_keyAt_12 rfl rfl ?_
    exact h1
  · rw [if_neg w] at h1
    refine x_if_eq (tgt := 13) dReader_keyAt_8 (by decide) (fun _ => ?_) (fun h => absurd (by decide) h)
    refine x_aload_n dReader_keyAt_13 rfl ?_
    refine x_ldcS (i := 8) dReader_keyAt_14 rfl rfl rfl ?_
    refine x_iload_n dReader_keyAt_16 rfl ?_
    refine x_iload_n dReader_keyAt_17 rfl ?_
    -- at 18: .invokevirtual 90
    refine x_callV_3 c_Reader_spells ok_Reader_spells ml_Reader_90 dReader_keyAt_18 rfl rfl rfl rfl rfl ?_
    refine ⟨8, a, e, rfl, rfl, by decide, hae, he, fun w => ?_, fun w => ?_⟩
    · rw [if_pos w] at h1
      refine x_if_eq (tgt := 26) dReader_keyAt_21 (by decide) (fun h => absurd h (by decide)) (fun _ => ?_)
      refine x_iconst (v := 5) dReader_keyAt_24 rfl ?_
      -- at 25: .ireturn
      refine x_ireturn dReader_keyAt_25 rfl rfl ?_
      exact h1
    · rw [if_neg w] at h1
      refine x_if_eq (tgt := 26) dReader_keyAt_21 (by decide) (fun _ => ?_) (fun h => absurd (by decide) h)
      refine x_aload_n dReader_keyAt_26 rfl ?_
      refine x_ldcS (i := 9) dReader_keyAt_27 rfl rfl rfl ?_
      refine x_iload_n dReader_keyAt_29 rfl ?_
      refine x_iload_n dReader_keyAt_30 rfl ?_
      -- at 31: .invokevirtual 90
      refine x_callV_3 c_Reader_spells ok_Reader_spells ml_Reader_90 dReader_keyAt_31 rfl rfl rfl rfl rfl ?_
      refine ⟨9, a, e, rfl, rfl, by decide, hae, he, fun w => ?_, fun w => ?_⟩
      · rw [if_pos w] at h1
        refine x_if_eq (tgt := 40) dReader_keyAt_34 (by decide) (fun h => absurd h (by decide)) (fun _ => ?_)
        refine x_bipush (v := 6) dReader_keyAt_37 rfl ?_
        -- at 39: .ireturn
        refine x_ireturn dReader_keyAt_39 rfl rfl ?_
        exact h1
      · rw [if_neg w] at h1
        refine x_if_eq (tgt := 40) dReader_keyAt_34 (by decide) (fun _ => ?_) (fun h => absurd (by decide) h)
        refine x_aload_n dReader_keyAt_40 rfl ?_
        refine x_ldcS (i := 10) dReader_keyAt_41 rfl rfl rfl ?_
        refine x_iload_n dReader_keyAt_43 rfl ?_
        refine x_iload_n dReader_keyAt_44 rfl ?_
        -- at 45: .invokevirtual 90
        refine x_callV_3 c_Reader_spells ok_Reader_spells ml_Reader_90 dReader_keyAt_45 rfl rfl rfl rfl rfl ?_
        refine ⟨10, a, e, rfl, rfl, by decide, hae, he, fun w => ?_, fun w => ?_⟩
        · rw [if_pos w] at h1
          refine x_if_eq (tgt := 54) dReader_keyAt_48 (by decide) (fun h => absurd h (by decide)) (fun _ => ?_)
          refine x_bipush (v := 7) dReader_keyAt_51 rfl ?_
          -- at 53: .ireturn
          refine x_ireturn dReader_keyAt_53 rfl rfl ?_
          exact h1
        · rw [if_neg w] at h1
          refine x_if_eq (tgt := 54) dReader_keyAt_48 (by decide) (fun _ => ?_) (fun h => absurd (by decide) h)
          refine x_aload_n dReader_keyAt_54 rfl ?_
          refine x_ldcS (i := 11) dReader_keyAt_55 rfl rfl rfl ?_
          refine x_iload_n dReader_keyAt_57 rfl ?_
          refine x_iload_n dReader_keyAt_58 rfl ?_
          -- at 59: .invokevirtual 90
          refine x_callV_3 c_Reader_spells ok_Reader_spells ml_Reader_90 dReader_keyAt_59 rfl rfl rfl rfl rfl ?_
          refine ⟨11, a, e, rfl, rfl, by decide, hae, he, fun w => ?_, fun w => ?_⟩
          · rw [if_pos w] at h1
            refine x_if_eq (tgt := 68) dReader_keyAt_62 (by decide) (fun h => absurd h (by decide)) (fun _ => ?_)
            refine x_bipush (v := 8) dReader_keyAt_65 rfl ?_
            -- at 67: .ireturn
            refine x_ireturn dReader_keyAt_67 rfl rfl ?_
            exact h1
          · rw [if_neg w] at h1
            refine x_if_eq (tgt := 68) dReader_keyAt_62 (by decide) (fun _ => ?_) (fun h => absurd (by decide) h)
            refine x_aload_n dReader_keyAt_68 rfl ?_
            refine x_ldcS (i := 12) dReader_keyAt_69 rfl rfl rfl ?_
            refine x_iload_n dReader_keyAt_71 rfl ?_
            refine x_iload_n dReader_keyAt_72 rfl ?_
            -- at 73: .invokevirtual 90
            refine x_callV_3 c_Reader_spells ok_Reader_spells ml_Reader_90 dReader_keyAt_73 rfl rfl rfl rfl rfl ?_
            refine ⟨12, a, e, rfl, rfl, by decide, hae, he, fun w => ?_, fun w => ?_⟩
            · rw [if_pos w] at h1
              refine x_if_eq (tgt := 82) dReader_keyAt_76 (by decide) (fun h => absurd h (by decide)) (fun _ => ?_)
              refine x_bipush (v := 9) dReader_keyAt_79 rfl ?_
              -- at 81: .ireturn
              refine x_ireturn dReader_keyAt_81 rfl rfl ?_
              exact h1
            · rw [if_neg w] at h1
              refine x_if_eq (tgt := 82) dReader_keyAt_76 (by decide) (fun _ => ?_) (fun h => absurd (by decide) h)
              refine x_iconst (v := 1) dReader_keyAt_82 rfl ?_
              -- at 83: .ireturn
              refine x_ireturn dReader_keyAt_83 rfl rfl ?_
              exact h1
def sp_Reader_putWord : SpT := fun as S I L Post => ∃ a e n : Nat, as = [.ref 23, .int (nI a), .int (nI e)] ∧ S = S1 ∧ I 23 5 = nI n ∧ n ≤ 160 ∧ a ≤ e ∧ e ≤ 160 ∧ Post none S1 (ptk I n (kindW (wordAt (I 24) a e)).1 (nI a) (kindW (wordAt (I 24) a e)).2) L
theorem kindW_name (w : List Int32) : (if w = stB.getD 1 [] then (0 : Int32) else if w = stB.getD 2 [] then 1 else if w = stB.getD 3 [] then 2 else if w = stB.getD 4 [] then 3 else if w = stB.getD 5 [] then 4 else if w = stB.getD 6 [] then 5 else -1) = if (kindW w).1 = 3 then (kindW w).2 else -1 := by
  show (if w = [108, 111, 117, 100] then (0 : Int32) else if w = [102, 97, 114] then 1 else if w = [101, 97, 114] then 2 else if w = [110, 101, 101, 100] then 3 else if w = [109, 97, 110, 121] then 4 else if w = [98, 97, 115, 101] then 5 else -1) = _
  by_cases h0 : w = [108, 111, 117, 100]
  · subst h0; decide
  by_cases h1 : w = [102, 97, 114]
  · subst h1; decide
  by_cases h2 : w = [101, 97, 114]
  · subst h2; decide
  by_cases h3 : w = [110, 101, 101, 100]
  · subst h3; decide
  by_cases h4 : w = [109, 97, 110, 121]
  · subst h4; decide
  by_cases h5 : w = [98, 97, 115, 101]
  · subst h5; decide
  by_cases h6 : w = [104, 101, 97, 114, 100]
  · subst h6; decide
  by_cases h7 : w = [115, 104, 97, 114, 101]
  · subst h7; decide
  by_cases h8 : w = [112, 97, 105, 110]
  · subst h8; decide
  by_cases h9 : w = [111, 114]
  · subst h9; decide
  by_cases h10 : w = [97, 110, 100]
  · subst h10; decide
  by_cases h11 : w = [110, 111, 116]
  · subst h11; decide
  simp only [kindW, h0, h1, h2, h3, h4, h5, h6, h7, h8, h9, h10, h11, if_false]
  decide
theorem kindW_key (w : List Int32) (h : ¬ (kindW w).1 = 3) : (if w = stB.getD 7 [] then (4 : Int32) else if w = stB.getD 8 [] then 5 else if w = stB.getD 9 [] then 6 else if w = stB.getD 10 [] then 7 else if w = stB.getD 11 [] then 8 else if w = stB.getD 12 [] then 9 else 1) = (kindW w).1 ∧ (kindW w).2 = 0 := by
  show (if w = [104, 101, 97, 114, 100] then (4 : Int32) else if w = [115, 104, 97, 114, 101] then 5 else if w = [112, 97, 105, 110] then 6 else if w = [111, 114] then 7 else if w = [97, 110, 100] then 8 else if w = [110, 111, 116] then 9 else 1) = _ ∧ _
  by_cases h0 : w = [108, 111, 117, 100]
  · subst h0; exact absurd (by decide) h
  by_cases h1 : w = [102, 97, 114]
  · subst h1; exact absurd (by decide) h
  by_cases h2 : w = [101, 97, 114]
  · subst h2; exact absurd (by decide) h
  by_cases h3 : w = [110, 101, 101, 100]
  · subst h3; exact absurd (by decide) h
  by_cases h4 : w = [109, 97, 110, 121]
  · subst h4; exact absurd (by decide) h
  by_cases h5 : w = [98, 97, 115, 101]
  · subst h5; exact absurd (by decide) h
  by_cases h6 : w = [104, 101, 97, 114, 100]
  · subst h6; decide
  by_cases h7 : w = [115, 104, 97, 114, 101]
  · subst h7; decide
  by_cases h8 : w = [112, 97, 105, 110]
  · subst h8; decide
  by_cases h9 : w = [111, 114]
  · subst h9; decide
  by_cases h10 : w = [97, 110, 100]
  · subst h10; decide
  by_cases h11 : w = [110, 111, 116]
  · subst h11; decide
  simp [kindW, h0, h1, h2, h3, h4, h5, h6, h7, h8, h9, h10, h11]
theorem name_nn {w : List Int32} (h : (kindW w).1 = 3) : ¬ (kindW w).2 = -1 := by
  obtain ⟨v, hv, e⟩ := (kindW_ok w).2.2 h
  rw [e]
  intro z
  have : ∀ v, v < 6 → ¬ nI v = -1 := by decide
  exact this v hv z
set_option maxHeartbeats 4000000 in
set_option maxRecDepth 100000 in
theorem c_Reader_putWord : Con mReader_putWord 9 0 0 sp_Reader_putWord := by
  refine con_of_X rfl fun G as S I L Post hs => ?_
  obtain ⟨a, e, n, rfl, rfl, hn, h160, hae, he, h1⟩ := hs
  refine ⟨1, Nat.le_of_ble_eq_true rfl, ?_⟩
  show X mReader_putWord G _ S1 I L 0 [.ref 23, .int (nI a), .int (nI e), .null] [] Post
  refine x_aload_n dReader_putWord_0 rfl ?_
  refine x_iload_n dReader_putWord_1 rfl ?_
  refine x_iload_n dReader_putWord_2 rfl ?_
  -- at 3: .invokevirtual 81
  refine x_callV_2 c_Reader_nameAt ok_Reader_nameAt ml_Reader_81 dReader_putWord_3 rfl rfl rfl rfl rfl ?_
  refine ⟨a, e, rfl, rfl, hae, he, ?_⟩
  rw [kindW_name]
  by_cases h3 : (kindW (wordAt (I 24) a e)).1 = 3
  · rw [if_pos h3]
    refine x_istoren_3 dReader_putWord_6 rfl rfl ?_
    refine x_iload_n dReader_putWord_7 rfl ?_
    refine x_iconst (v := -1) dReader_putWord_8 rfl ?_
    -- at 9: .if_icmp .eq 13
    refine x_icmp_eq (tgt := 22) dReader_putWord_9 (by decide) (fun h => absurd h (name_nn h3)) (fun _ => ?_)
    refine x_aload_n dReader_putWord_12 rfl ?_
    refine x_iconst (v := 3) dReader_putWord_13 rfl ?_
    refine x_iload_n dReader_putWord_14 rfl ?_
    refine x_iload_n dReader_putWord_15 rfl ?_
    -- at 16: .invokevirtual 77
    refine x_callV_3 c_Reader_putToken ok_Reader_putToken ml_Reader_77 dReader_putWord_16 rfl rfl rfl rfl rfl ?_
    refine ⟨n, _, _, _, rfl, rfl, hn, h160, ?_⟩
    refine x_goto (tgt := 34) dReader_putWord_19 (by decide) ?_
    -- at 34: .return_
    refine x_return dReader_putWord_34 rfl ?_
    rw [← h3]
    exact h1
  · rw [if_neg h3]
    obtain ⟨k1, k2⟩ := kindW_key _ h3
    refine x_istoren_3 dReader_putWord_6 rfl rfl ?_
    refine x_iload_n dReader_putWord_7 rfl ?_
    refine x_iconst (v := -1) dReader_putWord_8 rfl ?_
    -- at 9: .if_icmp .eq 13
    refine x_icmp_eq (tgt := 22) dReader_putWord_9 (by decide) (fun _ => ?_) (fun h => absurd rfl h)
    refine x_aload_n dReader_putWord_22 rfl ?_
    refine x_aload_n dReader_putWord_23 rfl ?_
    refine x_iload_n dReader_putWord_24 rfl ?_
    refine x_iload_n dReader_putWord_25 rfl ?_
    -- at 26: .invokevirtual 85
    refine x_callV_2 c_Reader_keyAt ok_Reader_keyAt ml_Reader_85 dReader_putWord_26 rfl rfl rfl rfl rfl ?_
    refine ⟨a, e, rfl, rfl, hae, he, ?_⟩
    rw [k1]
    refine x_iload_n dReader_putWord_29 rfl ?_
    refine x_iconst (v := 0) dReader_putWord_30 rfl ?_
    -- at 31: .invokevirtual 77
    refine x_callV_3 c_Reader_putToken ok_Reader_putToken ml_Reader_77 dReader_putWord_31 rfl rfl rfl rfl rfl ?_
    refine ⟨n, _, _, _, rfl, rfl, hn, h160, ?_⟩
    -- at 34: .return_
    refine x_return dReader_putWord_34 rfl ?_
    rw [k2] at h1
    exact h1
end
section
-- 56.cut2
/-! texts: THE TAPE cut into tokens, by the class -/
def Tin (I : IM) (T : List Tok) : Prop := ∀ k, k < T.length → I 25 k = ts T k ∧ I 26 k = nI (tp T k) ∧ I 27 k = (tk T k).2.2
theorem tk_app1 {D : List Tok} {t : Tok} {k : Nat} (h : k < D.length) : tk (D ++ [t]) k = tk D k := by
  unfold tk
  rw [List.getD_eq_getElem?_getD, List.getD_eq_getElem?_getD, List.getElem?_append_left h]
theorem tk_app2 {D : List Tok} {t : Tok} : tk (D ++ [t]) D.length = t := by simp [tk, List.getD_eq_getElem?_getD]
theorem ptk_o (I : IM) (n : Nat) (s p v : Int32) {k : Nat} (h : k ≠ 23 ∧ k ≠ 25 ∧ k ≠ 26 ∧ k ≠ 27) : ptk I n s p v k = I k := by
  unfold ptk
  rw [up2_n _ _ _ (by omega), up2_n _ _ _ (by omega), up2_n _ _ _ (by omega), up2_n _ _ _ (by omega)]
theorem ptk_s (I : IM) (n : Nat) (s p v : Int32) {j : Nat} (h : j ≠ 5) : ptk I n s p v 23 j = I 23 j := by
  unfold ptk
  rw [up2_s, up1_n _ _ h]
  simp only [up2_n, up2_s, ne_eq, Nat.reduceEqDiff, not_false_eq_true]
theorem ptk_5 (I : IM) (n : Nat) (s p v : Int32) : ptk I n s p v 23 5 = nI (n + 1) := by
  unfold ptk
  rw [up2_s, up1_s, nI_1]
theorem Tin_put {I : IM} {D : List Tok} {n p : Nat} {s v : Int32} (h : Tin I D) (hn : n = D.length) : Tin (ptk I n s (nI p) v) (D ++ [(s, p, v)]) := by
  subst hn
  intro k hk
  have r25 : ptk I D.length s (nI p) v 25 = up1 (I 25) D.length s := by unfold ptk; simp only [up2_n, up2_s, ne_eq, Nat.reduceEqDiff, not_false_eq_true]
  have r26 : ptk I D.length s (nI p) v 26 = up1 (I 26) D.length (nI p) := by unfold ptk; simp only [up2_n, up2_s, ne_eq, Nat.reduceEqDiff, not_false_eq_true]
  have r27 : ptk I D.length s (nI p) v 27 = up1 (I 27) D.length v := by unfold ptk; simp only [up2_n, up2_s, ne_eq, Nat.reduceEqDiff, not_false_eq_true]
  rw [r25, r26, r27]
  unfold ts tp
  by_cases e : k = D.length
  · subst e
    rw [up1_s, up1_s, up1_s, tk_app2]
    exact ⟨rfl, rfl, rfl⟩
  · have hk' : k < D.length := by simp at hk; omega
    rw [up1_n _ _ e, up1_n _ _ e, up1_n _ _ e, tk_app1 hk']
    exact h k hk'
theorem let_nb {b : Int32} (h : isLet b) : ¬ isBla b := by
  rintro (e | e) <;> rw [e] at h <;> exact absurd h.1 (by decide)
theorem dig_nb {b : Int32} (h : isDig b) : ¬ isBla b := by
  rintro (e | e) <;> rw [e] at h <;> exact absurd h.1 (by decide)
abbrev rScr : List Nat := [23, 25, 26, 27]
def sp_Reader_cut : SpT := fun as S I L Post => ∃ z : Nat, as = [.ref 23] ∧ S = S1 ∧ I 23 1 = nI z ∧ z ≤ 160 ∧
  ∀ I' : IM, Fr rScr I I' → (∀ j, j ≠ 5 → I' 23 j = I 23 j) → Tin I' (tokS (I 24) z 0) → Post none S1 I' L
set_option maxHeartbeats 4000000 in
set_option maxRecDepth 100000 in
theorem c_Reader_cut : Con mReader_cut 10 0 0 sp_Reader_cut := by
  refine con_of_X rfl fun G as S I L Post hs => ?_
  obtain ⟨z, rfl, rfl, hz, hz2, h1⟩ := hs
  refine ⟨4, Nat.le_of_ble_eq_true rfl, ?_⟩
  show X mReader_cut G _ S1 I L 0 [.ref 23, .null, .null, .null, .null] [] Post
  refine x_aload_n dReader_cut_0 rfl ?_
  refine x_iconst (v := 0) dReader_cut_1 rfl ?_
  refine x_putI fl_Reader_28 rfl dReader_cut_2 (by decide) rfl rfl rfl rfl ?_
  refine x_iconst (v := 0) dReader_cut_5 rfl ?_
  refine x_istoren_1 dReader_cut_6 rfl rfl ?_
  refine x_iconst (v := 0) dReader_cut_7 rfl ?_
  refine x_istoren_2 dReader_cut_8 rfl rfl ?_
  -- at 9: .iload_n 2
  have fin : ∀ (i at0 : Nat) (I' : IM) (D : List Tok) (a3 a4 : Value), at0 = z → Fr rScr I I' → (∀ j, j ≠ 5 → I' 23 j = I 23 j) → I' 23 5 = nI D.length → D.length ≤ at0 → Tin I' D → D ++ tokS (I 24) z at0 = tokS (I 24) z 0 →
      X mReader_cut G (10, 0, 0) S1 I' L 123 [.ref 23, .int (nI at0), .int (nI i), a3, a4] [] Post := by
    intro i at0 I' D a3 a4 hat hF hs h5 hD hT hE
    have hz' : I' 23 1 = nI z := (hs 1 (by omega)).trans hz
    refine x_aload_n dReader_cut_123 rfl ?_
    refine x_iconst (v := 0) dReader_cut_124 rfl ?_
    refine x_aload_n dReader_cut_125 rfl ?_
    refine x_getI fl_Reader_15 rfl dReader_cut_126 rfl rfl ?_
    -- at 129: .iconst 0
    rw [hz']
    refine x_iconst (v := 0) dReader_cut_129 rfl ?_
    -- at 130: .invokevirtual 77
    refine x_callV_3 c_Reader_putToken ok_Reader_putToken ml_Reader_77 dReader_cut_130 rfl rfl rfl rfl rfl ?_
    refine ⟨D.length, 0, nI z, 0, rfl, rfl, h5, by omega, ?_⟩
    refine x_return dReader_cut_133 rfl ?_
    refine h1 _ (fun k hk => ?_) (fun j hj => ?_) ?_
    · simp only [List.mem_cons, List.not_mem_nil, or_false, not_or] at hk
      rw [ptk_o _ _ _ _ _ ⟨hk.1, hk.2.1, hk.2.2.1, hk.2.2.2⟩]
      exact hF k (by simp [hk])
    · rw [ptk_s _ _ _ _ _ hj]
      exact hs j hj
    · rw [← hE, hat, tokS_end (by omega)]
      exact Tin_put hT rfl
  have loop : ∀ (k i at0 : Nat) (I' : IM) (D : List Tok) (a3 a4 : Value), i + k = 160 → i ≤ at0 → at0 ≤ z → Fr rScr I I' → (∀ j, j ≠ 5 → I' 23 j = I 23 j) → I' 23 5 = nI D.length → D.length ≤ at0 → Tin I' D → D ++ tokS (I 24) z at0 = tokS (I 24) z 0 →
      X mReader_cut G (10, 0, 0) S1 I' L 9 [.ref 23, .int (nI at0), .int (nI i), a3, a4] [] Post := by
    intro k
    induction k with
    | zero =>
      intro i at0 I' D a3 a4 hi hia haz hF hs h5 hD hT hE
      obtain rfl : i = 160 := by omega
      refine x_iload_n dReader_cut_9 rfl ?_
      refine x_sipush (v := 160) dReader_cut_10 rfl ?_
      -- at 13: .if_icmp .ge 110
      refine x_icmp_ge (tgt := 123) dReader_cut_13 (by decide) (fun _ => ?_) (fun h => absurd (Int32.le_refl _) h)
      exact fin 160 at0 I' D a3 a4 (by omega) hF hs h5 hD hT hE
    | succ k ih =>
      intro i at0 I' D a3 a4 hi hia haz hF hs h5 hD hT hE
      have hz' : I' 23 1 = nI z := (hs 1 (by omega)).trans hz
      have e24 : I' 24 = I 24 := hF 24 (by decide)
      refine x_iload_n dReader_cut_9 rfl ?_
      refine x_sipush (v := 160) dReader_cut_10 rfl ?_
      -- at 13: .if_icmp .ge 110
      refine x_icmp_ge (tgt := 123) dReader_cut_13 (by decide) (fun h => absurd h (nI_ge (b := 160) (by omega) (by omega))) (fun _ => ?_)
      refine x_iload_n dReader_cut_16 rfl ?_
      refine x_aload_n dReader_cut_17 rfl ?_
      refine x_getI fl_Reader_15 rfl dReader_cut_18 rfl rfl ?_
      -- at 21: .if_icmp .ge 102
      rw [hz']
      by_cases hlt : at0 < z
      · refine x_icmp_ge (tgt := 123) dReader_cut_21 (by decide) (fun h => absurd h (nI_ge (b := z) hlt (by omega))) (fun _ => ?_)
        have next : ∀ (e : Nat) (I2 : IM) (D2 : List Tok) (b : Int32), at0 < e → e ≤ z → Fr rScr I I2 → (∀ j, j ≠ 5 → I2 23 j = I 23 j) → I2 23 5 = nI D2.length → D2.length ≤ D.length + 1 → Tin I2 D2 → D2 ++ tokS (I 24) z e = tokS (I 24) z 0 →
            X mReader_cut G (10, 0, 0) S1 I2 L 114 [.ref 23, .int (nI at0), .int (nI i), .int b, .int (nI e)] [] Post := by
          intro e I2 D2 b h0 h2 hF2 hs2 h52 hD2 hT2 hE2
          refine x_iload dReader_cut_114 rfl ?_
          refine x_istoren_1 dReader_cut_116 rfl rfl ?_
          refine x_iincp_2 dReader_cut_117 rfl rfl ?_
          refine x_goto (tgt := 9) dReader_cut_120 (by decide) ?_
          -- at 9: .iload_n 2
          rw [nI_1]
          exact ih (i + 1) e I2 D2 _ _ (by omega) (by omega) h2 hF2 hs2 h52 (by omega) hT2 hE2
        have put : ∀ (e : Nat) (s v b : Int32), at0 < e → e ≤ z → tokS (I 24) z at0 = (s, at0, v) :: tokS (I 24) z e → X mReader_cut G (10, 0, 0) S1 (ptk I' D.length s (nI at0) v) L 114 [.ref 23, .int (nI at0), .int (nI i), .int b, .int (nI e)] [] Post := by
          intro e s v b h0 h2 hE2
          refine next e _ (D ++ [(s, at0, v)]) b h0 h2 (fun k hk => ?_) (fun j hj => ?_) ?_ (by simp) (Tin_put hT rfl) ?_
          · simp only [List.mem_cons, List.not_mem_nil, or_false, not_or] at hk
            rw [ptk_o _ _ _ _ _ ⟨hk.1, hk.2.1, hk.2.2.1, hk.2.2.2⟩]
            exact hF k (by simp [hk])
          · rw [ptk_s _ _ _ _ _ hj]
            exact hs j hj
          · rw [ptk_5]
            simp
          · rw [← hE, hE2, List.append_assoc]
            rfl
        refine x_aload_n dReader_cut_24 rfl ?_
        refine x_getR fl_Reader_9 rfl dReader_cut_25 rfl rfl rfl ?_
        refine x_iload_n dReader_cut_28 rfl ?_
        refine x_ialdJ (j := at0) dReader_cut_29 rfl rfl (by first | rfl | (simp only [← nI_add, ← pk_mul]; rfl)) (by omega) ?_
        refine x_istoren_3 dReader_cut_30 rfl rfl ?_
        refine x_iload_n dReader_cut_31 rfl ?_
        refine x_iconst (v := 1) dReader_cut_32 rfl ?_
        refine x_iadd dReader_cut_33 ?_
        refine x_istore_4 dReader_cut_34 rfl rfl ?_
        refine x_iload_n dReader_cut_36 rfl ?_
        -- at 37: .invokestatic 54
        rw [e24]
        refine x_callS_1 c_Reader_isLetter ok_Reader_isLetter ml_Reader_54 dReader_cut_37 rfl rfl ?_
        refine ⟨_, rfl, fun q => ?_, fun q => ?_⟩
        · have hnb := let_nb q
          have hE2 : tokS (I 24) z at0 = ((kindW (wordAt (I 24) at0 (letE (I 24) z (z - at0) at0))).1, at0, (kindW (wordAt (I 24) at0 (letE (I 24) z (z - at0) at0))).2) :: tokS (I 24) z (letE (I 24) z (z - at0) at0) := by
            rw [tokS_tok hlt hnb, tokAt, if_pos q]
          have he1 := letE_gt hlt q
          have he2 := (letE_ge (I 24) z (z - at0) at0).2 haz
          refine x_if_eq (tgt := 60) dReader_cut_40 (by decide) (fun h => absurd h (by decide)) (fun _ => ?_)
          refine x_aload_n dReader_cut_43 rfl ?_
          refine x_iload_n dReader_cut_44 rfl ?_
          -- at 45: .invokevirtual 57
          refine x_callV_1 c_Reader_lettersEnd ok_Reader_lettersEnd ml_Reader_57 dReader_cut_45 rfl rfl rfl rfl rfl ?_
          refine ⟨at0, z, rfl, rfl, hz', hz2, haz, ?_⟩
          rw [e24]
          refine x_istore_4 dReader_cut_48 rfl rfl ?_
          refine x_aload_n dReader_cut_50 rfl ?_
          refine x_iload_n dReader_cut_51 rfl ?_
          refine x_iload dReader_cut_52 rfl ?_
          -- at 54: .invokevirtual 61
          refine x_callV_2 c_Reader_putWord ok_Reader_putWord ml_Reader_61 dReader_cut_54 rfl rfl rfl rfl rfl ?_
          refine ⟨at0, letE (I 24) z (z - at0) at0, D.length, rfl, rfl, h5, by omega, by omega, by omega, ?_⟩
          rw [e24]
          refine x_goto (tgt := 114) dReader_cut_57 (by decide) ?_
          -- at 114: .iload 4
          exact put _ _ _ _ he1 he2 hE2
        · refine x_if_eq (tgt := 60) dReader_cut_40 (by decide) (fun _ => ?_) (fun h => absurd (by decide) h)
          refine x_iload_n dReader_cut_60 rfl ?_
          -- at 61: .invokestatic 65
          refine x_callS_1 c_Reader_isDigit ok_Reader_isDigit ml_Reader_65 dReader_cut_61 rfl rfl ?_
          refine ⟨_, rfl, fun q2 => ?_, fun q2 => ?_⟩
          · have hnb := dig_nb q2
            have he1 := digE_gt hlt q2
            have he2 := (digE_ge (I 24) z (z - at0) at0).2 haz
            refine x_if_eq (tgt := 84) dReader_cut_64 (by decide) (fun h => absurd h (by decide)) (fun _ => ?_)
            refine x_aload_n dReader_cut_67 rfl ?_
            refine x_iload_n dReader_cut_68 rfl ?_
            -- at 69: .invokevirtual 68
            refine x_callV_1 c_Reader_digitsEnd ok_Reader_digitsEnd ml_Reader_68 dReader_cut_69 rfl rfl rfl rfl rfl ?_
            refine ⟨at0, z, rfl, rfl, hz', hz2, haz, ?_⟩
            rw [e24]
            refine x_istore_4 dReader_cut_72 rfl rfl ?_
            refine x_aload_n dReader_cut_74 rfl ?_
            refine x_iload_n dReader_cut_75 rfl ?_
            refine x_iload dReader_cut_76 rfl ?_
            -- at 78: .invokevirtual 71
            refine x_callV_2 c_Reader_putNumber ok_Reader_putNumber ml_Reader_71 dReader_cut_78 rfl rfl rfl rfl rfl ?_
            refine ⟨at0, digE (I 24) z (z - at0) at0, D.length, rfl, rfl, h5, by omega, by omega, by omega, ?_⟩
            rw [e24]
            have hE0 : tokS (I 24) z at0 = _ := tokS_tok hlt hnb
            rw [tokAt, if_neg q, if_pos q2] at hE0
            by_cases h4 : 4 < digE (I 24) z (z - at0) at0 - at0
            · rw [if_pos h4]
              rw [if_pos h4] at hE0
              refine x_goto (tgt := 114) dReader_cut_81 (by decide) ?_
              -- at 114: .iload 4
              exact put _ _ _ _ he1 he2 hE0
            · rw [if_neg h4]
              rw [if_neg h4] at hE0
              refine x_goto (tgt := 114) dReader_cut_81 (by decide) ?_
              -- at 114: .iload 4
              exact put _ _ _ _ he1 he2 hE0
          · refine x_if_eq (tgt := 84) dReader_cut_64 (by decide) (fun _ => ?_) (fun h => absurd (by decide) h)
            have bla : isBla (I 24 at0) → X mReader_cut G (10, 0, 0) S1 I' L 114 [.ref 23, .int (nI at0), .int (nI i), .int (I 24 at0), .int (nI at0 + 1)] [] Post := by
              intro hb
              rw [nI_1]
              exact next (at0 + 1) I' D _ (by omega) (by omega) hF hs h5 (by omega) hT (by rw [← hE, tokS_bla hlt hb])
            refine x_iload_n dReader_cut_84 rfl ?_
            refine x_bipush (v := 32) dReader_cut_85 rfl ?_
            -- at 87: .if_icmp .eq 27
            refine x_icmp_eq (tgt := 114) dReader_cut_87 (by decide) (fun c1 => ?_) (fun c1 => ?_)
            · exact bla (Or.inl c1)
            · refine x_iload_n dReader_cut_90 rfl ?_
              refine x_bipush (v := 10) dReader_cut_91 rfl ?_
              -- at 93: .if_icmp .eq 21
              refine x_icmp_eq (tgt := 114) dReader_cut_93 (by decide) (fun c2 => ?_) (fun c2 => ?_)
              · exact bla (Or.inr c2)
              · have hnb : ¬ isBla (I 24 at0) := fun y => y.elim c1 c2
                have hE0 : tokS (I 24) z at0 = _ := tokS_tok hlt hnb
                rw [tokAt, if_neg q, if_neg q2] at hE0
                refine x_aload_n dReader_cut_96 rfl ?_
                refine x_iload_n dReader_cut_97 rfl ?_
                -- at 98: .invokestatic 74
                refine x_callS_1 c_Reader_isSign ok_Reader_isSign ml_Reader_74 dReader_cut_98 rfl rfl ?_
                refine ⟨_, rfl, fun g => ?_, fun g => ?_⟩
                · rw [if_pos g] at hE0
                  refine x_if_eq (tgt := 108) dReader_cut_101 (by decide) (fun h => absurd h (by decide)) (fun _ => ?_)
                  refine x_iload_n dReader_cut_104 rfl ?_
                  refine x_goto (tgt := 109) dReader_cut_105 (by decide) ?_
                  refine x_iload_n dReader_cut_109 rfl ?_
                  refine x_iconst (v := 0) dReader_cut_110 rfl ?_
                  -- at 111: .invokevirtual 77
                  refine x_callV_3 c_Reader_putToken ok_Reader_putToken ml_Reader_77 dReader_cut_111 rfl rfl rfl rfl rfl ?_
                  refine ⟨D.length, _, _, _, rfl, rfl, h5, by omega, ?_⟩
                  rw [nI_1]
                  exact put _ _ _ _ (by omega) (by omega) hE0
                · rw [if_neg g] at hE0
                  refine x_if_eq (tgt := 108) dReader_cut_101 (by decide) (fun _ => ?_) (fun h => absurd (by decide) h)
                  refine x_iconst (v := 1) dReader_cut_108 rfl ?_
                  refine x_iload_n dReader_cut_109 rfl ?_
                  refine x_iconst (v := 0) dReader_cut_110 rfl ?_
                  -- at 111: .invokevirtual 77
                  refine x_callV_3 c_Reader_putToken ok_Reader_putToken ml_Reader_77 dReader_cut_111 rfl rfl rfl rfl rfl ?_
                  refine ⟨D.length, _, _, _, rfl, rfl, h5, by omega, ?_⟩
                  rw [nI_1]
                  exact put _ _ _ _ (by omega) (by omega) hE0
      · refine x_icmp_ge (tgt := 123) dReader_cut_21 (by decide) (fun _ => ?_) (fun h => absurd (nI_le (by omega) (by omega)) h)
        exact fin i at0 I' D a3 a4 (by omega) hF hs h5 hD hT hE
  refine loop 160 0 0 _ [] _ _ rfl (Nat.le_refl _) (Nat.zero_le _) (Fr.rfl.up (by decide) _ _) (fun j hj => by rw [up2_s, up1_n _ _ hj]) (by rw [up2_s, up1_s]; rfl) (Nat.le_refl _) (fun k hk => absurd hk (Nat.not_lt_zero k)) rfl
end
section
-- 57.parse
/-! texts: the class reads an E: levels go down -/
def PS (I : IM) (T : List Tok) (i u : Nat) : Prop := Tin I T ∧ I 23 6 = nI i ∧ I 23 9 = nI u ∧ u ≤ i ∧ i < T.length ∧ Tgood T ∧ T.length ≤ 161
def PSf (I I' : IM) : Prop := Fr [23, 28] I I' ∧ ∀ q, q ≠ 6 → q ≠ 9 → I' 23 q = I 23 q
def PSok (I : IM) (u : Nat) (I' : IM) (j : Nat) (C : List Int32) : Prop := PSf I I' ∧ I' 23 6 = nI j ∧ I' 23 9 = nI (u + C.length) ∧ (∀ k, k < u → I' 28 k = I 28 k) ∧ ∀ k, k < C.length → enc (I' 28 (u + k)) = C.getD k 0
def PSno (I I' : IM) (j : Nat) : Prop := PSf I I' ∧ I' 23 6 = nI j
theorem PSf.rfl {I : IM} : PSf I I := ⟨Fr.rfl, fun _ _ _ => Eq.refl _⟩
theorem PSf.tr {I I1 I2 : IM} (h : PSf I I1) (h2 : PSf I1 I2) : PSf I I2 := ⟨h.1.tr h2.1, fun q a b => (h2.2 q a b).trans (h.2 q a b)⟩
theorem PSf.nx {I I1 : IM} (h : PSf I I1) (x : Int32) : PSf I (up2 I1 23 6 x) := ⟨h.1.up (by decide) _ _, fun q a b => by rw [up2_s, up1_n _ _ a]; exact h.2 q a b⟩
theorem PSf.us {I I1 : IM} (h : PSf I I1) (x : Int32) : PSf I (up2 I1 23 9 x) := ⟨h.1.up (by decide) _ _, fun q a b => by rw [up2_s, up1_n _ _ b]; exact h.2 q a b⟩
theorem PSf.st {I I1 : IM} (h : PSf I I1) (k : Nat) (x : Int32) : PSf I (up2 I1 28 k x) := ⟨h.1.up (by decide) _ _, fun q a b => by rw [up2_n _ _ _ (by decide)]; exact h.2 q a b⟩
theorem PSf.tin {I I1 : IM} (h : PSf I I1) {T : List Tok} (ht : Tin I T) : Tin I1 T := by
  unfold Tin at ht ⊢
  rw [h.1 25 (by decide), h.1 26 (by decide), h.1 27 (by decide)]
  exact ht
theorem PSok.nil {I : IM} {u i : Nat} (h1 : I 23 6 = nI i) (h2 : I 23 9 = nI u) : PSok I u I i [] := ⟨PSf.rfl, h1, h2, fun _ _ => rfl, fun k hk => absurd hk (Nat.not_lt_zero k)⟩
theorem PSok.tr {I I1 I2 : IM} {u j j2 : Nat} {C D : List Int32} (h : PSok I u I1 j C) (h2 : PSok I1 (u + C.length) I2 j2 D) : PSok I u I2 j2 (C ++ D) := by
  obtain ⟨a1, a2, a3, a4, a5⟩ := h
  obtain ⟨b1, b2, b3, b4, b5⟩ := h2
  refine ⟨a1.tr b1, b2, ?_, fun k hk => (b4 k (by omega)).trans (a4 k hk), fun k hk => ?_⟩
  · rw [b3, List.length_append, Nat.add_assoc]
  · by_cases z : k < C.length
    · rw [b4 (u + k) (by omega), a5 k z]
      simp [List.getD_eq_getElem?_getD, List.getElem?_append_left z]
    · have hk2 : k - C.length < D.length := by rw [List.length_append] at hk; omega
      have := b5 (k - C.length) hk2
      rw [show u + C.length + (k - C.length) = u + k by omega] at this
      rw [this]
      simp [List.getD_eq_getElem?_getD, List.getElem?_append_right (show C.length ≤ k by omega)]
theorem PSok.nx {I I1 : IM} {u j : Nat} {C : List Int32} (h : PSok I u I1 j C) (k : Nat) : PSok I u (up2 I1 23 6 (nI k)) k C := by
  obtain ⟨a1, a2, a3, a4, a5⟩ := h
  refine ⟨a1.nx _, by rw [up2_s, up1_s], by rw [up2_s, up1_n _ _ (by decide)]; exact a3, fun q hq => ?_, fun q hq => ?_⟩
  · rw [up2_n _ _ _ (by decide)]
    exact a4 q hq
  · rw [up2_n _ _ _ (by decide)]
    exact a5 q hq
/-- a step more -/
def stU (I : IM) (u : Nat) (x : Int32) : IM := up2 (up2 I 28 u x) 23 9 (nI u + 1)
theorem PSok.stp {I I1 : IM} {u v j : Nat} {C : List Int32} (h : PSok I u I1 j C) (hv : v = u + C.length) (x : Int32) : PSok I u (stU I1 v x) j (C ++ [enc x]) := by
  subst hv
  obtain ⟨a1, a2, a3, a4, a5⟩ := h
  unfold stU
  refine ⟨(a1.st _ _).us _, ?_, ?_, fun q hq => ?_, fun q hq => ?_⟩
  · rw [up2_s, up1_n _ _ (by decide), up2_n _ _ _ (by decide)]
    exact a2
  · rw [up2_s, up1_s, nI_1, List.length_append]
    rfl
  · rw [up2_n _ _ _ (by decide), up2_s, up1_n _ _ (by omega)]
    exact a4 q hq
  · rw [up2_n _ _ _ (by decide), up2_s]
    by_cases z : q = C.length
    · subst z
      rw [up1_s]
      simp [List.getD_eq_getElem?_getD]
    · have hq2 : q < C.length := by simp at hq; omega
      rw [up1_n _ _ (by omega), a5 q hq2]
      simp [List.getD_eq_getElem?_getD, List.getElem?_append_left hq2]
theorem PSok.ps {I I1 : IM} {T : List Tok} {i u j : Nat} {C : List Int32} (hP : PS I T i u) (h : PSok I u I1 j C) (h1 : u + C.length ≤ j) (h2 : j < T.length) : PS I1 T j (u + C.length) :=
  ⟨h.1.tin hP.1, h.2.1, h.2.2.1, h1, h2, hP.2.2.2.2.2.1, hP.2.2.2.2.2.2⟩
theorem PS.nx {I : IM} {T : List Tok} {i u : Nat} (hP : PS I T i u) (h : i + 1 < T.length) : PS (up2 I 23 6 (nI (i + 1))) T (i + 1) u := by
  obtain ⟨a1, a2, a3, a4, a5, a6, a7⟩ := hP
  exact ⟨(PSf.rfl.nx _).tin a1, by rw [up2_s, up1_s], by rw [up2_s, up1_n _ _ (by decide)]; exact a3, by omega, h, a6, a7⟩
theorem PS.more {I : IM} {T : List Tok} {i u : Nat} (hP : PS I T i u) (h : ¬ ts T i = 0) : i + 1 < T.length := hP.2.2.2.2.2.1.2.1 i hP.2.2.2.2.1 h
theorem PS.s25 {I : IM} {T : List Tok} {i u : Nat} (hP : PS I T i u) : I 25 i = ts T i := (hP.1 i hP.2.2.2.2.1).1
def sp_Reader_passes : SpT := fun as S I L Post => ∃ (T : List Tok) (i u : Nat) (w : Int32), as = [.ref 23, .int w] ∧ S = S1 ∧ PS I T i u ∧ (ts T i = w → Post (some (.int 1)) S1 (up2 I 23 6 (nI (i + 1))) L) ∧ (¬ ts T i = w → Post (some (.int 0)) S1 I L)
set_option maxHeartbeats 4000000 in
set_option maxRecDepth 100000 in
theorem c_Reader_passes : Con mReader_passes 2 0 0 sp_Reader_passes := by
  refine con_of_X rfl fun G as S I L Post hs => ?_
  obtain ⟨T, i, u, w, rfl, rfl, hP, h1, h2⟩ := hs
  have e6 := hP.2.1
  have hi : i < 161 := by have := hP.2.2.2.2.1; have := hP.2.2.2.2.2.2; omega
  refine ⟨0, Nat.le_of_ble_eq_true rfl, ?_⟩
  show X mReader_passes G _ S1 I L 0 [.ref 23, .int w] [] Post
  refine x_aload_n dReader_passes_0 rfl ?_
  refine x_getR fl_Reader_19 rfl dReader_passes_1 rfl rfl rfl ?_
  refine x_aload_n dReader_passes_4 rfl ?_
  refine x_getI fl_Reader_31 rfl dReader_passes_5 rfl rfl ?_
  -- at 8: .iaload
  rw [e6]
  refine x_ialdJ (j := i) dReader_passes_8 rfl rfl (by first | rfl | (simp only [← nI_add, ← pk_mul]; rfl)) (by omega) ?_
  -- at 9: .iload_n 1
  rw [hP.s25]
  refine x_iload_n dReader_passes_9 rfl ?_
  -- at 10: .if_icmp .eq 5
  refine x_icmp_eq (tgt := 15) dReader_passes_10 (by decide) (fun c1 => ?_) (fun c1 => ?_)
  · refine x_aload_n dReader_passes_15 rfl ?_
    refine x_dup dReader_passes_16 rfl ?_
    refine x_getI fl_Reader_31 rfl dReader_passes_17 rfl rfl ?_
    -- at 20: .iconst 1
    rw [e6]
    refine x_iconst (v := 1) dReader_passes_20 rfl ?_
    refine x_iadd dReader_passes_21 ?_
    refine x_putI fl_Reader_31 rfl dReader_passes_22 (by decide) rfl rfl rfl rfl ?_
    refine x_iconst (v := 1) dReader_passes_25 rfl ?_
    -- at 26: .ireturn
    rw [nI_1]
    refine x_ireturn dReader_passes_26 rfl rfl ?_
    exact h1 c1
  · refine x_iconst (v := 0) dReader_passes_13 rfl ?_
    -- at 14: .ireturn
    refine x_ireturn dReader_passes_14 rfl rfl ?_
    exact h2 c1
def sp_Reader_step : SpT := fun as S I L Post => ∃ (u : Nat) (x : Int32), as = [.ref 23, .int x] ∧ S = S1 ∧ I 23 9 = nI u ∧ u < 160 ∧ Post none S1 (stU I u x) L
set_option maxHeartbeats 4000000 in
set_option maxRecDepth 100000 in
theorem c_Reader_step : Con mReader_step 2 0 0 sp_Reader_step := by
  refine con_of_X rfl fun G as S I L Post hs => ?_
  obtain ⟨u, x, rfl, rfl, hu, h160, h1⟩ := hs
  refine ⟨0, Nat.le_of_ble_eq_true rfl, ?_⟩
  show X mReader_step G _ S1 I L 0 [.ref 23, .int x] [] Post
  refine x_aload_n dReader_step_0 rfl ?_
  refine x_getI fl_Reader_40 rfl dReader_step_1 rfl rfl ?_
  refine x_sipush (v := 160) dReader_step_4 rfl ?_
  -- at 7: .if_icmp .ge 23
  rw [hu]
  refine x_icmp_ge (tgt := 30) dReader_step_7 (by decide) (fun h => absurd h (nI_ge (b := 160) h160 (by omega))) (fun _ => ?_)
  refine x_aload_n dReader_step_10 rfl ?_
  refine x_getR fl_Reader_34 rfl dReader_step_11 rfl rfl rfl ?_
  refine x_aload_n dReader_step_14 rfl ?_
  refine x_getI fl_Reader_40 rfl dReader_step_15 rfl rfl ?_
  -- at 18: .iload_n 1
  rw [hu]
  refine x_iload_n dReader_step_18 rfl ?_
  refine x_iastJ (j := u) dReader_step_19 rfl rfl (by first | rfl | (simp only [← nI_add, ← pk_mul]; rfl)) (by omega) ?_
  refine x_aload_n dReader_step_20 rfl ?_
  refine x_dup dReader_step_21 rfl ?_
  refine x_getI fl_Reader_40 rfl dReader_step_22 rfl rfl ?_
  -- at 25: .iconst 1
  simp only [up2_n, up2_s, ne_eq, Nat.reduceEqDiff, not_false_eq_true, hu]
  refine x_iconst (v := 1) dReader_step_25 rfl ?_
  refine x_iadd dReader_step_26 ?_
  refine x_putI fl_Reader_40 rfl dReader_step_27 (by decide) rfl rfl rfl rfl ?_
  -- at 30: .return_
  refine x_return dReader_step_30 rfl ?_
  exact h1
def sp_Reader_did : SpT := fun as S I L Post => ∃ (u : Nat) (x : Int32), as = [.ref 23, .int x] ∧ S = S1 ∧ I 23 9 = nI u ∧ u < 160 ∧ Post (some (.int 1)) S1 (stU I u (20000 + x)) L
set_option maxHeartbeats 4000000 in
set_option maxRecDepth 100000 in
theorem c_Reader_did : Con mReader_did 3 0 0 sp_Reader_did := by
  refine con_of_X rfl fun G as S I L Post hs => ?_
  obtain ⟨u, x, rfl, rfl, hu, h160, h1⟩ := hs
  refine ⟨0, Nat.le_of_ble_eq_true rfl, ?_⟩
  show X mReader_did G _ S1 I L 0 [.ref 23, .int x] [] Post
  refine x_aload_n dReader_did_0 rfl ?_
  refine x_sipush (v := 20000) dReader_did_1 rfl ?_
  refine x_iload_n dReader_did_4 rfl ?_
  refine x_iadd dReader_did_5 ?_
  -- at 6: .invokevirtual 139
  refine x_callV_1 c_Reader_step ok_Reader_step ml_Reader_139 dReader_did_6 rfl rfl rfl rfl rfl ?_
  refine ⟨u, _, rfl, rfl, hu, h160, ?_⟩
  refine x_iconst (v := 1) dReader_did_9 rfl ?_
  -- at 10: .ireturn
  refine x_ireturn dReader_did_10 rfl rfl ?_
  exact h1
def sp_Reader_opens : SpT := fun as S I L Post => ∃ (T : List Tok) (i u op : Nat) (w : Int32), as = [.ref 23, .int w, .int (nI op)] ∧ S = S1 ∧ op ≤ 5 ∧ PS I T i u ∧ (op < 5 ∧ ts T i = w → Post (some (.int 1)) S1 (up2 I 23 6 (nI (i + 1))) L) ∧ (¬ (op < 5 ∧ ts T i = w) → Post (some (.int 0)) S1 I L)
set_option maxHeartbeats 4000000 in
set_option maxRecDepth 100000 in
theorem c_Reader_opens : Con mReader_opens 3 0 0 sp_Reader_opens := by
  refine con_of_X rfl fun G as S I L Post hs => ?_
  obtain ⟨T, i, u, op, w, rfl, rfl, hop, hP, h1, h2⟩ := hs
  refine ⟨0, Nat.le_of_ble_eq_true rfl, ?_⟩
  show X mReader_opens G _ S1 I L 0 [.ref 23, .int w, .int (nI op)] [] Post
  refine x_iload_n dReader_opens_0 rfl ?_
  refine x_iconst (v := 5) dReader_opens_1 rfl ?_
  -- at 2: .if_icmp .ge 15
  by_cases h5 : op < 5
  · refine x_icmp_ge (tgt := 17) dReader_opens_2 (by decide) (fun h => absurd h (nI_ge (b := 5) h5 (by omega))) (fun _ => ?_)
    refine x_aload_n dReader_opens_5 rfl ?_
    refine x_iload_n dReader_opens_6 rfl ?_
    -- at 7: .invokevirtual 46
    refine x_callV_1 c_Reader_passes ok_Reader_passes ml_Reader_46 dReader_opens_7 rfl rfl rfl rfl rfl ?_
    refine ⟨T, i, u, w, rfl, rfl, hP, fun q => ?_, fun q => ?_⟩
    · refine x_if_eq (tgt := 17) dReader_opens_10 (by decide) (fun h => absurd h (by decide)) (fun _ => ?_)
      refine x_iconst (v := 1) dReader_opens_13 rfl ?_
      refine x_goto (tgt := 18) dReader_opens_14 (by decide) ?_
      -- at 18: .ireturn
      refine x_ireturn dReader_opens_18 rfl rfl ?_
      exact h1 ⟨h5, q⟩
    · refine x_if_eq (tgt := 17) dReader_opens_10 (by decide) (fun _ => ?_) (fun h => absurd (by decide) h)
      refine x_iconst (v := 0) dReader_opens_17 rfl ?_
      -- at 18: .ireturn
      refine x_ireturn dReader_opens_18 rfl rfl ?_
      exact h2 (fun z => q z.2)
  · refine x_icmp_ge (tgt := 17) dReader_opens_2 (by decide) (fun _ => ?_) (fun h => absurd (nI_le (a := 5) (by omega) (by omega)) h)
    refine x_iconst (v := 0) dReader_opens_17 rfl ?_
    -- at 18: .ireturn
    refine x_ireturn dReader_opens_18 rfl rfl ?_
    exact h2 (fun z => h5 z.1)
def sp_Reader_joins : SpT := fun as S I L Post => ∃ (l : Nat) (s : Int32), as = [.int (nI l), .int s] ∧ isBin l ∧ bPost (joinsP l s) S I L Post
set_option maxHeartbeats 4000000 in
set_option maxRecDepth 100000 in
theorem c_Reader_joins : Con mReader_joins 2 0 0 sp_Reader_joins := by
  refine con_of_X rfl fun G as S I L Post hs => ?_
  obtain ⟨l, s, rfl, hl, h1, h2⟩ := hs
  refine ⟨0, Nat.le_of_ble_eq_true rfl, ?_⟩
  show X mReader_joins G _ S I L 0 [.int (nI l), .int s] [] Post
  refine x_iload_n dReader_joins_0 rfl ?_
  -- at 1: .tableswitch 89 0 4 #[35, 47, 89, 59, 77]
  rcases hl with rfl | rfl | rfl | rfl
  · refine x_tableIn (tgt := 36) dReader_joins_1 (by decide) (by decide) rfl (by decide) ?_
    refine x_iload_n dReader_joins_36 rfl ?_
    refine x_bipush (v := 7) dReader_joins_37 rfl ?_
    -- at 39: .if_icmp .ne 7
    refine x_icmp_ne (tgt := 46) dReader_joins_39 (by decide) (fun c1 => ?_) (fun c1 => ?_)
    · refine x_iconst (v := 0) dReader_joins_46 rfl ?_
      -- at 47: .ireturn
      refine x_ireturn dReader_joins_47 rfl rfl ?_
      exact h2 (by rintro (z | z | z | z) <;> first | exact c1 z.2 | exact absurd z.1 (by decide))
    · refine x_iconst (v := 1) dReader_joins_42 rfl ?_
      refine x_goto (tgt := 47) dReader_joins_43 (by decide) ?_
      -- at 47: .ireturn
      refine x_ireturn dReader_joins_47 rfl rfl ?_
      exact h1 (Or.inl ⟨rfl, c1⟩)
  · refine x_tableIn (tgt := 48) dReader_joins_1 (by decide) (by decide) rfl (by decide) ?_
    refine x_iload_n dReader_joins_48 rfl ?_
    refine x_bipush (v := 8) dReader_joins_49 rfl ?_
    -- at 51: .if_icmp .ne 7
    refine x_icmp_ne (tgt := 58) dReader_joins_51 (by decide) (fun c1 => ?_) (fun c1 => ?_)
    · refine x_iconst (v := 0) dReader_joins_58 rfl ?_
      -- at 59: .ireturn
      refine x_ireturn dReader_joins_59 rfl rfl ?_
      exact h2 (by rintro (z | z | z | z) <;> first | exact c1 z.2 | exact absurd z.1 (by decide))
    · refine x_iconst (v := 1) dReader_joins_54 rfl ?_
      refine x_goto (tgt := 59) dReader_joins_55 (by decide) ?_
      -- at 59: .ireturn
      refine x_ireturn dReader_joins_59 rfl rfl ?_
      exact h1 (Or.inr (Or.inl ⟨rfl, c1⟩))
  · refine x_tableIn (tgt := 60) dReader_joins_1 (by decide) (by decide) rfl (by decide) ?_
    refine x_iload_n dReader_joins_60 rfl ?_
    refine x_bipush (v := 43) dReader_joins_61 rfl ?_
    -- at 63: .if_icmp .eq 9
    refine x_icmp_eq (tgt := 72) dReader_joins_63 (by decide) (fun c1 => ?_) (fun c1 => ?_)
    · refine x_iconst (v := 1) dReader_joins_72 rfl ?_
      refine x_goto (tgt := 77) dReader_joins_73 (by decide) ?_
      -- at 77: .ireturn
      refine x_ireturn dReader_joins_77 rfl rfl ?_
      exact h1 (Or.inr (Or.inr (Or.inl ⟨rfl, Or.inl c1⟩)))
    · refine x_iload_n dReader_joins_66 rfl ?_
      refine x_bipush (v := 45) dReader_joins_67 rfl ?_
      -- at 69: .if_icmp .ne 7
      refine x_icmp_ne (tgt := 76) dReader_joins_69 (by decide) (fun c2 => ?_) (fun c2 => ?_)
      · refine x_iconst (v := 0) dReader_joins_76 rfl ?_
        -- at 77: .ireturn
        refine x_ireturn dReader_joins_77 rfl rfl ?_
        exact h2 (by rintro (z | z | z | z) <;> first | exact z.2.elim c1 c2 | exact absurd z.1 (by decide))
      · refine x_iconst (v := 1) dReader_joins_72 rfl ?_
        refine x_goto (tgt := 77) dReader_joins_73 (by decide) ?_
        -- at 77: .ireturn
        refine x_ireturn dReader_joins_77 rfl rfl ?_
        exact h1 (Or.inr (Or.inr (Or.inl ⟨rfl, Or.inr c2⟩)))
  · refine x_tableIn (tgt := 78) dReader_joins_1 (by decide) (by decide) rfl (by decide) ?_
    refine x_iload_n dReader_joins_78 rfl ?_
    refine x_bipush (v := 42) dReader_joins_79 rfl ?_
    -- at 81: .if_icmp .ne 7
    refine x_icmp_ne (tgt := 88) dReader_joins_81 (by decide) (fun c1 => ?_) (fun c1 => ?_)
    · refine x_iconst (v := 0) dReader_joins_88 rfl ?_
      -- at 89: .ireturn
      refine x_ireturn dReader_joins_89 rfl rfl ?_
      exact h2 (by rintro (z | z | z | z) <;> first | exact c1 z.2 | exact absurd z.1 (by decide))
    · refine x_iconst (v := 1) dReader_joins_84 rfl ?_
      refine x_goto (tgt := 89) dReader_joins_85 (by decide) ?_
      -- at 89: .ireturn
      refine x_ireturn dReader_joins_89 rfl rfl ?_
      exact h1 (Or.inr (Or.inr (Or.inr ⟨rfl, c1⟩)))
theorem ble_of {a b : Nat} (h : a ≤ b) : Nat.ble a b = true := by simpa using h
def sp_lev (l op : Nat) : SpT := fun as S I L Post => ∃ (T : List Tok) (i u : Nat), as = [.ref 23, .int (nI l), .int (nI op)] ∧ S = S1 ∧ PS I T i u ∧
  (∀ (I' : IM) (j : Nat) (C : List Int32), PSok I u I' j C → LevOk T l op i j C → Post (some (.int 1)) S1 I' L) ∧ (∀ (I' : IM) (j : Nat), PSno I I' j → LevNo T l op i j → Post (some (.int 0)) S1 I' L)
def sp_negn (op : Nat) : SpT := fun as S I L Post => ∃ (T : List Tok) (i u : Nat), as = [.ref 23, .int (nI op)] ∧ S = S1 ∧ PS I T i u ∧
  (∀ (I' : IM) (j : Nat) (C : List Int32), PSok I u I' j C → LevOk T 2 op i j C → Post (some (.int 1)) S1 I' L) ∧ (∀ (I' : IM) (j : Nat), PSno I I' j → LevNo T 2 op i j → Post (some (.int 0)) S1 I' L)
def sp_onen (op : Nat) : SpT := fun as S I L Post => ∃ (T : List Tok) (i u : Nat), as = [.ref 23, .int (nI op)] ∧ S = S1 ∧ PS I T i u ∧
  (∀ (I' : IM) (j : Nat) (C : List Int32), PSok I u I' j C → OneOk T op i j C → Post (some (.int 1)) S1 I' L) ∧ (∀ (I' : IM) (j : Nat), PSno I I' j → OneNo T op i j → Post (some (.int 0)) S1 I' L)
theorem enc_sgn {l : Nat} {s : Int32} (h : joinsP l s) : enc (20000 + s) = sgn s ∧ ¬ s = 0 := by
  rcases h with ⟨rfl, rfl⟩ | ⟨rfl, rfl⟩ | ⟨rfl, rfl | rfl⟩ | ⟨rfl, rfl⟩ <;> decide
set_option maxHeartbeats 4000000 in
set_option maxRecDepth 100000 in
theorem c_lev_bin {l op d : Nat} (hl : isBin l) (hd : 3 ≤ d) (h : Con mReader_level d 0 0 (sp_lev (l + 1) op)) : Con mReader_level (d + 1) 0 0 (sp_lev l op) := by
  refine con_of_X rfl fun G as S I L Post hs => ?_
  obtain ⟨T, i, u, rfl, rfl, hP, h1, h2⟩ := hs
  refine ⟨2, Nat.le_of_ble_eq_true rfl, ?_⟩
  show X mReader_level G (d + 1, 0, 0) S1 I L 0 [.ref 23, .int (nI l), .int (nI op), .null, .null] [] Post
  have hui := hP.2.2.2.1
  have h161 := hP.2.2.2.2.2.2
  refine x_iload_n dReader_level_0 rfl ?_
  refine x_iconst (v := 2) dReader_level_1 rfl ?_
  -- at 2: .if_icmp .ne 9
  refine x_icmp_ne (tgt := 11) dReader_level_2 (by decide) (fun _ => ?_) (fun h => absurd h (by rcases hl with rfl | rfl | rfl | rfl <;> decide))
  refine x_iload_n dReader_level_11 rfl ?_
  refine x_iconst (v := 5) dReader_level_12 rfl ?_
  -- at 13: .if_icmp .lt 9
  refine x_icmp_lt (tgt := 22) dReader_level_13 (by decide) (fun _ => ?_) (fun h => absurd (by rcases hl with rfl | rfl | rfl | rfl <;> decide) h)
  refine x_aload_n dReader_level_22 rfl ?_
  refine x_iload_n dReader_level_23 rfl ?_
  refine x_iconst (v := 1) dReader_level_24 rfl ?_
  refine x_iadd dReader_level_25 ?_
  -- at 26: .iload_n 2
  rw [nI_1]
  refine x_iload_n dReader_level_26 rfl ?_
  -- at 27: .invokevirtual 50
  refine x_callV_2 h ok_Reader_level ml_Reader_50 dReader_level_27 (ble_of (Nat.le_refl _)) rfl rfl rfl rfl ?_
  refine ⟨T, i, u, rfl, rfl, hP, fun I1 j C k1 k2 => ?_, fun I1 j k1 k2 => ?_⟩
  · refine x_if_ne (tgt := 35) dReader_level_30 (by decide) (fun _ => ?_) (fun h => absurd h (by decide))
    refine x_iconst (v := 0) dReader_level_35 rfl ?_
    refine x_istoren_3 dReader_level_36 rfl rfl ?_
    -- at 37: .iload_n 3
    have loop : ∀ (k n j : Nat) (I' : IM) (C : List Int32) (a4 : Value), n + k = 160 → i + n ≤ j → PSok I u I' j C → BinIn T l op i j C →
        X mReader_level G (d + 1, 0, 0) S1 I' L 37 [.ref 23, .int (nI l), .int (nI op), .int (nI n), a4] [] Post := by
      intro k
      induction k with
      | zero =>
        intro n j I' C a4 hn hj k1 k2
        obtain rfl : n = 160 := by omega
        refine x_iload_n dReader_level_37 rfl ?_
        refine x_sipush (v := 160) dReader_level_38 rfl ?_
        -- at 41: .if_icmp .ge 69
        refine x_icmp_ge (tgt := 110) dReader_level_41 (by decide) (fun _ => ?_) (fun h => absurd (Int32.le_refl _) h)
        refine x_iconst (v := 1) dReader_level_110 rfl ?_
        -- at 111: .ireturn
        refine x_ireturn dReader_level_111 rfl rfl ?_
        have hjT := k2.2.1
        refine h1 I' j C k1 (bin_done hl k2 (fun z => ?_))
        have := hP.2.2.2.2.2.1.2.1 j hjT (enc_sgn z).2
        omega
      | succ k ih =>
        intro n j I' C a4 hn hj k1 k2
        have hjT := k2.2.1
        have hPj : PS I' T j (u + C.length) := PSok.ps hP k1 (by have := k2.1; omega) hjT
        refine x_iload_n dReader_level_37 rfl ?_
        refine x_sipush (v := 160) dReader_level_38 rfl ?_
        -- at 41: .if_icmp .ge 69
        refine x_icmp_ge (tgt := 110) dReader_level_41 (by decide) (fun h => absurd h (nI_ge (b := 160) (by omega) (by omega))) (fun _ => ?_)
        refine x_iload_n dReader_level_44 rfl ?_
        refine x_aload_n dReader_level_45 rfl ?_
        refine x_getR fl_Reader_19 rfl dReader_level_46 rfl rfl rfl ?_
        refine x_aload_n dReader_level_49 rfl ?_
        refine x_getI fl_Reader_31 rfl dReader_level_50 rfl rfl ?_
        -- at 53: .iaload
        rw [k1.2.1]
        refine x_ialdJ (j := j) dReader_level_53 rfl rfl (by first | rfl | (simp only [← nI_add, ← pk_mul]; rfl)) (by omega) ?_
        -- at 54: .invokestatic 136
        rw [hPj.s25]
        refine x_callS_2 c_Reader_joins ok_Reader_joins ml_Reader_136 dReader_level_54 (ble_of (by omega)) rfl ?_
        refine ⟨l, _, rfl, hl, fun q => ?_, fun q => ?_⟩
        · obtain ⟨q1, q2⟩ := enc_sgn q
          have hj1 := hPj.more q2
          refine x_if_eq (tgt := 110) dReader_level_57 (by decide) (fun h => absurd h (by decide)) (fun _ => ?_)
          refine x_aload_n dReader_level_60 rfl ?_
          refine x_getR fl_Reader_19 rfl dReader_level_61 rfl rfl rfl ?_
          refine x_aload_n dReader_level_64 rfl ?_
          refine x_getI fl_Reader_31 rfl dReader_level_65 rfl rfl ?_
          -- at 68: .iaload
          rw [k1.2.1]
          refine x_ialdJ (j := j) dReader_level_68 rfl rfl (by first | rfl | (simp only [← nI_add, ← pk_mul]; rfl)) (by omega) ?_
          -- at 69: .istore 4
          rw [hPj.s25]
          refine x_istore_4 dReader_level_69 rfl rfl ?_
          refine x_aload_n dReader_level_71 rfl ?_
          refine x_dup dReader_level_72 rfl ?_
          refine x_getI fl_Reader_31 rfl dReader_level_73 rfl rfl ?_
          -- at 76: .iconst 1
          rw [k1.2.1]
          refine x_iconst (v := 1) dReader_level_76 rfl ?_
          refine x_iadd dReader_level_77 ?_
          -- at 78: .putfield 31
          rw [nI_1]
          refine x_putI fl_Reader_31 rfl dReader_level_78 (by decide) rfl rfl rfl rfl ?_
          refine x_aload_n dReader_level_81 rfl ?_
          refine x_iload_n dReader_level_82 rfl ?_
          refine x_iconst (v := 1) dReader_level_83 rfl ?_
          refine x_iadd dReader_level_84 ?_
          -- at 85: .iload_n 2
          rw [nI_1]
          refine x_iload_n dReader_level_85 rfl ?_
          -- at 86: .invokevirtual 50
          refine x_callV_2 h ok_Reader_level ml_Reader_50 dReader_level_86 (ble_of (Nat.le_refl _)) rfl rfl rfl rfl ?_
          refine ⟨T, j + 1, u + C.length, rfl, rfl, hPj.nx hj1, fun I3 j2 D k3 k4 => ?_, fun I3 j2 k3 k4 => ?_⟩
          · refine x_if_ne (tgt := 94) dReader_level_89 (by decide) (fun _ => ?_) (fun h => absurd h (by decide))
            refine x_aload_n dReader_level_94 rfl ?_
            refine x_sipush (v := 20000) dReader_level_95 rfl ?_
            refine x_iload dReader_level_98 rfl ?_
            refine x_iadd dReader_level_100 ?_
            -- at 101: .invokevirtual 139
            refine x_callV_1 c_Reader_step ok_Reader_step ml_Reader_139 dReader_level_101 (ble_of (by omega)) rfl rfl rfl rfl ?_
            have k5 : PSok I u I3 j2 (C ++ D) := (k1.nx (j + 1)).tr k3
            have hj2 := k4.2.1
            have hj3 := k4.1
            have hj4 := k2.1
            refine ⟨u + (C ++ D).length, _, rfl, rfl, k5.2.2.1, by rw [List.length_append]; omega, ?_⟩
            refine x_iincp_3 dReader_level_104 rfl rfl ?_
            refine x_goto (tgt := 37) dReader_level_107 (by decide) ?_
            -- at 37: .iload_n 3
            rw [nI_1]
            have k6 := k5.stp rfl (20000 + ts T j)
            rw [q1] at k6
            exact ih (n + 1) j2 _ _ _ (by omega) (by omega) k6 (bin_step hl k2 q k4)
          · refine x_if_ne (tgt := 94) dReader_level_89 (by decide) (fun h => absurd (by decide) h) (fun _ => ?_)
            refine x_iconst (v := 0) dReader_level_92 rfl ?_
            -- at 93: .ireturn
            refine x_ireturn dReader_level_93 rfl rfl ?_
            exact h2 I3 j2 ⟨((k1.1.nx _).tr k3.1), k3.2⟩ (bin_fail hl k2 q k4)
        · refine x_if_eq (tgt := 110) dReader_level_57 (by decide) (fun _ => ?_) (fun h => absurd (by decide) h)
          refine x_iconst (v := 1) dReader_level_110 rfl ?_
          -- at 111: .ireturn
          refine x_ireturn dReader_level_111 rfl rfl ?_
          exact h1 I' j C k1 (bin_done hl k2 q)
    exact loop 160 0 j I1 C _ rfl (by have := k2.1; omega) k1 (bin_init hl k2)
  · refine x_if_ne (tgt := 35) dReader_level_30 (by decide) (fun h => absurd (by decide) h) (fun _ => ?_)
    refine x_iconst (v := 0) dReader_level_33 rfl ?_
    -- at 34: .ireturn
    refine x_ireturn dReader_level_34 rfl rfl ?_
    exact h2 I1 j k1 (bin_no hl k2)
set_option maxHeartbeats 4000000 in
set_option maxRecDepth 100000 in
theorem c_lev_2 {op d : Nat} (h : Con mReader_negation d 0 0 (sp_negn op)) : Con mReader_level (d + 1) 0 0 (sp_lev 2 op) := by
  refine con_of_X rfl fun G as S I L Post hs => ?_
  obtain ⟨T, i, u, rfl, rfl, hP, h1, h2⟩ := hs
  refine ⟨2, Nat.le_of_ble_eq_true rfl, ?_⟩
  show X mReader_level G (d + 1, 0, 0) S1 I L 0 [.ref 23, .int (nI 2), .int (nI op), .null, .null] [] Post
  refine x_iload_n dReader_level_0 rfl ?_
  refine x_iconst (v := 2) dReader_level_1 rfl ?_
  -- at 2: .if_icmp .ne 9
  refine x_icmp_ne (tgt := 11) dReader_level_2 (by decide) (fun h => absurd rfl h) (fun _ => ?_)
  refine x_aload_n dReader_level_5 rfl ?_
  refine x_iload_n dReader_level_6 rfl ?_
  -- at 7: .invokevirtual 130
  refine x_callV_1 h ok_Reader_negation ml_Reader_130 dReader_level_7 (ble_of (Nat.le_refl _)) rfl rfl rfl rfl ?_
  refine ⟨T, i, u, rfl, rfl, hP, fun I1 j C k1 k2 => ?_, fun I1 j k1 k2 => ?_⟩
  · refine x_ireturn dReader_level_10 rfl rfl ?_
    exact h1 I1 j C k1 k2
  · refine x_ireturn dReader_level_10 rfl rfl ?_
    exact h2 I1 j k1 k2
set_option maxHeartbeats 4000000 in
set_option maxRecDepth 100000 in
theorem c_lev_5 {op d : Nat} (h : Con mReader_one d 0 0 (sp_onen op)) : Con mReader_level (d + 1) 0 0 (sp_lev 5 op) := by
  refine con_of_X rfl fun G as S I L Post hs => ?_
  obtain ⟨T, i, u, rfl, rfl, hP, h1, h2⟩ := hs
  refine ⟨2, Nat.le_of_ble_eq_true rfl, ?_⟩
  show X mReader_level G (d + 1, 0, 0) S1 I L 0 [.ref 23, .int (nI 5), .int (nI op), .null, .null] [] Post
  refine x_iload_n dReader_level_0 rfl ?_
  refine x_iconst (v := 2) dReader_level_1 rfl ?_
  -- at 2: .if_icmp .ne 9
  refine x_icmp_ne (tgt := 11) dReader_level_2 (by decide) (fun _ => ?_) (fun h => absurd h (by decide))
  refine x_iload_n dReader_level_11 rfl ?_
  refine x_iconst (v := 5) dReader_level_12 rfl ?_
  -- at 13: .if_icmp .lt 9
  refine x_icmp_lt (tgt := 22) dReader_level_13 (by decide) (fun h => absurd h (by decide)) (fun _ => ?_)
  refine x_aload_n dReader_level_16 rfl ?_
  refine x_iload_n dReader_level_17 rfl ?_
  -- at 18: .invokevirtual 133
  refine x_callV_1 h ok_Reader_one ml_Reader_133 dReader_level_18 (ble_of (Nat.le_refl _)) rfl rfl rfl rfl ?_
  refine ⟨T, i, u, rfl, rfl, hP, fun I1 j C k1 k2 => ?_, fun I1 j k1 k2 => ?_⟩
  · refine x_ireturn dReader_level_21 rfl rfl ?_
    exact h1 I1 j C k1 (one_lev k2)
  · refine x_ireturn dReader_level_21 rfl rfl ?_
    exact h2 I1 j k1 (one_levN k2)
end
section
-- 58.parse2
/-! texts: not, ONE, an E, a TEXT, by the class -/
theorem enc_cmp {s : Int32} (h : cmpP s) : enc (20000 + s) = sgn s ∧ ¬ s = 0 := by
  rcases h with rfl | rfl <;> decide
set_option maxHeartbeats 4000000 in
set_option maxRecDepth 100000 in
theorem c_negn {op d : Nat} (hop : op ≤ 5) (hd : 3 ≤ d) (h3 : Con mReader_level d 0 0 (sp_lev 3 op)) (hn : op < 5 → ∃ d2, d2 ≤ d ∧ Con mReader_negation d2 0 0 (sp_negn (op + 1))) : Con mReader_negation (d + 1) 0 0 (sp_negn op) := by
  refine con_of_X rfl fun G as S I L Post hs => ?_
  obtain ⟨T, i, u, rfl, rfl, hP, h1, h2⟩ := hs
  have hui := hP.2.2.2.1
  have hiT := hP.2.2.2.2.1
  have h161 := hP.2.2.2.2.2.2
  refine ⟨1, Nat.le_of_ble_eq_true rfl, ?_⟩
  show X mReader_negation G (d + 1, 0, 0) S1 I L 0 [.ref 23, .int (nI op), .null] [] Post
  refine x_aload_n dReader_negation_0 rfl ?_
  refine x_getR fl_Reader_19 rfl dReader_negation_1 rfl rfl rfl ?_
  refine x_aload_n dReader_negation_4 rfl ?_
  refine x_getI fl_Reader_31 rfl dReader_negation_5 rfl rfl ?_
  -- at 8: .iaload
  rw [hP.2.1]
  refine x_ialdJ (j := i) dReader_negation_8 rfl rfl (by first | rfl | (simp only [← nI_add, ← pk_mul]; rfl)) (by omega) ?_
  -- at 9: .bipush 9
  rw [hP.s25]
  refine x_bipush (v := 9) dReader_negation_9 rfl ?_
  -- at 11: .if_icmp .ne 38
  by_cases h9 : ts T i = 9
  · refine x_icmp_ne (tgt := 49) dReader_negation_11 (by decide) (fun h => absurd h9 h) (fun _ => ?_)
    have no : ∀ (I' : IM) (j : Nat), PSno I I' j → LevNo T 2 op i j → X mReader_negation G (d + 1, 0, 0) S1 I' L 47 [.ref 23, .int (nI op), .null] [] Post := by
      intro I' j k1 k2
      refine x_iconst (v := 0) dReader_negation_47 rfl ?_
      -- at 48: .ireturn
      refine x_ireturn dReader_negation_48 rfl rfl ?_
      exact h2 I' j k1 k2
    refine x_aload_n dReader_negation_14 rfl ?_
    refine x_bipush (v := 9) dReader_negation_15 rfl ?_
    refine x_iload_n dReader_negation_17 rfl ?_
    -- at 18: .invokevirtual 143
    refine x_callV_2 c_Reader_opens ok_Reader_opens ml_Reader_143 dReader_negation_18 (ble_of (by omega)) rfl rfl rfl rfl ?_
    refine ⟨T, i, u, op, 9, rfl, rfl, hop, hP, fun q => ?_, fun q => ?_⟩
    · refine x_if_eq (tgt := 47) dReader_negation_21 (by decide) (fun h => absurd h (by decide)) (fun _ => ?_)
      obtain ⟨d2, hd2, hc⟩ := hn q.1
      have hi1 := hP.more (by rw [h9]; decide)
      refine x_aload_n dReader_negation_24 rfl ?_
      refine x_iload_n dReader_negation_25 rfl ?_
      refine x_iconst (v := 1) dReader_negation_26 rfl ?_
      refine x_iadd dReader_negation_27 ?_
      -- at 28: .invokevirtual 130
      rw [nI_1]
      refine x_callV_1 hc ok_Reader_negation ml_Reader_130 dReader_negation_28 (ble_of (by omega)) rfl rfl rfl rfl ?_
      refine ⟨T, i + 1, u, rfl, rfl, hP.nx hi1, fun I2 j C k1 k2 => ?_, fun I2 j k1 k2 => ?_⟩
      · refine x_if_eq (tgt := 47) dReader_negation_31 (by decide) (fun h => absurd h (by decide)) (fun _ => ?_)
        refine x_aload_n dReader_negation_34 rfl ?_
        refine x_bipush (v := 9) dReader_negation_35 rfl ?_
        -- at 37: .invokevirtual 146
        refine x_callV_1 c_Reader_did ok_Reader_did ml_Reader_146 dReader_negation_37 (ble_of (by omega)) rfl rfl rfl rfl ?_
        have k3 : PSok I u I2 j ([] ++ C) := ((PSok.nil hP.2.1 hP.2.2.1).nx (i + 1)).tr k1
        have hj1 := k2.1
        have hj2 := k2.2.1
        refine ⟨u + C.length, 9, rfl, rfl, k1.2.2.1, by omega, ?_⟩
        refine x_if_eq (tgt := 47) dReader_negation_40 (by decide) (fun h => absurd h (by decide)) (fun _ => ?_)
        refine x_iconst (v := 1) dReader_negation_43 rfl ?_
        refine x_goto (tgt := 48) dReader_negation_44 (by decide) ?_
        -- at 48: .ireturn
        refine x_ireturn dReader_negation_48 rfl rfl ?_
        exact h1 _ j _ (k3.stp rfl (20000 + 9)) (not_ok hiT h9 q.1 k2)
      · refine x_if_eq (tgt := 47) dReader_negation_31 (by decide) (fun _ => ?_) (fun h => absurd (by decide) h)
        exact no I2 j ⟨(PSf.rfl.nx _).tr k1.1, k1.2⟩ (not_no hiT h9 q.1 k2)
    · refine x_if_eq (tgt := 47) dReader_negation_21 (by decide) (fun _ => ?_) (fun h => absurd (by decide) h)
      exact no I i ⟨PSf.rfl, hP.2.1⟩ (not_full hiT h9 (fun z => q ⟨z, h9⟩))
  · refine x_icmp_ne (tgt := 49) dReader_negation_11 (by decide) (fun _ => ?_) (fun h => absurd h h9)
    refine x_aload_n dReader_negation_49 rfl ?_
    refine x_iconst (v := 3) dReader_negation_50 rfl ?_
    refine x_iload_n dReader_negation_51 rfl ?_
    -- at 52: .invokevirtual 50
    refine x_callV_2 h3 ok_Reader_level ml_Reader_50 dReader_negation_52 (ble_of (Nat.le_refl _)) rfl rfl rfl rfl ?_
    refine ⟨T, i, u, rfl, rfl, hP, fun I1 j C k1 k2 => ?_, fun I1 j k1 k2 => ?_⟩
    · have hj1 := k2.1
      have hj2 := k2.2.1
      have hPj : PS I1 T j (u + C.length) := PSok.ps hP k1 (by omega) hj2
      refine x_if_ne (tgt := 60) dReader_negation_55 (by decide) (fun _ => ?_) (fun h => absurd h (by decide))
      refine x_aload_n dReader_negation_60 rfl ?_
      refine x_getR fl_Reader_19 rfl dReader_negation_61 rfl rfl rfl ?_
      refine x_aload_n dReader_negation_64 rfl ?_
      refine x_getI fl_Reader_31 rfl dReader_negation_65 rfl rfl ?_
      -- at 68: .iaload
      rw [k1.2.1]
      refine x_ialdJ (j := j) dReader_negation_68 rfl rfl (by first | rfl | (simp only [← nI_add, ← pk_mul]; rfl)) (by omega) ?_
      -- at 69: .istore_n 2
      rw [hPj.s25]
      refine x_istoren_2 dReader_negation_69 rfl rfl ?_
      refine x_iload_n dReader_negation_70 rfl ?_
      refine x_bipush (v := 60) dReader_negation_71 rfl ?_
      -- at 73: .if_icmp .eq 11
      have go84 : cmpP (ts T j) → X mReader_negation G (d + 1, 0, 0) S1 I1 L 84 [.ref 23, .int (nI op), .int (ts T j)] [] Post := by
        intro hc
        obtain ⟨q1, q2⟩ := enc_cmp hc
        have hj3 := hPj.more q2
        refine x_aload_n dReader_negation_84 rfl ?_
        refine x_dup dReader_negation_85 rfl ?_
        refine x_getI fl_Reader_31 rfl dReader_negation_86 rfl rfl ?_
        -- at 89: .iconst 1
        rw [k1.2.1]
        refine x_iconst (v := 1) dReader_negation_89 rfl ?_
        refine x_iadd dReader_negation_90 ?_
        -- at 91: .putfield 31
        rw [nI_1]
        refine x_putI fl_Reader_31 rfl dReader_negation_91 (by decide) rfl rfl rfl rfl ?_
        refine x_aload_n dReader_negation_94 rfl ?_
        refine x_iconst (v := 3) dReader_negation_95 rfl ?_
        refine x_iload_n dReader_negation_96 rfl ?_
        -- at 97: .invokevirtual 50
        refine x_callV_2 h3 ok_Reader_level ml_Reader_50 dReader_negation_97 (ble_of (Nat.le_refl _)) rfl rfl rfl rfl ?_
        refine ⟨T, j + 1, u + C.length, rfl, rfl, hPj.nx hj3, fun I3 j2 D k3 k4 => ?_, fun I3 j2 k3 k4 => ?_⟩
        · have k5 : PSok I u I3 j2 (C ++ D) := (k1.nx (j + 1)).tr k3
          have hj4 := k4.1
          have hj5 := k4.2.1
          refine x_if_eq (tgt := 115) dReader_negation_100 (by decide) (fun h => absurd h (by decide)) (fun _ => ?_)
          refine x_aload_n dReader_negation_103 rfl ?_
          refine x_iload_n dReader_negation_104 rfl ?_
          -- at 105: .invokevirtual 146
          refine x_callV_1 c_Reader_did ok_Reader_did ml_Reader_146 dReader_negation_105 (ble_of (by omega)) rfl rfl rfl rfl ?_
          refine ⟨u + (C ++ D).length, _, rfl, rfl, k5.2.2.1, by rw [List.length_append]; omega, ?_⟩
          refine x_if_eq (tgt := 115) dReader_negation_108 (by decide) (fun h => absurd h (by decide)) (fun _ => ?_)
          refine x_iconst (v := 1) dReader_negation_111 rfl ?_
          refine x_goto (tgt := 116) dReader_negation_112 (by decide) ?_
          -- at 116: .ireturn
          refine x_ireturn dReader_negation_116 rfl rfl ?_
          have k6 := k5.stp rfl (20000 + ts T j)
          rw [q1] at k6
          exact h1 _ j2 _ k6 (cmp_ok hiT h9 k2 hc k4)
        · refine x_if_eq (tgt := 115) dReader_negation_100 (by decide) (fun _ => ?_) (fun h => absurd (by decide) h)
          refine x_iconst (v := 0) dReader_negation_115 rfl ?_
          -- at 116: .ireturn
          refine x_ireturn dReader_negation_116 rfl rfl ?_
          exact h2 I3 j2 ⟨(k1.1.nx _).tr k3.1, k3.2⟩ (cmp_no hiT h9 k2 hc k4)
      refine x_icmp_eq (tgt := 84) dReader_negation_73 (by decide) (fun c1 => ?_) (fun c1 => ?_)
      · exact go84 (Or.inl c1)
      · refine x_iload_n dReader_negation_76 rfl ?_
        refine x_bipush (v := 61) dReader_negation_77 rfl ?_
        -- at 79: .if_icmp .eq 5
        refine x_icmp_eq (tgt := 84) dReader_negation_79 (by decide) (fun c2 => ?_) (fun c2 => ?_)
        · exact go84 (Or.inr c2)
        · refine x_iconst (v := 1) dReader_negation_82 rfl ?_
          -- at 83: .ireturn
          refine x_ireturn dReader_negation_83 rfl rfl ?_
          exact h1 I1 j C k1 (sum_only hiT h9 k2 (fun z => z.elim c1 c2))
    · refine x_if_ne (tgt := 60) dReader_negation_55 (by decide) (fun h => absurd (by decide) h) (fun _ => ?_)
      refine x_iconst (v := 0) dReader_negation_58 rfl ?_
      -- at 59: .ireturn
      refine x_ireturn dReader_negation_59 rfl rfl ?_
      exact h2 I1 j k1 (sum_no hiT h9 k2)
theorem enc_num : ∀ v, v < 10000 → enc (nI v) = 100000 + nI v ∧ wfR [100000 + nI v] 0 = some 1 := by
  intro v hv
  have h1 : (0 : Int32) ≤ nI v := nI_le (a := 0) (by omega) (by omega)
  have h2 : nI v < 10000 := (nI_ltI (b := 10000) (by omega) (by omega)).mpr hv
  have e : (100000 : Int32) + nI v = nI (100000 + v) := nI_add 100000 v
  refine ⟨?_, ?_⟩
  · unfold enc
    rw [if_pos ⟨h1, h2⟩, Int32.add_comm]
  · rw [e, wfR, if_pos (Or.inl ⟨nI_le (a := 100000) (by omega) (by omega), (nI_ltI (b := 110000) (by omega) (by omega)).mpr (by omega)⟩), wfR]
theorem enc_nam : ∀ v, v < 6 → enc (10000 + nI v) = nI v ∧ wfR [nI v] 0 = some 1 := by decide
theorem wfC_1 {c : Int32} (h : wfR [c] 0 = some 1) (hc : ¬ (c = 13 ∨ c = 19)) (hc2 : ¬ (c = 11 ∨ c = 12 ∨ (14 ≤ c ∧ c ≤ 18))) : wfC [c] := by
  intro r x
  show wfR (c :: r) x = _
  rw [wfR] at h ⊢
  by_cases z : (100000 ≤ c ∧ c < 110000) ∨ (0 ≤ c ∧ c < 6)
  · rw [if_pos z]
  · rw [if_neg z, if_neg hc, if_neg hc2] at h
    cases h
theorem tok_lit {t : Tok} (h : TokOk t) (h2 : t.1 = 2 ∨ t.1 = 3) : wfC [cod t] ∧ (t.1 = 2 → enc t.2.2 = cod t) ∧ (t.1 = 3 → enc (10000 + t.2.2) = cod t) := by
  rcases h2 with e | e
  · obtain ⟨v, hv, ev⟩ := h.1 e
    obtain ⟨n1, n2⟩ := enc_num v hv
    have ec : cod t = 100000 + nI v := by rw [cod, if_pos e, ev]
    have hb : ∀ b : Int32, b.toInt < 100000 → ¬ 100000 + nI v = b := by
      intro b hb z
      rw [show (100000 : Int32) + nI v = nI (100000 + v) from nI_add 100000 v] at z
      rw [← z, nI_toInt (by omega)] at hb
      omega
    refine ⟨?_, fun _ => ?_, fun e3 => ?_⟩
    · rw [ec]
      refine wfC_1 n2 (fun z => z.elim (hb 13 (by decide)) (hb 19 (by decide))) (fun z => ?_)
      rcases z with z | z | z
      · exact hb 11 (by decide) z
      · exact hb 12 (by decide) z
      · have := Int32.le_iff_toInt_le.mp z.2
        rw [show (100000 : Int32) + nI v = nI (100000 + v) from nI_add 100000 v, nI_toInt (by omega)] at this
        have e18 : (18 : Int32).toInt = 18 := by decide
        omega
    · rw [ec, ev]
      exact n1
    · rw [e] at e3
      exact absurd e3 (by decide)
  · obtain ⟨v, hv, ev⟩ := h.2 e
    obtain ⟨n1, n2⟩ := enc_nam v hv
    have ec : cod t = nI v := by rw [cod, if_neg (by rw [e]; decide), ev]
    refine ⟨?_, fun e2 => ?_, fun _ => ?_⟩
    · rw [ec]
      exact wfC_1 n2 ((show ∀ v, v < 6 → ¬ (nI v = 13 ∨ nI v = 19) by decide) v hv) ((show ∀ v, v < 6 → ¬ (nI v = 11 ∨ nI v = 12 ∨ (14 ≤ nI v ∧ nI v ≤ 18)) by decide) v hv)
    · rw [e] at e2
      exact absurd e2 (by decide)
    · rw [ec, ev]
      exact n1
theorem stU_next {I : IM} {u i : Nat} {x : Int32} (h : I 23 6 = nI i) : stU I u x 23 6 = nI i := by
  unfold stU
  rw [up2_s, up1_n _ _ (by decide), up2_n _ _ _ (by decide)]
  exact h
set_option maxHeartbeats 4000000 in
set_option maxRecDepth 100000 in
theorem c_onen {op d : Nat} (hop : op ≤ 5) (hd : 3 ≤ d) (hn : op < 5 → ∃ d2, d2 ≤ d ∧ Con mReader_one d2 0 0 (sp_onen (op + 1))) (hp : op < 5 → ∃ d2, d2 ≤ d ∧ Con mReader_level d2 0 0 (sp_lev 0 (op + 1))) : Con mReader_one (d + 1) 0 0 (sp_onen op) := by
  refine con_of_X rfl fun G as S I L Post hs => ?_
  obtain ⟨T, i, u, rfl, rfl, hP, h1, h2⟩ := hs
  have hui := hP.2.2.2.1
  have hiT := hP.2.2.2.2.1
  have h161 := hP.2.2.2.2.2.2
  have hTok := hP.2.2.2.2.2.1.2.2 i hiT
  have e27 : I 27 i = (tk T i).2.2 := (hP.1 i hiT).2.2
  refine ⟨1, Nat.le_of_ble_eq_true rfl, ?_⟩
  show X mReader_one G (d + 1, 0, 0) S1 I L 0 [.ref 23, .int (nI op), .null] [] Post
  refine x_aload_n dReader_one_0 rfl ?_
  refine x_getR fl_Reader_19 rfl dReader_one_1 rfl rfl rfl ?_
  refine x_aload_n dReader_one_4 rfl ?_
  refine x_getI fl_Reader_31 rfl dReader_one_5 rfl rfl ?_
  -- at 8: .iaload
  rw [hP.2.1]
  refine x_ialdJ (j := i) dReader_one_8 rfl rfl (by first | rfl | (simp only [← nI_add, ← pk_mul]; rfl)) (by omega) ?_
  -- at 9: .istore_n 2
  rw [hP.s25]
  refine x_istoren_2 dReader_one_9 rfl rfl ?_
  refine x_iload_n dReader_one_10 rfl ?_
  refine x_iconst (v := 2) dReader_one_11 rfl ?_
  -- at 12: .if_icmp .eq 8
  have lit : ∀ x : Int32, (ts T i = 2 ∨ ts T i = 3) → enc x = cod (tk T i) → X mReader_one G (d + 1, 0, 0) S1 I L 51 [.ref 23, .int (nI op), .int (ts T i)] [.int x, .ref 23] Post := by
    intro x hl hx
    have hi1 := hP.more (by rcases hl with e | e <;> rw [e] <;> decide)
    refine x_callV_1 c_Reader_step ok_Reader_step ml_Reader_139 dReader_one_51 (ble_of (by omega)) rfl rfl rfl rfl ?_
    refine ⟨u, x, rfl, rfl, hP.2.2.1, by omega, ?_⟩
    refine x_aload_n dReader_one_54 rfl ?_
    refine x_dup dReader_one_55 rfl ?_
    refine x_getI fl_Reader_31 rfl dReader_one_56 rfl rfl ?_
    -- at 59: .iconst 1
    rw [stU_next hP.2.1]
    refine x_iconst (v := 1) dReader_one_59 rfl ?_
    refine x_iadd dReader_one_60 ?_
    -- at 61: .putfield 31
    rw [nI_1]
    refine x_putI fl_Reader_31 rfl dReader_one_61 (by decide) rfl rfl rfl rfl ?_
    refine x_iconst (v := 1) dReader_one_64 rfl ?_
    -- at 65: .ireturn
    refine x_ireturn dReader_one_65 rfl rfl ?_
    have k := ((PSok.nil hP.2.1 hP.2.2.1).stp rfl x).nx (i + 1)
    rw [hx] at k
    exact h1 _ (i + 1) _ k (one_lit hi1 hl (tok_lit hTok hl).1)
  have at20 : (ts T i = 2 ∨ ts T i = 3) → X mReader_one G (d + 1, 0, 0) S1 I L 20 [.ref 23, .int (nI op), .int (ts T i)] [] Post := by
    intro hl
    obtain ⟨-, t1, t2⟩ := tok_lit hTok hl
    refine x_aload_n dReader_one_20 rfl ?_
    refine x_iload_n dReader_one_21 rfl ?_
    refine x_iconst (v := 2) dReader_one_22 rfl ?_
    -- at 23: .if_icmp .ne 15
    by_cases e2 : ts T i = 2
    · refine x_icmp_ne (tgt := 38) dReader_one_23 (by decide) (fun h => absurd e2 h) (fun _ => ?_)
      refine x_aload_n dReader_one_26 rfl ?_
      refine x_getR fl_Reader_25 rfl dReader_one_27 rfl rfl rfl ?_
      refine x_aload_n dReader_one_30 rfl ?_
      refine x_getI fl_Reader_31 rfl dReader_one_31 rfl rfl ?_
      -- at 34: .iaload
      rw [hP.2.1]
      refine x_ialdJ (j := i) dReader_one_34 rfl rfl (by first | rfl | (simp only [← nI_add, ← pk_mul]; rfl)) (by omega) ?_
      -- at 35: .goto 16
      rw [e27]
      refine x_goto (tgt := 51) dReader_one_35 (by decide) ?_
      -- at 51: .invokevirtual 139
      exact lit _ hl (t1 e2)
    · refine x_icmp_ne (tgt := 38) dReader_one_23 (by decide) (fun _ => ?_) (fun h => absurd h e2)
      refine x_sipush (v := 10000) dReader_one_38 rfl ?_
      refine x_aload_n dReader_one_41 rfl ?_
      refine x_getR fl_Reader_25 rfl dReader_one_42 rfl rfl rfl ?_
      refine x_aload_n dReader_one_45 rfl ?_
      refine x_getI fl_Reader_31 rfl dReader_one_46 rfl rfl ?_
      -- at 49: .iaload
      rw [hP.2.1]
      refine x_ialdJ (j := i) dReader_one_49 rfl rfl (by first | rfl | (simp only [← nI_add, ← pk_mul]; rfl)) (by omega) ?_
      -- at 50: .iadd
      rw [e27]
      refine x_iadd dReader_one_50 ?_
      -- at 51: .invokevirtual 139
      exact lit _ hl (t2 (hl.elim (fun z => absurd z e2) id))
  by_cases e2 : ts T i = 2
  · refine x_icmp_eq (tgt := 20) dReader_one_12 (by decide) (fun _ => ?_) (fun h => absurd e2 h)
    exact at20 (Or.inl e2)
  refine x_icmp_eq (tgt := 20) dReader_one_12 (by decide) (fun h => absurd h e2) (fun _ => ?_)
  refine x_iload_n dReader_one_15 rfl ?_
  refine x_iconst (v := 3) dReader_one_16 rfl ?_
  -- at 17: .if_icmp .ne 49
  by_cases e3 : ts T i = 3
  · refine x_icmp_ne (tgt := 66) dReader_one_17 (by decide) (fun h => absurd e3 h) (fun _ => ?_)
    exact at20 (Or.inr e3)
  refine x_icmp_ne (tgt := 66) dReader_one_17 (by decide) (fun _ => ?_) (fun h => absurd h e3)
  refine x_iload_n dReader_one_66 rfl ?_
  refine x_bipush (v := 45) dReader_one_67 rfl ?_
  -- at 69: .if_icmp .ne 38
  by_cases e45 : ts T i = 45
  · refine x_icmp_ne (tgt := 107) dReader_one_69 (by decide) (fun h => absurd e45 h) (fun _ => ?_)
    have no : ∀ (I' : IM) (j : Nat), PSno I I' j → OneNo T op i j → X mReader_one G (d + 1, 0, 0) S1 I' L 105 [.ref 23, .int (nI op), .int (ts T i)] [] Post := by
      intro I' j k1 k2
      refine x_iconst (v := 0) dReader_one_105 rfl ?_
      -- at 106: .ireturn
      refine x_ireturn dReader_one_106 rfl rfl ?_
      exact h2 I' j k1 k2
    refine x_aload_n dReader_one_72 rfl ?_
    refine x_bipush (v := 45) dReader_one_73 rfl ?_
    refine x_iload_n dReader_one_75 rfl ?_
    -- at 76: .invokevirtual 143
    refine x_callV_2 c_Reader_opens ok_Reader_opens ml_Reader_143 dReader_one_76 (ble_of (by omega)) rfl rfl rfl rfl ?_
    refine ⟨T, i, u, op, 45, rfl, rfl, hop, hP, fun q => ?_, fun q => ?_⟩
    · refine x_if_eq (tgt := 105) dReader_one_79 (by decide) (fun h => absurd h (by decide)) (fun _ => ?_)
      obtain ⟨d2, hd2, hc⟩ := hn q.1
      have hi1 := hP.more (by rw [e45]; decide)
      refine x_aload_n dReader_one_82 rfl ?_
      refine x_iload_n dReader_one_83 rfl ?_
      refine x_iconst (v := 1) dReader_one_84 rfl ?_
      refine x_iadd dReader_one_85 ?_
      -- at 86: .invokevirtual 133
      rw [nI_1]
      refine x_callV_1 hc ok_Reader_one ml_Reader_133 dReader_one_86 (ble_of (by omega)) rfl rfl rfl rfl ?_
      refine ⟨T, i + 1, u, rfl, rfl, hP.nx hi1, fun I2 j C k1 k2 => ?_, fun I2 j k1 k2 => ?_⟩
      · refine x_if_eq (tgt := 105) dReader_one_89 (by decide) (fun h => absurd h (by decide)) (fun _ => ?_)
        refine x_aload_n dReader_one_92 rfl ?_
        refine x_bipush (v := 10) dReader_one_93 rfl ?_
        -- at 95: .invokevirtual 146
        refine x_callV_1 c_Reader_did ok_Reader_did ml_Reader_146 dReader_one_95 (ble_of (by omega)) rfl rfl rfl rfl ?_
        have k3 : PSok I u I2 j ([] ++ C) := ((PSok.nil hP.2.1 hP.2.2.1).nx (i + 1)).tr k1
        have hj1 := k2.1
        have hj2 := k2.2.1
        refine ⟨u + C.length, 10, rfl, rfl, k1.2.2.1, by omega, ?_⟩
        refine x_if_eq (tgt := 105) dReader_one_98 (by decide) (fun h => absurd h (by decide)) (fun _ => ?_)
        refine x_iconst (v := 1) dReader_one_101 rfl ?_
        refine x_goto (tgt := 106) dReader_one_102 (by decide) ?_
        -- at 106: .ireturn
        refine x_ireturn dReader_one_106 rfl rfl ?_
        exact h1 _ j _ (k3.stp rfl (20000 + 10)) (neg_ok hiT e45 q.1 k2)
      · refine x_if_eq (tgt := 105) dReader_one_89 (by decide) (fun _ => ?_) (fun h => absurd (by decide) h)
        exact no I2 j ⟨(PSf.rfl.nx _).tr k1.1, k1.2⟩ (neg_no hiT e45 q.1 k2)
    · refine x_if_eq (tgt := 105) dReader_one_79 (by decide) (fun _ => ?_) (fun h => absurd (by decide) h)
      exact no I i ⟨PSf.rfl, hP.2.1⟩ (neg_full hiT e45 (fun z => q ⟨z, e45⟩))
  · refine x_icmp_ne (tgt := 107) dReader_one_69 (by decide) (fun _ => ?_) (fun h => absurd h e45)
    have no : ∀ (I' : IM) (j : Nat), PSno I I' j → OneNo T op i j → X mReader_one G (d + 1, 0, 0) S1 I' L 141 [.ref 23, .int (nI op), .int (ts T i)] [] Post := by
      intro I' j k1 k2
      refine x_iconst (v := 0) dReader_one_141 rfl ?_
      -- at 142: .ireturn
      refine x_ireturn dReader_one_142 rfl rfl ?_
      exact h2 I' j k1 k2
    refine x_aload_n dReader_one_107 rfl ?_
    refine x_bipush (v := 40) dReader_one_108 rfl ?_
    refine x_iload_n dReader_one_110 rfl ?_
    -- at 111: .invokevirtual 143
    refine x_callV_2 c_Reader_opens ok_Reader_opens ml_Reader_143 dReader_one_111 (ble_of (by omega)) rfl rfl rfl rfl ?_
    refine ⟨T, i, u, op, 40, rfl, rfl, hop, hP, fun q => ?_, fun q => ?_⟩
    · refine x_if_eq (tgt := 141) dReader_one_114 (by decide) (fun h => absurd h (by decide)) (fun _ => ?_)
      obtain ⟨d2, hd2, hc⟩ := hp q.1
      have hi1 := hP.more (by rw [q.2]; decide)
      refine x_aload_n dReader_one_117 rfl ?_
      refine x_iconst (v := 0) dReader_one_118 rfl ?_
      refine x_iload_n dReader_one_119 rfl ?_
      refine x_iconst (v := 1) dReader_one_120 rfl ?_
      refine x_iadd dReader_one_121 ?_
      -- at 122: .invokevirtual 50
      rw [nI_1]
      refine x_callV_2 hc ok_Reader_level ml_Reader_50 dReader_one_122 (ble_of (by omega)) rfl rfl rfl rfl ?_
      refine ⟨T, i + 1, u, rfl, rfl, hP.nx hi1, fun I2 j C k1 k2 => ?_, fun I2 j k1 k2 => ?_⟩
      · refine x_if_eq (tgt := 141) dReader_one_125 (by decide) (fun h => absurd h (by decide)) (fun _ => ?_)
        refine x_aload_n dReader_one_128 rfl ?_
        refine x_bipush (v := 41) dReader_one_129 rfl ?_
        -- at 131: .invokevirtual 46
        have k3 : PSok I u I2 j ([] ++ C) := ((PSok.nil hP.2.1 hP.2.2.1).nx (i + 1)).tr k1
        have hj1 := k2.1
        have hj2 := k2.2.1
        have hPj : PS I2 T j (u + C.length) := PSok.ps (hP.nx hi1) k1 (by omega) hj2
        refine x_callV_1 c_Reader_passes ok_Reader_passes ml_Reader_46 dReader_one_131 (ble_of (by omega)) rfl rfl rfl rfl ?_
        refine ⟨T, j, u + C.length, 41, rfl, rfl, hPj, fun g => ?_, fun g => ?_⟩
        · have hj3 := hPj.more (by rw [g]; decide)
          refine x_if_eq (tgt := 141) dReader_one_134 (by decide) (fun h => absurd h (by decide)) (fun _ => ?_)
          refine x_iconst (v := 1) dReader_one_137 rfl ?_
          refine x_goto (tgt := 142) dReader_one_138 (by decide) ?_
          -- at 142: .ireturn
          refine x_ireturn dReader_one_142 rfl rfl ?_
          exact h1 _ (j + 1) _ (k3.nx (j + 1)) (par_ok hiT q.2 q.1 k2 g hj3)
        · refine x_if_eq (tgt := 141) dReader_one_134 (by decide) (fun _ => ?_) (fun h => absurd (by decide) h)
          exact no I2 j ⟨k3.1, k3.2.1⟩ (par_no hiT q.2 q.1 k2 g)
      · refine x_if_eq (tgt := 141) dReader_one_125 (by decide) (fun _ => ?_) (fun h => absurd (by decide) h)
        exact no I2 j ⟨(PSf.rfl.nx _).tr k1.1, k1.2⟩ (par_no2 hiT q.2 q.1 k2)
    · refine x_if_eq (tgt := 141) dReader_one_114 (by decide) (fun _ => ?_) (fun h => absurd (by decide) h)
      by_cases e40 : ts T i = 40
      · exact no I i ⟨PSf.rfl, hP.2.1⟩ (par_full hiT e40 (fun z => q ⟨z, e40⟩))
      · exact no I i ⟨PSf.rfl, hP.2.1⟩ (one_bad hiT e2 e3 e45 e40)
/-- all levels, so many open -/
theorem rec_all : ∀ k, k ≤ 5 → Con mReader_one (4 + 8 * k) 0 0 (sp_onen (5 - k)) ∧ Con mReader_negation (8 + 8 * k) 0 0 (sp_negn (5 - k)) ∧ Con mReader_level (11 + 8 * k) 0 0 (sp_lev 0 (5 - k)) := by
  intro k
  induction k with
  | zero =>
    intro _
    have h1 : Con mReader_one 4 0 0 (sp_onen 5) := c_onen (d := 3) (by omega) (by omega) (fun h => absurd h (by omega)) (fun h => absurd h (by omega))
    have h5 : Con mReader_level 5 0 0 (sp_lev 5 5) := c_lev_5 h1
    have h4 : Con mReader_level 6 0 0 (sp_lev 4 5) := c_lev_bin (by decide) (by omega) h5
    have h3 : Con mReader_level 7 0 0 (sp_lev 3 5) := c_lev_bin (by decide) (by omega) h4
    have hn : Con mReader_negation 8 0 0 (sp_negn 5) := c_negn (by omega) (by omega) h3 (fun h => absurd h (by omega))
    have h2 : Con mReader_level 9 0 0 (sp_lev 2 5) := c_lev_2 hn
    have h1' : Con mReader_level 10 0 0 (sp_lev 1 5) := c_lev_bin (by decide) (by omega) h2
    have h0 : Con mReader_level 11 0 0 (sp_lev 0 5) := c_lev_bin (by decide) (by omega) h1'
    exact ⟨h1, hn, h0⟩
  | succ k ih =>
    intro hk
    obtain ⟨i1, i2, i3⟩ := ih (by omega)
    have e : 5 - k = 5 - (k + 1) + 1 := by omega
    rw [e] at i1 i2 i3
    have hop : 5 - (k + 1) ≤ 5 := by omega
    generalize 5 - (k + 1) = op at i1 i2 i3 hop ⊢
    · have h1 : Con mReader_one (11 + 8 * k + 1) 0 0 (sp_onen op) := c_onen (d := 11 + 8 * k) hop (by omega) (fun _ => ⟨_, by omega, i1⟩) (fun _ => ⟨_, by omega, i3⟩)
      have h5 : Con mReader_level (11 + 8 * k + 1 + 1) 0 0 (sp_lev 5 op) := c_lev_5 h1
      have h4 : Con mReader_level (11 + 8 * k + 1 + 1 + 1) 0 0 (sp_lev 4 op) := c_lev_bin (by decide) (by omega) h5
      have h3 : Con mReader_level (11 + 8 * k + 1 + 1 + 1 + 1) 0 0 (sp_lev 3 op) := c_lev_bin (by decide) (by omega) h4
      have hn : Con mReader_negation (11 + 8 * k + 1 + 1 + 1 + 1 + 1) 0 0 (sp_negn op) := c_negn hop (by omega) h3 (fun _ => ⟨_, by omega, i2⟩)
      have h2 : Con mReader_level (11 + 8 * k + 1 + 1 + 1 + 1 + 1 + 1) 0 0 (sp_lev 2 op) := c_lev_2 hn
      have h1' : Con mReader_level (11 + 8 * k + 1 + 1 + 1 + 1 + 1 + 1 + 1) 0 0 (sp_lev 1 op) := c_lev_bin (by decide) (by omega) h2
      have h0 : Con mReader_level (11 + 8 * k + 1 + 1 + 1 + 1 + 1 + 1 + 1 + 1) 0 0 (sp_lev 0 op) := c_lev_bin (by decide) (by omega) h1'
      rw [show 4 + 8 * (k + 1) = 11 + 8 * k + 1 by omega, show 8 + 8 * (k + 1) = 11 + 8 * k + 1 + 1 + 1 + 1 + 1 by omega, show 11 + 8 * (k + 1) = 11 + 8 * k + 1 + 1 + 1 + 1 + 1 + 1 + 1 + 1 by omega]
      exact ⟨h1, hn, h0⟩
theorem c_E : Con mReader_level 51 0 0 (sp_lev 0 0) := (rec_all 5 (by omega)).2.2
end
section
-- 59.reads
/-! texts: a TEXT is read, by the class -/
abbrev rdScr : List Nat := [23, 25, 26, 27, 28, 29]
def sp_Reader_reads : SpT := fun as S I L Post => ∃ z : Nat, as = [.ref 23] ∧ S = S1 ∧ I 23 1 = nI z ∧ z ≤ 160 ∧
  (∀ (a b c : List Int32), pt (tokS (I 24) z 0) = .inr (a, b, c) → ∀ I' : IM, Fr rdScr I I' → I' 23 1 = I 23 1 → (I' 29 0 = nI 0 ∧ I' 29 1 = nI a.length ∧ I' 29 2 = nI (a.length + b.length) ∧ I' 29 3 = nI (a.length + b.length + c.length)) →
    (∀ k, k < a.length + b.length + c.length → enc (I' 28 k) = (a ++ b ++ c).getD k 0) → a.length + b.length + c.length ≤ 160 → wfC a → wfC b → wfC c → Post (some (.int 1)) S1 I' L) ∧
  (∀ p : Nat, pt (tokS (I 24) z 0) = .inl p → ∀ (I' : IM) (j : Nat), Fr rdScr I I' → I' 23 1 = I 23 1 → I' 23 6 = nI j → j < 161 → I' 26 j = nI p → Post (some (.int 0)) S1 I' L)
theorem ptE_at {T : List Tok} {i p : Nat} (hi : i < T.length) : ptE (nI p) (T.drop i) = if ts T i = nI p then sy (T.drop (i + 1)) true true [] [] else .inl (tp T i) := by
  rw [drop_tk hi]
  rfl
set_option maxHeartbeats 4000000 in
set_option maxRecDepth 100000 in
theorem c_Reader_reads : Con mReader_reads 81 0 0 sp_Reader_reads := by
  refine con_of_X rfl fun G as S I L Post hs => ?_
  obtain ⟨z, rfl, rfl, hz, hz2, h1, h2⟩ := hs
  refine ⟨1, Nat.le_of_ble_eq_true rfl, ?_⟩
  show X mReader_reads G _ S1 I L 0 [.ref 23, .null] [] Post
  obtain ⟨hTg, hTl⟩ := tokS_good (I 24) z z 0 (by omega)
  generalize hT : tokS (I 24) z 0 = T at h1 h2 hTg hTl
  refine x_aload_n dReader_reads_0 rfl ?_
  -- at 1: .invokevirtual 43
  refine x_callV_0 c_Reader_cut ok_Reader_cut ml_Reader_43 dReader_reads_1 rfl rfl rfl rfl rfl ?_
  refine ⟨z, rfl, rfl, hz, hz2, fun I1 hF1 hs1 hTi => ?_⟩
  rw [hT] at hTi
  refine x_aload_n dReader_reads_4 rfl ?_
  refine x_iconst (v := 0) dReader_reads_5 rfl ?_
  refine x_putI fl_Reader_31 rfl dReader_reads_6 (by decide) rfl rfl rfl rfl ?_
  refine x_aload_n dReader_reads_9 rfl ?_
  refine x_iconst (v := 0) dReader_reads_10 rfl ?_
  refine x_putI fl_Reader_40 rfl dReader_reads_11 (by decide) rfl rfl rfl rfl ?_
  refine x_iconst (v := 0) dReader_reads_14 rfl ?_
  refine x_istoren_1 dReader_reads_15 rfl rfl ?_
  -- at 16: .iload_n 1
  have part : ∀ (p i u : Nat) (I1 : IM), p < 3 → PS I1 T i u →
      (∀ (I2 : IM) (j : Nat) (C : List Int32), PSok (up2 I1 29 p (nI u)) u I2 (j + 1) C → j + 1 < T.length → wfC C → u + C.length ≤ j + 1 → ptE (nI (4 + p)) (T.drop i) = .inr (C, T.drop (j + 1)) → X mReader_reads G (81, 0, 0) S1 I2 L 16 [.ref 23, .int (nI (p + 1))] [] Post) →
      (∀ (I2 : IM) (j : Nat), PSno (up2 I1 29 p (nI u)) I2 j → j < T.length → ptE (nI (4 + p)) (T.drop i) = .inl (tp T j) → Post (some (.int 0)) S1 I2 L) →
      X mReader_reads G (81, 0, 0) S1 I1 L 16 [.ref 23, .int (nI p)] [] Post := by
    intro p i u I1 hp hP k1 k2
    have hiT := hP.2.2.2.2.1
    have hP2 : PS (up2 I1 29 p (nI u)) T i u := by
      obtain ⟨a1, a2, a3, a4, a5, a6, a7⟩ := hP
      refine ⟨?_, by rw [up2_n _ _ _ (by decide)]; exact a2, by rw [up2_n _ _ _ (by decide)]; exact a3, a4, a5, a6, a7⟩
      unfold Tin at a1 ⊢
      rw [up2_n _ _ _ (by decide), up2_n _ _ _ (by decide), up2_n _ _ _ (by decide)]
      exact a1
    have no : ∀ (I2 : IM) (j : Nat), PSno (up2 I1 29 p (nI u)) I2 j → j < T.length → ptE (nI (4 + p)) (T.drop i) = .inl (tp T j) → X mReader_reads G (81, 0, 0) S1 I2 L 59 [.ref 23, .int (nI p)] [] Post := by
      intro I2 j q1 q2 q3
      refine x_iconst (v := 0) dReader_reads_59 rfl ?_
      -- at 60: .ireturn
      refine x_ireturn dReader_reads_60 rfl rfl ?_
      exact k2 I2 j q1 q2 q3
    refine x_iload_n dReader_reads_16 rfl ?_
    refine x_iconst (v := 3) dReader_reads_17 rfl ?_
    -- at 18: .if_icmp .ge 49
    refine x_icmp_ge (tgt := 67) dReader_reads_18 (by decide) (fun h => absurd h (nI_ge (b := 3) hp (by omega))) (fun _ => ?_)
    refine x_aload_n dReader_reads_21 rfl ?_
    refine x_getR fl_Reader_37 rfl dReader_reads_22 rfl rfl rfl ?_
    refine x_iload_n dReader_reads_25 rfl ?_
    refine x_aload_n dReader_reads_26 rfl ?_
    refine x_getI fl_Reader_40 rfl dReader_reads_27 rfl rfl ?_
    -- at 30: .iastore
    rw [hP.2.2.1]
    refine x_iastJ (j := p) dReader_reads_30 rfl rfl (by first | rfl | (simp only [← nI_add, ← pk_mul]; rfl)) (by omega) ?_
    refine x_aload_n dReader_reads_31 rfl ?_
    refine x_iconst (v := 4) dReader_reads_32 rfl ?_
    refine x_iload_n dReader_reads_33 rfl ?_
    refine x_iadd dReader_reads_34 ?_
    -- at 35: .invokevirtual 46
    refine x_eqi (y := nI (4 + p)) (nI_add 4 p) ?_
    refine x_callV_1 c_Reader_passes ok_Reader_passes ml_Reader_46 dReader_reads_35 rfl rfl rfl rfl rfl ?_
    refine ⟨T, i, u, _, rfl, rfl, hP2, fun q => ?_, fun q => ?_⟩
    · have hi1 := hP2.more (by rw [q]; exact fun y => absurd ((nI_eq (b := 0) (by omega) (by omega)).mp y) (by omega))
      have e0 := ptE_at (p := 4 + p) hiT
      rw [if_pos q] at e0
      refine x_if_eq (tgt := 59) dReader_reads_38 (by decide) (fun h => absurd h (by decide)) (fun _ => ?_)
      refine x_aload_n dReader_reads_41 rfl ?_
      refine x_iconst (v := 0) dReader_reads_42 rfl ?_
      refine x_iconst (v := 0) dReader_reads_43 rfl ?_
      -- at 44: .invokevirtual 50
      refine x_callV_2 c_E ok_Reader_level ml_Reader_50 dReader_reads_44 rfl rfl rfl rfl rfl ?_
      refine ⟨T, i + 1, u, rfl, rfl, hP2.nx hi1, fun I2 j C q1 q2 => ?_, fun I2 j q1 q2 => ?_⟩
      · have hj1 := q2.1
        have hj2 := q2.2.1
        have hui := hP.2.2.2.1
        have hPj : PS I2 T j (u + C.length) := PSok.ps (hP2.nx hi1) q1 (by omega) hj2
        have q3 : PSok (up2 I1 29 p (nI u)) u I2 j ([] ++ C) := ((PSok.nil hP2.2.1 hP2.2.2.1).nx (i + 1)).tr q1
        rw [e_end q2] at e0
        refine x_if_eq (tgt := 59) dReader_reads_47 (by decide) (fun h => absurd h (by decide)) (fun _ => ?_)
        refine x_aload_n dReader_reads_50 rfl ?_
        refine x_bipush (v := 59) dReader_reads_51 rfl ?_
        -- at 53: .invokevirtual 46
        refine x_callV_1 c_Reader_passes ok_Reader_passes ml_Reader_46 dReader_reads_53 rfl rfl rfl rfl rfl ?_
        refine ⟨T, j, u + C.length, _, rfl, rfl, hPj, fun g => ?_, fun g => ?_⟩
        · have hj3 := hPj.more (by rw [g]; decide)
          rw [if_pos g] at e0
          refine x_if_ne (tgt := 61) dReader_reads_56 (by decide) (fun _ => ?_) (fun h => absurd h (by decide))
          refine x_iincp_1 dReader_reads_61 rfl rfl ?_
          refine x_goto (tgt := 16) dReader_reads_64 (by decide) ?_
          -- at 16: .iload_n 1
          rw [nI_1]
          exact k1 _ j C (q3.nx (j + 1)) hj3 q2.2.2.2.1 (by omega) e0
        · rw [if_neg g] at e0
          refine x_if_ne (tgt := 61) dReader_reads_56 (by decide) (fun h => absurd (by decide) h) (fun _ => ?_)
          exact no I2 j ⟨q3.1, q3.2.1⟩ hj2 e0
      · refine x_if_eq (tgt := 59) dReader_reads_47 (by decide) (fun _ => ?_) (fun h => absurd (by decide) h)
        have e1 := q2.2.2 [] [] rfl (by decide)
        rw [show decide (0 ≤ 2) = true from rfl] at e1
        rw [e1] at e0
        exact no I2 j ⟨(PSf.rfl.nx _).tr q1.1, q1.2⟩ q2.2.1 e0
    · have e0 := ptE_at (p := 4 + p) hiT
      rw [if_neg q] at e0
      refine x_if_eq (tgt := 59) dReader_reads_38 (by decide) (fun _ => ?_) (fun h => absurd (by decide) h)
      exact no _ i ⟨PSf.rfl, hP2.2.1⟩ hiT e0
  generalize hJ : up2 (up2 I1 23 6 0) 23 9 0 = J
  have hJ25 : ∀ k, k ≠ 23 → J k = I1 k := fun k hk => by rw [← hJ, up2_n _ _ _ hk, up2_n _ _ _ hk]
  have hPJ : PS J T 0 0 := by
    refine ⟨?_, by rw [← hJ, up2_s, up1_n _ _ (by decide), up2_s, up1_s]; rfl, by rw [← hJ, up2_s, up1_s]; rfl, Nat.le_refl _, hTg.1, hTg, by omega⟩
    unfold Tin at hTi ⊢
    rw [hJ25 25 (by decide), hJ25 26 (by decide), hJ25 27 (by decide)]
    exact hTi
  have hFJ : Fr rdScr I J ∧ J 23 1 = I 23 1 := by
    refine ⟨fun k hk => ?_, ?_⟩
    · simp only [List.mem_cons, List.not_mem_nil, or_false, not_or] at hk
      rw [hJ25 k hk.1]
      exact hF1 k (by simp [hk])
    · rw [← hJ, up2_s, up1_n _ _ (by decide), up2_s, up1_n _ _ (by decide)]
      exact hs1 1 (by decide)
  have lift : ∀ (Ia Ib : IM) (p : Nat) (x : Int32), Fr rdScr I Ia → Ia 23 1 = I 23 1 → PSf (up2 Ia 29 p x) Ib → Fr rdScr I Ib ∧ Ib 23 1 = I 23 1 := by
    intro Ia Ib p x f1 f2 f3
    refine ⟨(f1.up (by decide) _ _).tr (f3.1.wk (by decide)), ?_⟩
    rw [f3.2 1 (by decide) (by decide), up2_n _ _ _ (by decide)]
    exact f2
  have bad : ∀ (Ib : IM) (j p : Nat), Fr rdScr I Ib → Ib 23 1 = I 23 1 → Ib 23 6 = nI j → j < T.length → Tin Ib T → pt T = .inl (tp T j) → Post (some (.int 0)) S1 Ib L := by
    intro Ib j p f1 f2 f3 f4 f5 f6
    exact h2 _ f6 Ib j f1 f2 f3 (by omega) (f5 j f4).2.1
  have tin29 : ∀ (Ia : IM) (p : Nat) (x : Int32), Tin Ia T → Tin (up2 Ia 29 p x) T := by
    intro Ia p x f
    unfold Tin at f ⊢
    rw [up2_n _ _ _ (by decide), up2_n _ _ _ (by decide), up2_n _ _ _ (by decide)]
    exact f
  refine part 0 0 0 J (by omega) hPJ (fun I2 j1 a q1 q2 q3 q4 q5 => ?_) (fun I2 j q1 q2 q3 => ?_)
  · obtain ⟨l1, l2⟩ := lift J I2 0 _ hFJ.1 hFJ.2 q1.1
    rw [Nat.zero_add] at q4
    have hP2 : PS I2 T (j1 + 1) a.length := ⟨q1.1.tin (tin29 _ _ _ hPJ.1), q1.2.1, by rw [q1.2.2.1, Nat.zero_add], q4, q2, hTg, by omega⟩
    refine part 1 (j1 + 1) a.length I2 (by omega) hP2 (fun I3 j2 b r1 r2 r3 r4 r5 => ?_) (fun I3 j r1 r2 r3 => ?_)
    · obtain ⟨m1, m2⟩ := lift I2 I3 1 _ l1 l2 r1.1
      have hP3 : PS I3 T (j2 + 1) (a.length + b.length) := ⟨r1.1.tin (tin29 _ _ _ hP2.1), r1.2.1, r1.2.2.1, r4, r2, hTg, by omega⟩
      refine part 2 (j2 + 1) (a.length + b.length) I3 (by omega) hP3 (fun I4 j3 c s1 s2 s3 s4 s5 => ?_) (fun I4 j s1 s2 s3 => ?_)
      · obtain ⟨n1, n2⟩ := lift I3 I4 2 _ m1 m2 s1.1
        have hT4 : Tin I4 T := s1.1.tin (tin29 _ _ _ hP3.1)
        have ept : pt T = if ts T (j3 + 1) = 0 then .inr (a, b, c) else .inl (tp T (j3 + 1)) := by
          unfold pt
          rw [show ptE 4 T = .inr (a, T.drop (j1 + 1)) from q5]
          dsimp only
          rw [show ptE 5 (T.drop (j1 + 1)) = .inr (b, T.drop (j2 + 1)) from r5]
          dsimp only
          rw [show ptE 6 (T.drop (j2 + 1)) = .inr (c, T.drop (j3 + 1)) from s5]
          dsimp only
          rw [drop_tk s2]
          rfl
        refine x_iload_n dReader_reads_16 rfl ?_
        refine x_iconst (v := 3) dReader_reads_17 rfl ?_
        -- at 18: .if_icmp .ge 49
        refine x_icmp_ge (tgt := 67) dReader_reads_18 (by decide) (fun _ => ?_) (fun h => absurd (Int32.le_refl _) h)
        refine x_aload_n dReader_reads_67 rfl ?_
        refine x_getR fl_Reader_37 rfl dReader_reads_68 rfl rfl rfl ?_
        refine x_iconst (v := 3) dReader_reads_71 rfl ?_
        refine x_aload_n dReader_reads_72 rfl ?_
        refine x_getI fl_Reader_40 rfl dReader_reads_73 rfl rfl ?_
        -- at 76: .iastore
        rw [s1.2.2.1]
        refine x_iastJ (j := 3) dReader_reads_76 rfl rfl (by first | rfl | (simp only [← nI_add, ← pk_mul]; rfl)) (by omega) ?_
        refine x_aload_n dReader_reads_77 rfl ?_
        refine x_getR fl_Reader_19 rfl dReader_reads_78 rfl rfl rfl ?_
        refine x_aload_n dReader_reads_81 rfl ?_
        refine x_getI fl_Reader_31 rfl dReader_reads_82 rfl rfl ?_
        -- at 85: .iaload
        simp only [up2_n, up2_s, ne_eq, Nat.reduceEqDiff, not_false_eq_true, s1.2.1]
        refine x_ialdJ (j := j3 + 1) dReader_reads_85 rfl rfl (by first | rfl | (simp only [← nI_add, ← pk_mul]; rfl)) (by omega) ?_
        -- at 86: .ifCond .ne 7
        simp only [up2_n, up2_s, ne_eq, Nat.reduceEqDiff, not_false_eq_true]
        rw [(hT4 (j3 + 1) s2).1]
        have n3 : Fr rdScr I (up2 I4 29 3 (nI (a.length + b.length + c.length))) := n1.up (by decide) _ _
        have n4 : up2 I4 29 3 (nI (a.length + b.length + c.length)) 23 1 = I 23 1 := by rw [up2_n _ _ _ (by decide)]; exact n2
        by_cases e0 : ts T (j3 + 1) = 0
        · rw [if_pos e0] at ept
          refine x_if_ne (tgt := 93) dReader_reads_86 (by decide) (fun h => absurd e0 h) (fun _ => ?_)
          refine x_iconst (v := 1) dReader_reads_89 rfl ?_
          refine x_goto (tgt := 94) dReader_reads_90 (by decide) ?_
          -- at 94: .ireturn
          refine x_ireturn dReader_reads_94 rfl rfl ?_
          refine h1 a b c ept _ n3 n4 ⟨?_, ?_, ?_, by rw [up2_s, up1_s]⟩ (fun k hk => ?_) (by omega) q3 r3 s3
          · rw [up2_s, up1_n _ _ (by decide), s1.1.1 29 (by decide), up2_s, up1_n _ _ (by decide), r1.1.1 29 (by decide), up2_s, up1_n _ _ (by decide), q1.1.1 29 (by decide), up2_s, up1_s]
          · rw [up2_s, up1_n _ _ (by decide), s1.1.1 29 (by decide), up2_s, up1_n _ _ (by decide), r1.1.1 29 (by decide), up2_s, up1_s]
          · rw [up2_s, up1_n _ _ (by decide), s1.1.1 29 (by decide), up2_s, up1_s]
          · rw [up2_n _ _ _ (by decide)]
            by_cases z1 : k < a.length
            · rw [s1.2.2.2.1 k (by omega), up2_n _ _ _ (by decide), r1.2.2.2.1 k z1, up2_n _ _ _ (by decide)]
              have := q1.2.2.2.2 k z1
              rw [Nat.zero_add] at this
              rw [this]
              simp [List.getD_eq_getElem?_getD, List.getElem?_append_left z1]
            · by_cases z2 : k < a.length + b.length
              · rw [s1.2.2.2.1 k z2, up2_n _ _ _ (by decide)]
                have := r1.2.2.2.2 (k - a.length) (by omega)
                rw [show a.length + (k - a.length) = k by omega] at this
                rw [this]
                simp [List.getD_eq_getElem?_getD, List.getElem?_append_right (show a.length ≤ k by omega), List.getElem?_append_left (show k - a.length < b.length by omega)]
              · have := s1.2.2.2.2 (k - (a.length + b.length)) (by omega)
                rw [show a.length + b.length + (k - (a.length + b.length)) = k by omega] at this
                rw [this]
                simp [List.getD_eq_getElem?_getD, List.getElem?_append_right (show a.length ≤ k by omega), List.getElem?_append_right (show b.length ≤ k - a.length by omega), Nat.sub_add_eq]
        · rw [if_neg e0] at ept
          refine x_if_ne (tgt := 93) dReader_reads_86 (by decide) (fun _ => ?_) (fun h => absurd h e0)
          refine x_iconst (v := 0) dReader_reads_93 rfl ?_
          -- at 94: .ireturn
          refine x_ireturn dReader_reads_94 rfl rfl ?_
          exact bad _ (j3 + 1) 0 n3 n4 (by rw [up2_n _ _ _ (by decide)]; exact s1.2.1) s2 (tin29 _ _ _ hT4) ept
      · obtain ⟨n1, n2⟩ := lift I3 I4 2 _ m1 m2 s1.1
        refine bad I4 j 0 n1 n2 s1.2 s2 (s1.1.tin (tin29 _ _ _ hP3.1)) ?_
        unfold pt
        rw [show ptE 4 T = .inr (a, T.drop (j1 + 1)) from q5]
        dsimp only
        rw [show ptE 5 (T.drop (j1 + 1)) = .inr (b, T.drop (j2 + 1)) from r5]
        dsimp only
        rw [show ptE 6 (T.drop (j2 + 1)) = .inl (tp T j) from s3]
    · obtain ⟨n1, n2⟩ := lift I2 I3 1 _ l1 l2 r1.1
      refine bad I3 j 0 n1 n2 r1.2 r2 (r1.1.tin (tin29 _ _ _ hP2.1)) ?_
      unfold pt
      rw [show ptE 4 T = .inr (a, T.drop (j1 + 1)) from q5]
      dsimp only
      rw [show ptE 5 (T.drop (j1 + 1)) = .inl (tp T j) from r3]
  · obtain ⟨n1, n2⟩ := lift J I2 0 _ hFJ.1 hFJ.2 q1.1
    refine bad I2 j 0 n1 n2 q1.2 q2 (q1.1.tin (tin29 _ _ _ hPJ.1)) ?_
    unfold pt
    rw [show ptE 4 T = .inl (tp T j) from q3]
def sp_Reader_put : SpT := fun as S I L Post => ∃ (z : Nat) (b : Int32), as = [.ref 23, .int b] ∧ S = S1 ∧ I 23 1 = nI z ∧ z < 160 ∧ Post none S1 (up2 (up2 I 24 z b) 23 1 (nI (z + 1))) L
set_option maxHeartbeats 4000000 in
set_option maxRecDepth 100000 in
theorem c_Reader_put : Con mReader_put 2 0 0 sp_Reader_put := by
  refine con_of_X rfl fun G as S I L Post hs => ?_
  obtain ⟨z, b, rfl, rfl, hz, h160, h1⟩ := hs
  refine ⟨0, Nat.le_of_ble_eq_true rfl, ?_⟩
  show X mReader_put G _ S1 I L 0 [.ref 23, .int b] [] Post
  refine x_aload_n dReader_put_0 rfl ?_
  refine x_getI fl_Reader_15 rfl dReader_put_1 rfl rfl ?_
  refine x_sipush (v := 160) dReader_put_4 rfl ?_
  -- at 7: .if_icmp .ge 23
  rw [hz]
  refine x_icmp_ge (tgt := 30) dReader_put_7 (by decide) (fun h => absurd h (nI_ge (b := 160) h160 (by omega))) (fun _ => ?_)
  refine x_aload_n dReader_put_10 rfl ?_
  refine x_getR fl_Reader_9 rfl dReader_put_11 rfl rfl rfl ?_
  refine x_aload_n dReader_put_14 rfl ?_
  refine x_getI fl_Reader_15 rfl dReader_put_15 rfl rfl ?_
  -- at 18: .iload_n 1
  rw [hz]
  refine x_iload_n dReader_put_18 rfl ?_
  refine x_iastJ (j := z) dReader_put_19 rfl rfl (by first | rfl | (simp only [← nI_add, ← pk_mul]; rfl)) (by omega) ?_
  refine x_aload_n dReader_put_20 rfl ?_
  refine x_dup dReader_put_21 rfl ?_
  refine x_getI fl_Reader_15 rfl dReader_put_22 rfl rfl ?_
  -- at 25: .iconst 1
  simp only [up2_n, up2_s, ne_eq, Nat.reduceEqDiff, not_false_eq_true, hz]
  refine x_iconst (v := 1) dReader_put_25 rfl ?_
  refine x_iadd dReader_put_26 ?_
  -- at 27: .putfield 15
  rw [nI_1]
  refine x_putI fl_Reader_15 rfl dReader_put_27 (by decide) rfl rfl rfl rfl ?_
  -- at 30: .return_
  refine x_return dReader_put_30 rfl ?_
  exact h1
def sp_Reader_clear : SpT := fun as S I L Post => as = [.ref 23] ∧ S = S1 ∧ Post none S1 (up2 I 23 1 0) L
set_option maxHeartbeats 4000000 in
set_option maxRecDepth 100000 in
theorem c_Reader_clear : Con mReader_clear 2 0 0 sp_Reader_clear := by
  refine con_of_X rfl fun G as S I L Post hs => ?_
  obtain ⟨rfl, rfl, h1⟩ := hs
  refine ⟨0, Nat.le_of_ble_eq_true rfl, ?_⟩
  show X mReader_clear G _ S1 I L 0 [.ref 23] [] Post
  refine x_aload_n dReader_clear_0 rfl ?_
  refine x_iconst (v := 0) dReader_clear_1 rfl ?_
  refine x_putI fl_Reader_15 rfl dReader_clear_2 (by decide) rfl rfl rfl rfl ?_
  -- at 5: .return_
  refine x_return dReader_clear_5 rfl ?_
  exact h1
def sp_Reader_fault : SpT := fun as S I L Post => ∃ j : Nat, as = [.ref 23] ∧ S = S1 ∧ I 23 6 = nI j ∧ j < 161 ∧ Post (some (.int (I 26 j))) S1 I L
set_option maxHeartbeats 4000000 in
set_option maxRecDepth 100000 in
theorem c_Reader_fault : Con mReader_fault 2 0 0 sp_Reader_fault := by
  refine con_of_X rfl fun G as S I L Post hs => ?_
  obtain ⟨j, rfl, rfl, hj, h161, h1⟩ := hs
  refine ⟨0, Nat.le_of_ble_eq_true rfl, ?_⟩
  show X mReader_fault G _ S1 I L 0 [.ref 23] [] Post
  refine x_aload_n dReader_fault_0 rfl ?_
  refine x_getR fl_Reader_22 rfl dReader_fault_1 rfl rfl rfl ?_
  refine x_aload_n dReader_fault_4 rfl ?_
  refine x_getI fl_Reader_31 rfl dReader_fault_5 rfl rfl ?_
  -- at 8: .iaload
  rw [hj]
  refine x_ialdJ (j := j) dReader_fault_8 rfl rfl (by first | rfl | (simp only [← nI_add, ← pk_mul]; rfl)) (by omega) ?_
  -- at 9: .ireturn
  refine x_ireturn dReader_fault_9 rfl rfl ?_
  exact h1
def taU (I : IM) (t : Nat) : IM := up2 (upr (upr I 31 (va_cpy (I 28) (I 31) 0 (t * 160) 160)) 32 (va_cpy (I 29) (I 32) 0 (t * 4) 4)) 30 2 (nI t + 1)
def sp_Texts_add : SpT := fun as S I L Post => ∃ t : Nat, as = [.ref 30, .ref 23] ∧ S = S1 ∧ I 30 2 = nI t ∧ t < 6 ∧ Post (some (.int (nI t))) S1 (taU I t) L
set_option maxHeartbeats 4000000 in
set_option maxRecDepth 100000 in
theorem c_Texts_add : Con mTexts_add 2 0 0 sp_Texts_add := by
  refine con_of_X rfl fun G as S I L Post hs => ?_
  obtain ⟨t, rfl, rfl, ht, h6, h1⟩ := hs
  have nn : ∀ k, k < 1000 → ¬ nI k < (0 : Int32) := fun k hk => Int32.not_lt.mpr (nI_le (a := 0) (by omega) (by omega))
  have c160 : (nI (t * 160)).toNatClampNeg = t * 160 := nI_clamp (by omega)
  have c4 : (nI (t * 4)).toNatClampNeg = t * 4 := nI_clamp (by omega)
  refine ⟨1, Nat.le_of_ble_eq_true rfl, ?_⟩
  show X mTexts_add G _ S1 I L 0 [.ref 30, .ref 23, .null] [] Post
  refine x_aload_n dTexts_add_0 rfl ?_
  refine x_getI fl_Texts_18 rfl dTexts_add_1 rfl rfl ?_
  -- at 4: .istore_n 2
  rw [ht]
  refine x_istoren_2 dTexts_add_4 rfl rfl ?_
  refine x_aload_n dTexts_add_5 rfl ?_
  refine x_getR fl_Texts_31 rfl dTexts_add_6 rfl rfl rfl ?_
  refine x_iconst (v := 0) dTexts_add_9 rfl ?_
  refine x_aload_n dTexts_add_10 rfl ?_
  refine x_getR fl_Texts_9 rfl dTexts_add_11 rfl rfl rfl ?_
  refine x_iload_n dTexts_add_14 rfl ?_
  refine x_sipush (v := 160) dTexts_add_15 rfl ?_
  refine x_imul dTexts_add_18 ?_
  -- at 19: .sipush 160
  rw [show nI t * 160 = nI (t * 160) from pk_mul t 160]
  refine x_sipush (v := 160) dTexts_add_19 rfl ?_
  -- at 22: .invokestatic 34
  refine x_acopy dTexts_add_22 ml_Texts_34 na_ac st_ac it_System rfl rfl rfl rfl rfl rfl (by decide) (nn _ (by omega)) (by decide) (by decide) (by rw [c160]; show t * 160 + 160 ≤ 960; omega) ?_
  refine x_aload_n dTexts_add_25 rfl ?_
  refine x_getR fl_Texts_40 rfl dTexts_add_26 rfl rfl rfl ?_
  refine x_iconst (v := 0) dTexts_add_29 rfl ?_
  refine x_aload_n dTexts_add_30 rfl ?_
  refine x_getR fl_Texts_15 rfl dTexts_add_31 rfl rfl rfl ?_
  refine x_iload_n dTexts_add_34 rfl ?_
  refine x_iconst (v := 4) dTexts_add_35 rfl ?_
  refine x_imul dTexts_add_36 ?_
  -- at 37: .iconst 4
  rw [show nI t * 4 = nI (t * 4) from pk_mul t 4]
  refine x_iconst (v := 4) dTexts_add_37 rfl ?_
  -- at 38: .invokestatic 34
  refine x_acopy dTexts_add_38 ml_Texts_34 na_ac st_ac it_System rfl rfl rfl rfl rfl rfl (by decide) (nn _ (by omega)) (by decide) (by decide) (by rw [c4]; show t * 4 + 4 ≤ 24; omega) ?_
  simp only [up2_n, up2_s, ne_eq, Nat.reduceEqDiff, not_false_eq_true, upr_n, c160, c4]
  refine x_aload_n dTexts_add_41 rfl ?_
  refine x_iload_n dTexts_add_42 rfl ?_
  refine x_iconst (v := 1) dTexts_add_43 rfl ?_
  refine x_iadd dTexts_add_44 ?_
  refine x_putI fl_Texts_18 rfl dTexts_add_45 (by decide) rfl rfl rfl rfl ?_
  refine x_iload_n dTexts_add_48 rfl ?_
  -- at 49: .ireturn
  refine x_ireturn dTexts_add_49 rfl rfl ?_
  exact h1
end
section
-- 60.text
/-! the class's calls: feed, text -/
def clr (E : IM) : IM := upr (up2 E 29 6 0) 18 (fun _ => 0)
def txA (a b c : List Int32) (r : Nat) : Int32 := match r with
  | 0 => nI 0 | 1 => nI a.length | 2 => nI (a.length + b.length) | _ => nI (a.length + b.length + c.length)
def addT (E : IM) (t : Nat) (a b c : List Int32) : IM := up2 (upr (upr E 30 (fun j => if j / 4 = t then txA a b c (j % 4) else E 30 j)) 31 (fun j => if j / 200 = t ∧ j % 200 < a.length + b.length + c.length then (a ++ b ++ c).getD (j % 200) 0 else E 31 j)) 29 4 (nI t + 1)
def txR (E : IM) : Nat ⊕ (List Int32 × List Int32 × List Int32) := pt (tokS (E 18) (zN E) 0)
def txAns (E : IM) (r : Nat ⊕ (List Int32 × List Int32 × List Int32)) : Int32 := match r with
  | .inl p => -100 - nI p
  | .inr _ => E 29 4
def txUpd (E : IM) (r : Nat ⊕ (List Int32 × List Int32 × List Int32)) : IM := match r with
  | .inl _ => clr E
  | .inr (a, b, c) => addT (clr E) (tN E) a b c
def textS (E : IM) : Int32 := if ¬ E 29 4 < 6 then -4 else txAns E (txR E)
def textU (E : IM) : IM := if ¬ E 29 4 < 6 then E else txUpd E (txR E)
theorem letE_congr {f g : Nat → Int32} {z : Nat} (h : ∀ i, i < z → f i = g i) : ∀ k a, letE f z k a = letE g z k a := by
  intro k
  induction k with
  | zero => intro a; rfl
  | succ j ih =>
    intro a
    rw [letE, letE, ih]
    by_cases ha : a < z
    · rw [h a ha]
    · rw [if_neg (fun z => ha z.1), if_neg (fun z => ha z.1)]
theorem digE_congr {f g : Nat → Int32} {z : Nat} (h : ∀ i, i < z → f i = g i) : ∀ k a, digE f z k a = digE g z k a := by
  intro k
  induction k with
  | zero => intro a; rfl
  | succ j ih =>
    intro a
    rw [digE, digE, ih]
    by_cases ha : a < z
    · rw [h a ha]
    · rw [if_neg (fun z => ha z.1), if_neg (fun z => ha z.1)]
theorem numV_congr {f g : Nat → Int32} {a : Nat} : ∀ k, (∀ i, i < k → f (a + i) = g (a + i)) → numV f k a = numV g k a := by
  intro k
  induction k with
  | zero => intro _; rfl
  | succ j ih =>
    intro h
    rw [numV, numV, ih (fun i hi => h i (by omega)), h j (by omega)]
theorem tokAt_congr {f g : Nat → Int32} {z a : Nat} (h : ∀ i, i < z → f i = g i) (ha : a < z) : tokAt f z a = tokAt g z a := by
  have hw : ∀ e, e ≤ z → wordAt f a e = wordAt g a e := fun e he => by
    unfold wordAt
    refine List.map_congr_left fun i hi => h _ ?_
    have := List.mem_range.mp hi
    omega
  unfold tokAt
  rw [letE_congr h, digE_congr h, h a ha, hw _ ((letE_ge g z (z - a) a).2 (by omega))]
  rw [numV_congr (f := f) (g := g) (digE g z (z - a) a - a) (fun i hi => h _ (by have := (digE_ge g z (z - a) a).2 (by omega); omega))]
theorem toks_congr {f g : Nat → Int32} {z : Nat} (h : ∀ i, i < z → f i = g i) : ∀ k a, toks f z k a = toks g z k a := by
  intro k
  induction k with
  | zero => intro a; rfl
  | succ j ih =>
    intro a
    rw [toks, toks]
    by_cases ha : a < z
    · rw [if_pos ha, if_pos ha, tokAt_congr h ha, h a ha, ih, ih]
    · rw [if_neg ha, if_neg ha]
theorem tokS_congr {f g : Nat → Int32} {z : Nat} (h : ∀ i, i < z → f i = g i) (a : Nat) : tokS f z a = tokS g z a := toks_congr h _ _
theorem cE_clr (I : IM) : cE (up2 I 23 1 0) = clr (cE I) := by
  unfold clr
  rw [cE_n6]
  congr 1
theorem txR_eq (I : IM) : txR (cE I) = pt (tokS (I 24) (zN (cE I)) 0) := by
  unfold txR
  congr 1
  exact tokS_congr (fun i hi => mk_lt hi) 0
theorem cE_r23 (I : IM) (f : Nat → Int32) (h : f 1 = I 23 1) : cE (upr I 23 f) = cE I := by
  funext a
  by_cases h29 : a = 29
  · subst h29
    have e29 : ∀ I' : IM, cE I' 29 = cSc I' := fun _ => rfl
    rw [e29, e29]
    funext j
    unfold cSc
    split <;> first | rfl | (simp [upr_n, upr_s, h])
  · unfold cE
    split <;> first | rfl | (exfalso; omega) | (simp [upr_n, upr_s, h])
/-- only what the class reads texts in has changed -/
theorem cE_rd {I I' : IM} (hF : Fr rdScr I I') (h1 : I' 23 1 = I 23 1) : cE I' = cE I := by
  rw [← cE_r23 I (I' 23) h1]
  refine cE_fr (fun k hk => ?_)
  by_cases z : k = 23
  · subst z; rw [upr_s]
  · rw [upr_n _ _ z]
    refine hF k (fun q => ?_)
    simp only [List.mem_cons, List.not_mem_nil, or_false] at q hk
    omega
theorem cE_taU (I : IM) (t : Nat) (a b c : List Int32) (ht : I 30 2 = nI t) (h6 : t < 6) (hs : I 29 0 = nI 0 ∧ I 29 1 = nI a.length ∧ I 29 2 = nI (a.length + b.length) ∧ I 29 3 = nI (a.length + b.length + c.length))
    (hc : ∀ k, k < a.length + b.length + c.length → enc (I 28 k) = (a ++ b ++ c).getD k 0) (hn : a.length + b.length + c.length ≤ 160) (hold : ∀ q, q < t → cl (I 32 (4 * q + 3)) ≤ 160) : cE (taU I t) = addT (cE I) t a b c := by
  have et : cl (I 30 2) = t := by rw [show I 30 2 = nI t from ht, cl_nI (by omega)]
  generalize hJ : taU I t = J
  have ho : ∀ k, k ∉ [30, 31, 32] → J k = I k := by
    intro k hk
    simp only [List.mem_cons, List.not_mem_nil, or_false, not_or] at hk
    subst hJ
    unfold taU
    rw [up2_n _ _ _ (by omega), upr_n _ _ (by omega), upr_n _ _ (by omega)]
  have e31 : J 31 = va_cpy (I 28) (I 31) 0 (t * 160) 160 := by subst hJ; unfold taU; simp only [up2_n, up2_s, ne_eq, Nat.reduceEqDiff, not_false_eq_true, upr_n, upr_s]
  have e32 : J 32 = va_cpy (I 29) (I 32) 0 (t * 4) 4 := by subst hJ; unfold taU; simp only [up2_n, up2_s, ne_eq, Nat.reduceEqDiff, not_false_eq_true, upr_n, upr_s]
  have e302 : J 30 2 = nI (t + 1) := by subst hJ; unfold taU; rw [up2_s, up1_s, nI_1]
  have e303 : J 30 3 = I 30 3 := by subst hJ; unfold taU; rw [up2_s, up1_n _ _ (by decide)]; simp only [up2_n, up2_s, ne_eq, Nat.reduceEqDiff, not_false_eq_true, upr_n]
  have ej : cl (J 30 2) = t + 1 := by rw [e302, cl_nI (by omega)]
  have x30 : mk (4 * cl (J 30 2)) (J 32) = fun j => if j / 4 = t then txA a b c (j % 4) else mk (4 * cl (I 30 2)) (I 32) j := by
    rw [ej, et, e32]
    funext j
    by_cases hj : j / 4 = t
    · rw [if_pos hj, mk_lt (by omega), pk_cpy_in (by omega) (by omega)]
      obtain ⟨s0, s1, s2, s3⟩ := hs
      have hr : j % 4 < 4 := Nat.mod_lt _ (by omega)
      rw [show 0 + (j - t * 4) = j % 4 by omega]
      rcases (show j % 4 = 0 ∨ j % 4 = 1 ∨ j % 4 = 2 ∨ j % 4 = 3 by omega) with z | z | z | z
      · rw [z, s0]; rfl
      · rw [z, s1]; rfl
      · rw [z, s2]; rfl
      · rw [z, s3]; rfl
    · rw [if_neg hj]
      by_cases h2 : j < 4 * t
      · rw [mk_lt (by omega), mk_lt h2, pk_cpy_out (Or.inl (by omega))]
      · unfold mk
        rw [if_neg (by omega), if_neg h2]
  have x31 : (fun j => if j / 200 < cl (J 30 2) ∧ j % 200 < cl (J 32 (4 * (j / 200) + 3)) then enc (J 31 (160 * (j / 200) + j % 200)) else 0) = fun j => if j / 200 = t ∧ j % 200 < a.length + b.length + c.length then (a ++ b ++ c).getD (j % 200) 0 else if j / 200 < cl (I 30 2) ∧ j % 200 < cl (I 32 (4 * (j / 200) + 3)) then enc (I 31 (160 * (j / 200) + j % 200)) else 0 := by
    rw [ej, et, e32, e31]
    funext j
    by_cases hj : j / 200 = t
    · have e3 : va_cpy (I 29) (I 32) 0 (t * 4) 4 (4 * (j / 200) + 3) = nI (a.length + b.length + c.length) := by
        rw [pk_cpy_in (by omega) (by omega), ← hs.2.2.2]
        congr 1
        omega
      rw [e3, cl_nI (by omega)]
      by_cases h2 : j % 200 < a.length + b.length + c.length
      · rw [if_pos ⟨by omega, h2⟩, if_pos ⟨hj, h2⟩, pk_cpy_in (by omega) (by omega), ← hc _ h2]
        congr 2
        omega
      · rw [if_neg (fun z => h2 z.2), if_neg (fun z => h2 z.2), if_neg (fun z => by omega)]
    · rw [if_neg (c := j / 200 = t ∧ j % 200 < a.length + b.length + c.length) (fun z => hj z.1)]
      by_cases h2 : j / 200 < t
      · have e3 : va_cpy (I 29) (I 32) 0 (t * 4) 4 (4 * (j / 200) + 3) = I 32 (4 * (j / 200) + 3) := pk_cpy_out (Or.inl (by omega))
        rw [e3]
        by_cases h3 : j % 200 < cl (I 32 (4 * (j / 200) + 3))
        · have := hold _ h2
          rw [if_pos ⟨by omega, h3⟩, if_pos ⟨h2, h3⟩, pk_cpy_out (Or.inl (by omega))]
        · rw [if_neg (fun z => h3 z.2), if_neg (fun z => h3 z.2)]
      · rw [if_neg (fun z => by omega), if_neg (fun z => h2 z.1)]
  unfold addT
  funext a
  match a with
  | 0 => exact ho 2 (by decide)
  | 1 => exact ho 3 (by decide)
  | 2 => exact ho 5 (by decide)
  | 3 => exact ho 6 (by decide)
  | 4 => exact ho 7 (by decide)
  | 5 => exact ho 8 (by decide)
  | 6 => exact ho 9 (by decide)
  | 7 => exact ho 10 (by decide)
  | 8 => exact ho 11 (by decide)
  | 9 => show mk (cl (J 4 8)) (J 12) = mk (cl (I 4 8)) (I 12); rw [ho 4 (by decide), ho 12 (by decide)]
  | 10 => exact ho 14 (by decide)
  | 11 => exact ho 15 (by decide)
  | 12 => exact ho 16 (by decide)
  | 13 => exact ho 17 (by decide)
  | 14 => show mk (cl (J 18 4)) (J 19) = mk (cl (I 18 4)) (I 19); rw [ho 18 (by decide), ho 19 (by decide)]
  | 15 => show mk (cl (J 18 4)) (J 20) = mk (cl (I 18 4)) (I 20); rw [ho 18 (by decide), ho 20 (by decide)]
  | 16 => show mk (cl (J 18 4)) (J 21) = mk (cl (I 18 4)) (I 21); rw [ho 18 (by decide), ho 21 (by decide)]
  | 17 => show mk (cl (J 18 4)) (J 22) = mk (cl (I 18 4)) (I 22); rw [ho 18 (by decide), ho 22 (by decide)]
  | 18 => show mk (cl (J 23 1)) (J 24) = mk (cl (I 23 1)) (I 24); rw [ho 23 (by decide), ho 24 (by decide)]
  | 19 => exact ho 47 (by decide)
  | 20 => exact ho 48 (by decide)
  | 21 => show mk (cl (J 45 3)) (J 54) = mk (cl (I 45 3)) (I 54); rw [ho 45 (by decide), ho 54 (by decide)]
  | 22 => show mk (cl (J 49 4)) (J 50) = mk (cl (I 49 4)) (I 50); rw [ho 49 (by decide), ho 50 (by decide)]
  | 23 => show mk (cl (J 49 4)) (J 51) = mk (cl (I 49 4)) (I 51); rw [ho 49 (by decide), ho 51 (by decide)]
  | 24 => show mk (cl (J 49 4)) (J 52) = mk (cl (I 49 4)) (I 52); rw [ho 49 (by decide), ho 52 (by decide)]
  | 25 => show mk (cl (J 49 4)) (J 53) = mk (cl (I 49 4)) (I 53); rw [ho 49 (by decide), ho 53 (by decide)]
  | 26 => exact ho 56 (by decide)
  | 27 => exact ho 57 (by decide)
  | 28 => exact ho 58 (by decide)
  | 29 =>
    funext j
    match j with
    | 0 => exact congrFun (ho 1 (by decide)) 2
    | 1 => exact congrFun (ho 4 (by decide)) 8
    | 2 => exact congrFun (ho 13 (by decide)) 4
    | 3 => exact congrFun (ho 18 (by decide)) 4
    | 4 => exact e302.trans (nI_1 t).symm
    | 5 => exact e303
    | 6 => exact congrFun (ho 23 (by decide)) 1
    | 7 => exact congrFun (ho 45 (by decide)) 5
    | 8 => exact congrFun (ho 46 (by decide)) 2
    | 9 => exact congrFun (ho 45 (by decide)) 3
    | 10 => exact congrFun (ho 49 (by decide)) 4
    | 11 => exact congrFun (ho 45 (by decide)) 4
    | n + 12 => exact rfl
  | 30 => exact x30
  | 31 => exact x31
  | n + 32 => rfl
theorem Inv_clr {E : IM} (h : Inv E) : Inv (clr E) := by
  have r : ∀ a, a ≠ 29 → a ≠ 18 → clr E a = E a := fun a h1 h2 => by unfold clr; rw [upr_n _ _ h2, up2_n _ _ _ h1]
  have q : ∀ j, j ≠ 6 → clr E 29 j = E 29 j := fun j hj => by unfold clr; rw [upr_n _ _ (by decide), up2_s, up1_n _ _ hj]
  have q6 : clr E 29 6 = 0 := by unfold clr; rw [upr_n _ _ (by decide), up2_s, up1_s]
  refine Inv.mk' (h.a.to (q _ (by omega)) (fun a _ _ => r a (by omega) (by omega))) (h.b.to (q _ (by omega)) (fun a _ _ => r a (by omega) (by omega))) (h.c.to (q _ (by omega)) (q _ (by omega)) (fun a _ _ => r a (by omega) (by omega))) (h.d.to (q _ (by omega)) (r _ (by omega) (by omega)) (r _ (by omega) (by omega))) (h.f.to (q _ (by omega)) (q _ (by omega))) ?_ (h.h.to (fun j _ => q j (by omega)) (q _ (by omega)) (q _ (by omega)) (q _ (by omega)) (fun a _ _ => r a (by omega) (by omega))) (h.s.to (r _ (by omega) (by omega)) (r _ (by omega) (by omega))) (h.z.to (r _ (by omega) (by omega)) (r _ (by omega) (by omega)) (r _ (by omega) (by omega)) (r _ (by omega) (by omega)))
  have e : zN (clr E) = 0 := by unfold zN; rw [q6]; rfl
  unfold iG
  rw [e, q6]
  exact ⟨rfl, by omega, fun i hi => absurd hi (Nat.not_lt_zero i)⟩
theorem wfC_nil {C : List Int32} (h : wfC C) : wfR C 0 = some 1 := by
  have := h [] 0
  rw [List.append_nil] at this
  rw [this, wfR]
theorem getD_l {a b : List Int32} {i : Nat} (h : i < a.length) : (a ++ b).getD i 0 = a.getD i 0 := by
  rw [List.getD_eq_getElem?_getD, List.getD_eq_getElem?_getD, List.getElem?_append_left h]
theorem getD_r {a b : List Int32} {i : Nat} : (a ++ b).getD (a.length + i) 0 = b.getD i 0 := by
  rw [List.getD_eq_getElem?_getD, List.getD_eq_getElem?_getD, List.getElem?_append_right (by omega), Nat.add_sub_cancel_left]
theorem map_getD {C L : List Int32} {n k : Nat} (h : ∀ i, i < n → L.getD (k + i) 0 = C.getD i 0) (hn : C.length = n) : (List.range n).map (fun i => L.getD (k + i) 0) = C := by
  apply List.ext_getElem
  · simp [hn]
  · intro i h1 h2
    simp at h1
    have := h i h1
    simp only [List.getElem_map, List.getElem_range]
    rw [this, List.getD_eq_getElem?_getD, List.getElem?_eq_getElem h2]
    rfl
theorem Inv_addT {E : IM} (h : Inv E) {a b c : List Int32} (h6 : tN E < 6) (hn : a.length + b.length + c.length ≤ 160) (wa : wfC a) (wb : wfC b) (wc : wfC c) : Inv (addT E (tN E) a b c) := by
  obtain ⟨d1, d2, d3, d4⟩ := h.d
  generalize ht : tN E = t at *
  have r : ∀ x, x ≠ 29 → x ≠ 30 → x ≠ 31 → addT E t a b c x = E x := fun x h1 h2 h3 => by unfold addT; rw [up2_n _ _ _ h1, upr_n _ _ h3, upr_n _ _ h2]
  have q : ∀ j, j ≠ 4 → addT E t a b c 29 j = E 29 j := fun j hj => by unfold addT; rw [up2_s, up1_n _ _ hj, upr_n _ _ (by decide), upr_n _ _ (by decide)]
  have q4 : addT E t a b c 29 4 = nI (t + 1) := by unfold addT; rw [up2_s, up1_s, nI_1]
  have e : tN (addT E t a b c) = t + 1 := by unfold tN; rw [q4, cl_nI (by omega)]
  have r30 : ∀ j, addT E t a b c 30 j = if j / 4 = t then txA a b c (j % 4) else E 30 j := fun j => by unfold addT; simp only [up2_n, up2_s, ne_eq, Nat.reduceEqDiff, not_false_eq_true, upr_n, upr_s]
  have r31 : ∀ j, addT E t a b c 31 j = if j / 200 = t ∧ j % 200 < a.length + b.length + c.length then (a ++ b ++ c).getD (j % 200) 0 else E 31 j := fun j => by unfold addT; simp only [up2_n, up2_s, ne_eq, Nat.reduceEqDiff, not_false_eq_true, upr_s]
  refine Inv.mk' (h.a.to (q _ (by omega)) (fun a _ _ => r a (by omega) (by omega) (by omega))) (h.b.to (q _ (by omega)) (fun a _ _ => r a (by omega) (by omega) (by omega))) (h.c.to (q _ (by omega)) (q _ (by omega)) (fun a _ _ => r a (by omega) (by omega) (by omega))) ?_ ?_ (h.g.to (q _ (by omega)) (r _ (by omega) (by omega) (by omega))) ?_ (h.s.to (r _ (by omega) (by omega) (by omega)) (r _ (by omega) (by omega) (by omega))) (h.z.to (r _ (by omega) (by omega) (by omega)) (r _ (by omega) (by omega) (by omega)) (r _ (by omega) (by omega) (by omega)) (r _ (by omega) (by omega) (by omega)))
  · unfold iD
    rw [e]
    refine ⟨q4, by omega, by omega, fun x hx => ?_⟩
    by_cases hxt : x = t
    · subst hxt
      have s : ∀ j, j < 4 → addT E x a b c 30 (4 * x + j) = txA a b c j := fun j hj => by
        rw [r30, if_pos (by omega)]
        congr 1
        omega
      have s0 : sA (addT E x a b c) x 0 = 0 := by unfold sA; rw [s 0 (by omega)]; rfl
      have s1 : sA (addT E x a b c) x 1 = a.length := by unfold sA; rw [s 1 (by omega)]; exact cl_nI (by omega)
      have s2 : sA (addT E x a b c) x 2 = a.length + b.length := by unfold sA; rw [s 2 (by omega)]; exact cl_nI (by omega)
      have s3 : sA (addT E x a b c) x 3 = a.length + b.length + c.length := by unfold sA; rw [s 3 (by omega)]; exact cl_nI (by omega)
      have hseg : ∀ k n, k + n ≤ a.length + b.length + c.length → seg (addT E x a b c) x k (k + n) = (List.range n).map (fun i => (a ++ b ++ c).getD (k + i) 0) := by
        intro k n hkn
        unfold seg
        rw [show k + n - k = n by omega]
        refine List.map_congr_left fun i hi => ?_
        have hi := List.mem_range.mp hi
        rw [r31, if_pos ⟨by omega, by omega⟩]
        congr 1
        omega
      refine ⟨fun j hj => ?_, s0, by omega, by omega, by omega, by omega, fun j hj => ?_⟩
      · rw [s j hj]
        rcases (show j = 0 ∨ j = 1 ∨ j = 2 ∨ j = 3 by omega) with rfl | rfl | rfl | rfl
        · rw [s0]; rfl
        · rw [s1]; rfl
        · rw [s2]; rfl
        · rw [s3]; rfl
      · rcases (show j = 0 ∨ j = 1 ∨ j = 2 by omega) with rfl | rfl | rfl
        · rw [s0, s1]
          have := hseg 0 a.length (by omega)
          rw [Nat.zero_add] at this
          rw [this, map_getD (C := a) (fun i hi => ?_) rfl]
          · exact wfC_nil wa
          · simp [List.getD_eq_getElem?_getD, List.getElem?_append_left hi]
        · rw [s1, s2, hseg a.length b.length (by omega), map_getD (C := b) (fun i hi => ?_) rfl]
          · exact wfC_nil wb
          · rw [List.append_assoc, getD_r, getD_l hi]
        · rw [s2, s3, hseg (a.length + b.length) c.length (by omega), map_getD (C := c) (fun i hi => ?_) rfl]
          · exact wfC_nil wc
          · rw [show a.length + b.length = (a ++ b).length by simp, getD_r]
    · obtain ⟨t1, t2, t3, t4, t5, t6, t7⟩ := d4 x (by omega)
      have s : ∀ j, j < 4 → addT E t a b c 30 (4 * x + j) = E 30 (4 * x + j) := fun j hj => by rw [r30, if_neg (by omega)]
      have sa : ∀ j, j < 4 → sA (addT E t a b c) x j = sA E x j := fun j hj => by unfold sA; rw [s j hj]
      have hseg : ∀ j, j < 3 → seg (addT E t a b c) x (sA E x j) (sA E x (j + 1)) = seg E x (sA E x j) (sA E x (j + 1)) := by
        intro j hj
        unfold seg
        refine List.map_congr_left fun i hi => ?_
        have hi := List.mem_range.mp hi
        have : sA E x (j + 1) ≤ 160 := by
          rcases (show j = 0 ∨ j = 1 ∨ j = 2 by omega) with rfl | rfl | rfl <;> simp only [Nat.zero_add, Nat.reduceAdd] <;> omega
        rw [r31, if_neg (fun z => by omega)]
      refine ⟨fun j hj => by rw [s j hj, sa j hj]; exact t1 j hj, by rw [sa 0 (by omega)]; exact t2, by rw [sa 0 (by omega), sa 1 (by omega)]; exact t3, by rw [sa 1 (by omega), sa 2 (by omega)]; exact t4, by rw [sa 2 (by omega), sa 3 (by omega)]; exact t5, by rw [sa 3 (by omega)]; exact t6, fun j hj => ?_⟩
      rw [sa j (by omega), sa (j + 1) (by omega), hseg j hj]
      exact t7 j hj
  · obtain ⟨f1, f2⟩ := h.f
    unfold iF wN
    rw [e, q 5 (by omega)]
    rw [ht] at f2
    exact ⟨f1, Nat.lt_succ_of_lt f2⟩
  · obtain ⟨b1, b2, b3, ⟨w, hw, b4⟩⟩ := h.h
    unfold iH pN qN
    rw [e, q 7 (by omega), q 9 (by omega), q 10 (by omega), q 11 (by omega), q 1 (by omega), q 2 (by omega), r 21 (by omega) (by omega) (by omega), r 22 (by omega) (by omega) (by omega), r 23 (by omega) (by omega) (by omega), r 24 (by omega) (by omega) (by omega), r 25 (by omega) (by omega) (by omega)]
    rw [ht] at hw
    exact ⟨b1, b2, b3, ⟨w, Nat.lt_succ_of_lt hw, b4⟩⟩
theorem clr_addT (E : IM) (t : Nat) (a b c : List Int32) : clr (addT E t a b c) = addT (clr E) t a b c := by
  have r : ∀ E : IM, ∀ x, x ≠ 29 → x ≠ 18 → clr E x = E x := fun E x h1 h2 => by unfold clr; rw [upr_n _ _ h2, up2_n _ _ _ h1]
  have r2 : ∀ E : IM, ∀ x, x ≠ 29 → x ≠ 30 → x ≠ 31 → addT E t a b c x = E x := fun E x h1 h2 h3 => by unfold addT; rw [up2_n _ _ _ h1, upr_n _ _ h3, upr_n _ _ h2]
  funext x
  by_cases h29 : x = 29
  · subst h29
    funext j
    unfold clr addT
    rw [upr_n _ _ (by decide), up2_s, up2_s, up2_s, upr_n _ _ (by decide), upr_n _ _ (by decide), upr_n _ _ (by decide), upr_n _ _ (by decide), upr_n _ _ (by decide), up2_s]
    by_cases h6 : j = 6
    · subst h6
      rw [up1_s, up1_n _ _ (by decide), up1_s]
    · rw [up1_n _ _ h6]
      by_cases h4 : j = 4
      · subst h4
        rw [up1_s, up1_s]
      · rw [up1_n _ _ h4, up1_n _ _ h4, up1_n _ _ h6]
  · by_cases h18 : x = 18
    · subst h18
      rw [r2 _ 18 (by decide) (by decide) (by decide)]
      unfold clr
      rw [upr_s, upr_s]
    · rw [r _ x h29 h18]
      by_cases h30 : x = 30
      · subst h30
        unfold addT
        simp only [up2_n, up2_s, ne_eq, Nat.reduceEqDiff, not_false_eq_true, upr_n, upr_s]
        rw [r E 30 (by decide) (by decide)]
      · by_cases h31 : x = 31
        · subst h31
          unfold addT
          simp only [up2_n, up2_s, ne_eq, Nat.reduceEqDiff, not_false_eq_true, upr_s]
          rw [r E 31 (by decide) (by decide)]
        · rw [r2 _ x h29 h30 h31, r2 _ x h29 h30 h31, r _ x h29 h18]
def sp_W_text : SpT := fun as S I L Post => as = .ref 0 :: [] ∧ S = S1 ∧ cOk I ∧ ∀ I' : IM, (∀ k, 59 ≤ k → I' k = I k) → cE I' = textU (cE I) → Inv (textU (cE I)) → Post (some (.int (textS (cE I)))) S1 I' L
set_option maxHeartbeats 4000000 in
set_option maxRecDepth 100000 in
theorem c_W_text : Con mW_text 82 0 0 sp_W_text := by
  refine con_of_X rfl fun G as S I L Post hs => ?_
  obtain ⟨rfl, rfl, hok, h1⟩ := hs
  refine ⟨1, Nat.le_of_ble_eq_true rfl, ?_⟩
  show X mW_text G _ S1 I L 0 [.ref 0, .null] [] Post
  obtain ⟨t1, t2, t3, t4⟩ := hok.2.2.2.1
  have hz : I 23 1 = nI (zN (cE I)) := hok.2.2.2.2.2.1.1
  have hz2 : zN (cE I) ≤ 160 := hok.2.2.2.2.2.1.2.1
  have t1' : I 30 2 = nI (tN (cE I)) := t1
  refine x_aload_n dW_text_0 rfl ?_
  refine x_getR fl_W_47 rfl dW_text_1 rfl rfl rfl ?_
  refine x_getI fl_W_126 rfl dW_text_4 rfl rfl ?_
  refine x_bipush (v := 6) dW_text_7 rfl ?_
  -- at 9: .if_icmp .lt 6
  refine x_icmp_lt (tgt := 15) dW_text_9 (by decide) (fun c1 => ?_) (fun c1 => ?_)
  · have c1 : cE I 29 4 < 6 := c1
    rw [textS, textU, if_neg (not_not_intro c1), if_neg (not_not_intro c1), txR_eq] at h1
    rw [t1] at c1
    have h6 : tN (cE I) < 6 := (nI_ltI (b := 6) (by omega) (by omega)).mp c1
    have fin : ∀ (v : Int32) (I2 : IM), (∀ k, 59 ≤ k → I2 k = I k) → (∀ I' : IM, (∀ k, 59 ≤ k → I' k = I k) → cE I' = clr (cE I2) → Post (some (.int v)) S1 I' L) → X mW_text G (82, 0, 0) S1 I2 L 49 [.ref 0, .null] [.int v] Post := by
      intro v I2 st hp
      refine x_istoren_1 dW_text_49 rfl rfl ?_
      refine x_aload_n dW_text_50 rfl ?_
      refine x_getR fl_W_40 rfl dW_text_51 rfl rfl rfl ?_
      -- at 54: .invokevirtual 98
      refine x_callV_0 c_Reader_clear ok_Reader_clear ml_W_98 dW_text_54 rfl rfl rfl rfl rfl ?_
      refine ⟨rfl, rfl, ?_⟩
      refine x_iload_n dW_text_57 rfl ?_
      -- at 58: .ireturn
      refine x_ireturn dW_text_58 rfl rfl ?_
      exact hp _ (fun k hk => by rw [up2_n _ _ _ (by omega)]; exact st k hk) (cE_clr I2)
    refine x_aload_n dW_text_15 rfl ?_
    refine x_getR fl_W_40 rfl dW_text_16 rfl rfl rfl ?_
    -- at 19: .invokevirtual 90
    refine x_callV_0 c_Reader_reads ok_Reader_reads ml_W_90 dW_text_19 rfl rfl rfl rfl rfl ?_
    refine ⟨zN (cE I), rfl, rfl, hz, hz2, fun a b c hr I2 hF hs st hc hn wa wb wc => ?_, fun p hr I2 j hF hs hj hj2 hp => ?_⟩
    · rw [hr] at h1
      have eE : cE I2 = cE I := cE_rd hF hs
      have et : I2 30 2 = nI (tN (cE I)) := by rw [hF 30 (by decide)]; exact t1
      refine x_if_eq (tgt := 39) dW_text_22 (by decide) (fun h => absurd h (by decide)) (fun _ => ?_)
      refine x_aload_n dW_text_25 rfl ?_
      refine x_getR fl_W_47 rfl dW_text_26 rfl rfl rfl ?_
      refine x_aload_n dW_text_29 rfl ?_
      refine x_getR fl_W_40 rfl dW_text_30 rfl rfl rfl ?_
      -- at 33: .invokevirtual 94
      refine x_callV_1 c_Texts_add ok_Texts_add ml_W_94 dW_text_33 rfl rfl rfl rfl rfl ?_
      refine ⟨tN (cE I), rfl, rfl, et, h6, ?_⟩
      refine x_goto (tgt := 49) dW_text_36 (by decide) ?_
      -- at 49: .istore_n 1
      refine fin _ _ (fun k hk => ?_) (fun I' st' e' => ?_)
      · unfold taU
        rw [up2_n _ _ _ (by omega), upr_n _ _ (by omega), upr_n _ _ (by omega)]
        exact hF k (by simp; omega)
      · rw [cE_taU I2 (tN (cE I)) a b c et h6 st hc hn (fun q hq => ?_), eE] at e'
        · have := h1 I' st' ?_ ?_
          · rw [show txAns (cE I) (.inr (a, b, c)) = nI (tN (cE I)) from t1] at this
            exact this
          · rw [e', clr_addT]
            rfl
          · refine Inv_addT (E := clr (cE I)) (Inv_clr hok) ?_ hn wa wb wc
            have e4 : tN (clr (cE I)) = tN (cE I) := by unfold tN clr; rw [upr_n _ _ (by decide), up2_s, up1_n _ _ (by decide)]
            rw [e4]
            exact h6
        · obtain ⟨-, -, -, -, -, u6, -⟩ := t4 q hq
          have e3 : cE I 30 (4 * q + 3) = I 32 (4 * q + 3) := mk_lt (by
            have : tN (cE I) = cl (I 30 2) := rfl
            omega)
          rw [hF 32 (by decide)]
          unfold sA at u6
          rw [e3] at u6
          exact u6
    · rw [hr] at h1
      have eE : cE I2 = cE I := cE_rd hF hs
      refine x_if_eq (tgt := 39) dW_text_22 (by decide) (fun _ => ?_) (fun h => absurd (by decide) h)
      refine x_bipush (v := -100) dW_text_39 rfl ?_
      refine x_aload_n dW_text_41 rfl ?_
      refine x_getR fl_W_40 rfl dW_text_42 rfl rfl rfl ?_
      -- at 45: .invokevirtual 137
      refine x_callV_0 c_Reader_fault ok_Reader_fault ml_W_137 dW_text_45 rfl rfl rfl rfl rfl ?_
      refine ⟨j, rfl, rfl, hj, hj2, ?_⟩
      rw [hp]
      refine x_isub dW_text_48 ?_
      -- at 49: .istore_n 1
      refine fin _ _ (fun k hk => hF k (by simp; omega)) (fun I' st' e' => ?_)
      rw [eE] at e'
      exact h1 I' st' e' (Inv_clr hok)
  · have c1 : ¬ cE I 29 4 < 6 := c1
    rw [textS, textU, if_pos c1, if_pos c1] at h1
    refine x_bipush (v := -4) dW_text_12 rfl ?_
    -- at 14: .ireturn
    refine x_ireturn dW_text_14 rfl rfl ?_
    exact h1 I (fun _ _ => rfl) rfl hok
abbrev feC (n a b c d e : Int32) : Prop := inR n 1 5 ∧ inR a 0 255 ∧ inR b 0 255 ∧ inR c 0 255 ∧ inR d 0 255 ∧ inR e 0 255
def fePk (a b c d e : Int32) (k : Nat) : Int32 := if k = 0 then a else if k = 1 then b else if k = 2 then c else if k = 3 then d else e
def feA (E : IM) (z n : Nat) (a b c d e : Int32) : IM := upr (up2 E 29 6 (nI (z + n))) 18 (fun j => if z ≤ j ∧ j < z + n then fePk a b c d e (j - z) else E 18 j)
def feedS (E : IM) (n a b c d e : Int32) : Int32 := if ¬ feC n a b c d e then -2 else if 160 < E 29 6 + n then -4 else E 29 6 + n
def feedU (E : IM) (n a b c d e : Int32) : IM := if ¬ feC n a b c d e then E else if 160 < E 29 6 + n then E else feA E (zN E) (cl n) a b c d e
theorem n15 {n : Int32} (h : inR n 1 5) : ∃ k, 1 ≤ k ∧ k ≤ 5 ∧ n = nI k := by
  obtain ⟨k, hk, e⟩ := inR_of (n := 5) (by decide) (show inR n 0 5 from ⟨Int32.le_trans (by decide) h.1, h.2⟩)
  refine ⟨k, ?_, hk, e⟩
  by_cases h0 : k = 0
  · subst h0
    rw [e] at h
    exact absurd h.1 (by decide)
  · omega
theorem Inv_feed {E : IM} (h : Inv E) (n a b c d e : Int32) : Inv (feedU E n a b c d e) := by
  unfold feedU
  split
  · exact h
  · split
    · exact h
    · rename_i h1 h2
      obtain ⟨g0, g1, g2, g3, g4, g5⟩ := Classical.not_not.mp h1
      obtain ⟨k, hk1, hk5, rfl⟩ := n15 g0
      obtain ⟨z1, z2, z3⟩ := h.g
      rw [z1, nI_add] at h2
      have hz : zN E + k ≤ 160 := by
        by_cases y : zN E + k ≤ 160
        · exact y
        · exact absurd ((nI_ltI (a := 160) (by omega) (by omega)).mpr (by omega)) h2
      rw [cl_nI (by omega)]
      generalize hJ : feA E (zN E) k a b c d e = J
      have r : ∀ x, x ≠ 29 → x ≠ 18 → J x = E x := fun x h1 h2 => by rw [← hJ]; unfold feA; rw [upr_n _ _ h2, up2_n _ _ _ h1]
      have q : ∀ j, j ≠ 6 → J 29 j = E 29 j := fun j hj => by rw [← hJ]; unfold feA; rw [upr_n _ _ (by decide), up2_s, up1_n _ _ hj]
      have q6 : J 29 6 = nI (zN E + k) := by rw [← hJ]; unfold feA; rw [upr_n _ _ (by decide), up2_s, up1_s]
      have r18 : ∀ j, J 18 j = if zN E ≤ j ∧ j < zN E + k then fePk a b c d e (j - zN E) else E 18 j := fun j => by rw [← hJ]; unfold feA; rw [upr_s]
      refine Inv.mk' (h.a.to (q _ (by omega)) (fun a _ _ => r a (by omega) (by omega))) (h.b.to (q _ (by omega)) (fun a _ _ => r a (by omega) (by omega))) (h.c.to (q _ (by omega)) (q _ (by omega)) (fun a _ _ => r a (by omega) (by omega))) (h.d.to (q _ (by omega)) (r _ (by omega) (by omega)) (r _ (by omega) (by omega))) (h.f.to (q _ (by omega)) (q _ (by omega))) ?_ (h.h.to (fun j _ => q j (by omega)) (q _ (by omega)) (q _ (by omega)) (q _ (by omega)) (fun a _ _ => r a (by omega) (by omega))) (h.s.to (r _ (by omega) (by omega)) (r _ (by omega) (by omega))) (h.z.to (r _ (by omega) (by omega)) (r _ (by omega) (by omega)) (r _ (by omega) (by omega)) (r _ (by omega) (by omega)))
      have ez : zN J = zN E + k := by
        show cl (J 29 6) = _
        rw [q6, cl_nI (by omega)]
      unfold iG
      rw [ez]
      refine ⟨q6, hz, fun i hi => ?_⟩
      rw [r18]
      split
      · unfold fePk
        split
        · exact rng_inR (n := 255) (by decide) g1
        · split
          · exact rng_inR (n := 255) (by decide) g2
          · split
            · exact rng_inR (n := 255) (by decide) g3
            · split
              · exact rng_inR (n := 255) (by decide) g4
              · exact rng_inR (n := 255) (by decide) g5
      · exact z3 i (by omega)
def sp_W_feed : SpT := fun as S I L Post => ∃ n a b c d e : Int32, cSp [.int n, .int a, .int b, .int c, .int d, .int e] (fun E => .int (feedS E n a b c d e)) (fun E => feedU E n a b c d e) as S I L Post
set_option maxHeartbeats 4000000 in
set_option maxRecDepth 100000 in
theorem c_W_feed : Con mW_feed 4 0 0 sp_W_feed := by
  refine con_of_X rfl fun G as S I0 L Post hs => ?_
  obtain ⟨n, a, b, c, d, e, rfl, rfl, hok, h1⟩ := hs
  dsimp only at h1
  refine ⟨1, Nat.le_of_ble_eq_true rfl, ?_⟩
  show X mW_feed G _ S1 I0 L 0 [.ref 0, .int n, .int a, .int b, .int c, .int d, .int e, .null] [] Post
  have hz : I0 23 1 = nI (zN (cE I0)) := hok.2.2.2.2.2.1.1
  have hz2 : zN (cE I0) ≤ 160 := hok.2.2.2.2.2.1.2.1
  have bad : ¬ feC n a b c d e → X mW_feed G (4, 0, 0) S1 I0 L 47 [.ref 0, .int n, .int a, .int b, .int c, .int d, .int e, .null] [] Post := by
    intro hc
    rw [feedS, feedU, if_pos hc, if_pos hc] at h1
    refine x_bipush (v := -2) dW_feed_47 rfl ?_
    -- at 49: .ireturn
    refine x_ireturn dW_feed_49 rfl rfl ?_
    exact h1 I0 (fun _ _ => rfl) rfl
  refine x_iload_n dW_feed_0 rfl ?_
  refine x_iconst (v := 1) dW_feed_1 rfl ?_
  refine x_iconst (v := 5) dW_feed_2 rfl ?_
  -- at 3: .invokestatic 101
  refine x_callS_3 c_W_within ok_W_within ml_W_101 dW_feed_3 rfl rfl ?_
  refine ⟨_, _, _, rfl, fun g0 => ?_, fun g0 => ?_⟩
  · refine x_if_eq (tgt := 47) dW_feed_6 (by decide) (fun h => absurd h (by decide)) (fun _ => ?_)
    refine x_iload_n dW_feed_9 rfl ?_
    -- at 10: .invokestatic 133
    refine x_callS_1 c_W_isByte ok_W_isByte ml_W_133 dW_feed_10 rfl rfl ?_
    refine ⟨_, rfl, fun g1 => ?_, fun g1 => ?_⟩
    · refine x_if_eq (tgt := 47) dW_feed_13 (by decide) (fun h => absurd h (by decide)) (fun _ => ?_)
      refine x_iload_n dW_feed_16 rfl ?_
      -- at 17: .invokestatic 133
      refine x_callS_1 c_W_isByte ok_W_isByte ml_W_133 dW_feed_17 rfl rfl ?_
      refine ⟨_, rfl, fun g2 => ?_, fun g2 => ?_⟩
      · refine x_if_eq (tgt := 47) dW_feed_20 (by decide) (fun h => absurd h (by decide)) (fun _ => ?_)
        refine x_iload dW_feed_23 rfl ?_
        -- at 25: .invokestatic 133
        refine x_callS_1 c_W_isByte ok_W_isByte ml_W_133 dW_feed_25 rfl rfl ?_
        refine ⟨_, rfl, fun g3 => ?_, fun g3 => ?_⟩
        · refine x_if_eq (tgt := 47) dW_feed_28 (by decide) (fun h => absurd h (by decide)) (fun _ => ?_)
          refine x_iload dW_feed_31 rfl ?_
          -- at 33: .invokestatic 133
          refine x_callS_1 c_W_isByte ok_W_isByte ml_W_133 dW_feed_33 rfl rfl ?_
          refine ⟨_, rfl, fun g4 => ?_, fun g4 => ?_⟩
          · refine x_if_eq (tgt := 47) dW_feed_36 (by decide) (fun h => absurd h (by decide)) (fun _ => ?_)
            refine x_iload dW_feed_39 rfl ?_
            -- at 41: .invokestatic 133
            refine x_callS_1 c_W_isByte ok_W_isByte ml_W_133 dW_feed_41 rfl rfl ?_
            refine ⟨_, rfl, fun g5 => ?_, fun g5 => ?_⟩
            · refine x_if_ne (tgt := 50) dW_feed_44 (by decide) (fun _ => ?_) (fun h => absurd h (by decide))
              have hc : feC n a b c d e := ⟨g0, g1, g2, g3, g4, g5⟩
              rw [feedS, feedU, if_neg (not_not_intro hc), if_neg (not_not_intro hc)] at h1
              obtain ⟨k, hk1, hk5, rfl⟩ := n15 g0
              rw [show cE I0 29 6 = nI (zN (cE I0)) from hz, nI_add, cl_nI (by omega)] at h1
              refine x_aload_n dW_feed_50 rfl ?_
              refine x_getR fl_W_40 rfl dW_feed_51 rfl rfl rfl ?_
              refine x_getI fl_W_130 rfl dW_feed_54 rfl rfl ?_
              refine x_iload_n dW_feed_57 rfl ?_
              refine x_iadd dW_feed_58 ?_
              -- at 59: .sipush 160
              rw [hz]
              refine x_eqi (y := nI (zN (cE I0) + k)) (nI_add _ _) ?_
              refine x_sipush (v := 160) dW_feed_59 rfl ?_
              -- at 62: .if_icmp .le 6
              by_cases h160 : zN (cE I0) + k ≤ 160
              · have hl : ¬ (160 : Int32) < nI (zN (cE I0) + k) := Int32.not_lt.mpr (nI_le (b := 160) h160 (by omega))
                rw [if_neg hl, if_neg hl] at h1
                refine x_icmp_le (tgt := 68) dW_feed_62 (by decide) (fun _ => ?_) (fun h => absurd (nI_le (b := 160) h160 (by omega)) h)
                refine x_iconst (v := 0) dW_feed_68 rfl ?_
                refine x_istore_7 dW_feed_69 rfl rfl ?_
                -- at 71: .iload 7
                have loop : ∀ (m i : Nat) (I : IM), i + m = k → Fr [23, 24] I0 I → (∀ q, q ≠ 1 → I 23 q = I0 23 q) → I 23 1 = nI (zN (cE I0) + i) → (∀ j, I 24 j = if zN (cE I0) ≤ j ∧ j < zN (cE I0) + i then fePk a b c d e (j - zN (cE I0)) else I0 24 j) →
                    X mW_feed G (4, 0, 0) S1 I L 71 [.ref 0, .int (nI k), .int a, .int b, .int c, .int d, .int e, .int (nI i)] [] Post := by
                  intro m
                  induction m with
                  | zero =>
                    intro i I hi hF hs hsz ht
                    obtain rfl : i = k := by omega
                    refine x_iload dW_feed_71 rfl ?_
                    refine x_iload_n dW_feed_73 rfl ?_
                    -- at 74: .if_icmp .ge 59
                    refine x_icmp_ge (tgt := 133) dW_feed_74 (by decide) (fun _ => ?_) (fun h => absurd (Int32.le_refl _) h)
                    refine x_aload_n dW_feed_133 rfl ?_
                    refine x_getR fl_W_40 rfl dW_feed_134 rfl rfl rfl ?_
                    refine x_getI fl_W_130 rfl dW_feed_137 rfl rfl ?_
                    -- at 140: .ireturn
                    rw [hsz]
                    refine x_ireturn dW_feed_140 rfl rfl ?_
                    refine h1 I (fun j hj => hF j (by simp; omega)) ?_
                    have e1 : cE I = cE (up2 (upr I0 24 (I 24)) 23 1 (nI (zN (cE I0) + i))) := by
                      congr 1
                      funext q
                      by_cases y : q = 23
                      · subst y
                        rw [up2_s, upr_n _ _ (by decide)]
                        funext j
                        by_cases y2 : j = 1
                        · subst y2; rw [up1_s, hsz]
                        · rw [up1_n _ _ y2, hs j y2]
                      · rw [up2_n _ _ _ y]
                        by_cases y2 : q = 24
                        · subst y2; rw [upr_s]
                        · rw [upr_n _ _ y2]
                          exact hF q (by simp [y, y2])
                    rw [e1, cE_n6, cE_18, upr_s, cl_nI (by omega)]
                    unfold feA
                    funext q
                    by_cases y : q = 18
                    · subst y
                      rw [upr_s, upr_s]
                      funext j
                      unfold mk
                      rw [ht]
                      by_cases y2 : j < zN (cE I0) + i
                      · rw [if_pos y2]
                        by_cases y3 : zN (cE I0) ≤ j
                        · rw [if_pos ⟨y3, y2⟩, if_pos ⟨y3, y2⟩]
                        · rw [if_neg (fun z => y3 z.1), if_neg (fun z => y3 z.1)]
                          exact (mk_lt (show j < cl (I0 23 1) by rw [hz, cl_nI (by omega)]; omega)).symm
                      · rw [if_neg y2, if_neg (fun z => y2 z.2)]
                        show 0 = mk (cl (I0 23 1)) (I0 24) j
                        rw [hz, cl_nI (by omega)]
                        unfold mk
                        rw [if_neg (by omega)]
                    · rw [upr_n _ _ y, upr_n _ _ y]
                      by_cases y2 : q = 29
                      · subst y2
                        rw [up2_s, up2_s, upr_n _ _ (by decide)]
                      · rw [up2_n _ _ _ y2, up2_n _ _ _ y2, upr_n _ _ y]
                  | succ m ih =>
                    intro i I hi hF hs hsz ht
                    have put : ∀ x : Int32, x = fePk a b c d e i → X mW_feed G (4, 0, 0) S1 I L 124 [.ref 0, .int (nI k), .int a, .int b, .int c, .int d, .int e, .int (nI i)] [.int x, .ref 23] Post := by
                      intro x hx
                      refine x_callV_1 c_Reader_put ok_Reader_put ml_W_86 dW_feed_124 rfl rfl rfl rfl rfl ?_
                      refine ⟨zN (cE I0) + i, x, rfl, rfl, hsz, by omega, ?_⟩
                      refine x_iincp_7 dW_feed_127 rfl rfl ?_
                      refine x_goto (tgt := 71) dW_feed_130 (by decide) ?_
                      -- at 71: .iload 7
                      rw [nI_1]
                      refine ih (i + 1) _ (by omega) ((hF.up (by decide) _ _).up (by decide) _ _) (fun q hq => ?_) ?_ (fun j => ?_)
                      · rw [up2_s, up1_n _ _ hq, up2_n _ _ _ (by decide)]
                        exact hs q hq
                      · rw [up2_s, up1_s]
                        rfl
                      · rw [up2_n _ _ _ (by decide), up2_s]
                        by_cases y : j = zN (cE I0) + i
                        · subst y
                          rw [up1_s, if_pos ⟨by omega, by omega⟩, hx]
                          congr 1
                          omega
                        · rw [up1_n _ _ y, ht]
                          by_cases y2 : zN (cE I0) ≤ j ∧ j < zN (cE I0) + i
                          · rw [if_pos y2, if_pos ⟨y2.1, by omega⟩]
                          · rw [if_neg y2, if_neg (fun z => y2 ⟨z.1, by omega⟩)]
                    refine x_iload dW_feed_71 rfl ?_
                    refine x_iload_n dW_feed_73 rfl ?_
                    -- at 74: .if_icmp .ge 59
                    refine x_icmp_ge (tgt := 133) dW_feed_74 (by decide) (fun h => absurd h (nI_ge (by omega) (by omega))) (fun _ => ?_)
                    refine x_aload_n dW_feed_77 rfl ?_
                    refine x_getR fl_W_40 rfl dW_feed_78 rfl rfl rfl ?_
                    refine x_iload dW_feed_81 rfl ?_
                    -- at 83: .ifCond .ne 7
                    rcases (show i = 0 ∨ i = 1 ∨ i = 2 ∨ i = 3 ∨ i = 4 by omega) with rfl | rfl | rfl | rfl | rfl
                    · refine x_if_ne (tgt := 90) dW_feed_83 (by decide) (fun h => absurd rfl h) (fun _ => ?_)
                      refine x_iload_n dW_feed_86 rfl ?_
                      refine x_goto (tgt := 124) dW_feed_87 (by decide) ?_
                      -- at 124: .invokevirtual 86
                      exact put a rfl
                    · refine x_if_ne (tgt := 90) dW_feed_83 (by decide) (fun _ => ?_) (fun h => absurd h (by decide))
                      refine x_iload dW_feed_90 rfl ?_
                      refine x_iconst (v := 1) dW_feed_92 rfl ?_
                      -- at 93: .if_icmp .ne 7
                      refine x_icmp_ne (tgt := 100) dW_feed_93 (by decide) (fun h => absurd rfl h) (fun _ => ?_)
                      refine x_iload_n dW_feed_96 rfl ?_
                      refine x_goto (tgt := 124) dW_feed_97 (by decide) ?_
                      -- at 124: .invokevirtual 86
                      exact put b rfl
                    · refine x_if_ne (tgt := 90) dW_feed_83 (by decide) (fun _ => ?_) (fun h => absurd h (by decide))
                      refine x_iload dW_feed_90 rfl ?_
                      refine x_iconst (v := 1) dW_feed_92 rfl ?_
                      -- at 93: .if_icmp .ne 7
                      refine x_icmp_ne (tgt := 100) dW_feed_93 (by decide) (fun _ => ?_) (fun h => absurd h (by decide))
                      refine x_iload dW_feed_100 rfl ?_
                      refine x_iconst (v := 2) dW_feed_102 rfl ?_
                      -- at 103: .if_icmp .ne 8
                      refine x_icmp_ne (tgt := 111) dW_feed_103 (by decide) (fun h => absurd rfl h) (fun _ => ?_)
                      refine x_iload dW_feed_106 rfl ?_
                      refine x_goto (tgt := 124) dW_feed_108 (by decide) ?_
                      -- at 124: .invokevirtual 86
                      exact put c rfl
                    · refine x_if_ne (tgt := 90) dW_feed_83 (by decide) (fun _ => ?_) (fun h => absurd h (by decide))
                      refine x_iload dW_feed_90 rfl ?_
                      refine x_iconst (v := 1) dW_feed_92 rfl ?_
                      -- at 93: .if_icmp .ne 7
                      refine x_icmp_ne (tgt := 100) dW_feed_93 (by decide) (fun _ => ?_) (fun h => absurd h (by decide))
                      refine x_iload dW_feed_100 rfl ?_
                      refine x_iconst (v := 2) dW_feed_102 rfl ?_
                      -- at 103: .if_icmp .ne 8
                      refine x_icmp_ne (tgt := 111) dW_feed_103 (by decide) (fun _ => ?_) (fun h => absurd h (by decide))
                      refine x_iload dW_feed_111 rfl ?_
                      refine x_iconst (v := 3) dW_feed_113 rfl ?_
                      -- at 114: .if_icmp .ne 8
                      refine x_icmp_ne (tgt := 122) dW_feed_114 (by decide) (fun h => absurd rfl h) (fun _ => ?_)
                      refine x_iload dW_feed_117 rfl ?_
                      refine x_goto (tgt := 124) dW_feed_119 (by decide) ?_
                      -- at 124: .invokevirtual 86
                      exact put d rfl
                    · refine x_if_ne (tgt := 90) dW_feed_83 (by decide) (fun _ => ?_) (fun h => absurd h (by decide))
                      refine x_iload dW_feed_90 rfl ?_
                      refine x_iconst (v := 1) dW_feed_92 rfl ?_
                      -- at 93: .if_icmp .ne 7
                      refine x_icmp_ne (tgt := 100) dW_feed_93 (by decide) (fun _ => ?_) (fun h => absurd h (by decide))
                      refine x_iload dW_feed_100 rfl ?_
                      refine x_iconst (v := 2) dW_feed_102 rfl ?_
                      -- at 103: .if_icmp .ne 8
                      refine x_icmp_ne (tgt := 111) dW_feed_103 (by decide) (fun _ => ?_) (fun h => absurd h (by decide))
                      refine x_iload dW_feed_111 rfl ?_
                      refine x_iconst (v := 3) dW_feed_113 rfl ?_
                      -- at 114: .if_icmp .ne 8
                      refine x_icmp_ne (tgt := 122) dW_feed_114 (by decide) (fun _ => ?_) (fun h => absurd h (by decide))
                      refine x_iload dW_feed_122 rfl ?_
                      -- at 124: .invokevirtual 86
                      exact put e rfl
                exact loop k 0 I0 (by omega) Fr.rfl (fun _ _ => rfl) hz (fun j => by rw [if_neg (fun z => by omega)])
              · have hl : (160 : Int32) < nI (zN (cE I0) + k) := (nI_ltI (a := 160) (by omega) (by omega)).mpr (by omega)
                rw [if_pos hl, if_pos hl] at h1
                refine x_icmp_le (tgt := 68) dW_feed_62 (by decide) (fun h => absurd h (Int32.not_le.mpr hl)) (fun _ => ?_)
                refine x_bipush (v := -4) dW_feed_65 rfl ?_
                -- at 67: .ireturn
                refine x_ireturn dW_feed_67 rfl rfl ?_
                exact h1 I0 (fun _ _ => rfl) rfl
            · refine x_if_ne (tgt := 50) dW_feed_44 (by decide) (fun h => absurd (by decide) h) (fun _ => ?_)
              exact bad (fun z => g5 z.2.2.2.2.2)
          · refine x_if_eq (tgt := 47) dW_feed_36 (by decide) (fun _ => ?_) (fun h => absurd (by decide) h)
            exact bad (fun z => g4 z.2.2.2.2.1)
        · refine x_if_eq (tgt := 47) dW_feed_28 (by decide) (fun _ => ?_) (fun h => absurd (by decide) h)
          exact bad (fun z => g3 z.2.2.2.1)
      · refine x_if_eq (tgt := 47) dW_feed_20 (by decide) (fun _ => ?_) (fun h => absurd (by decide) h)
        exact bad (fun z => g2 z.2.2.1)
    · refine x_if_eq (tgt := 47) dW_feed_13 (by decide) (fun _ => ?_) (fun h => absurd (by decide) h)
      exact bad (fun z => g1 z.2.1)
  · refine x_if_eq (tgt := 47) dW_feed_6 (by decide) (fun _ => ?_) (fun h => absurd (by decide) h)
    exact bad (fun z => g0 z.1)
end
