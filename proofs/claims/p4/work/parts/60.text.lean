/-! the class's calls: feed, text -/
def clr (E : IM) : IM := upr (up2 E 29 6 0) 18 (fun _ => 0)
def txA (a b c : List Int32) (r : Nat) : Int32 := match r with
  | 0 => nI 0 | 1 => nI a.length | 2 => nI (a.length + b.length) | _ => nI (a.length + b.length + c.length)
def addT (E : IM) (t : Nat) (a b c : List Int32) : IM := up2 (upr (upr E 30 (fun j => if j / 4 = t then txA a b c (j % 4) else E 30 j)) 31 (fun j => if j / 200 = t ∧ j % 200 < a.length + b.length + c.length then (a ++ b ++ c).getD (j % 200) 0 else E 31 j)) 29 4 (nI t + 1)
def txR (E : IM) : Nat ⊕ (List Int32 × List Int32 × List Int32) := pt (tokS (E 18) (zN E) 0)
def txAns (E : IM) (r : Nat ⊕ (List Int32 × List Int32 × List Int32)) : Int32 := match r with
  | .inl p => -100 - nI p
  | .inr _ => E 29 4
def txUpd (E : IM) (r : Nat ⊕ (List Int32 × List Int32 × List Int32)) : IM := match r with
  | .inl _ => clr E
  | .inr (a, b, c) => addT (clr E) (tN E) a b c
def textS (E : IM) : Int32 := if ¬ E 29 4 < 6 then -4 else txAns E (txR E)
def textU (E : IM) : IM := if ¬ E 29 4 < 6 then E else txUpd E (txR E)
theorem letE_congr {f g : Nat → Int32} {z : Nat} (h : ∀ i, i < z → f i = g i) : ∀ k a, letE f z k a = letE g z k a := by
  intro k
  induction k with
  | zero => intro a; rfl
  | succ j ih =>
    intro a
    rw [letE, letE, ih]
    by_cases ha : a < z
    · rw [h a ha]
    · rw [if_neg (fun z => ha z.1), if_neg (fun z => ha z.1)]
theorem digE_congr {f g : Nat → Int32} {z : Nat} (h : ∀ i, i < z → f i = g i) : ∀ k a, digE f z k a = digE g z k a := by
  intro k
  induction k with
  | zero => intro a; rfl
  | succ j ih =>
    intro a
    rw [digE, digE, ih]
    by_cases ha : a < z
    · rw [h a ha]
    · rw [if_neg (fun z => ha z.1), if_neg (fun z => ha z.1)]
theorem numV_congr {f g : Nat → Int32} {a : Nat} : ∀ k, (∀ i, i < k → f (a + i) = g (a + i)) → numV f k a = numV g k a := by
  intro k
  induction k with
  | zero => intro _; rfl
  | succ j ih =>
    intro h
    rw [numV, numV, ih (fun i hi => h i (by omega)), h j (by omega)]
theorem tokAt_congr {f g : Nat → Int32} {z a : Nat} (h : ∀ i, i < z → f i = g i) (ha : a < z) : tokAt f z a = tokAt g z a := by
  have hw : ∀ e, e ≤ z → wordAt f a e = wordAt g a e := fun e he => by
    unfold wordAt
    refine List.map_congr_left fun i hi => h _ ?_
    have := List.mem_range.mp hi
    omega
  unfold tokAt
  rw [letE_congr h, digE_congr h, h a ha, hw _ ((letE_ge g z (z - a) a).2 (by omega))]
  rw [numV_congr (f := f) (g := g) (digE g z (z - a) a - a) (fun i hi => h _ (by have := (digE_ge g z (z - a) a).2 (by omega); omega))]
theorem toks_congr {f g : Nat → Int32} {z : Nat} (h : ∀ i, i < z → f i = g i) : ∀ k a, toks f z k a = toks g z k a := by
  intro k
  induction k with
  | zero => intro a; rfl
  | succ j ih =>
    intro a
    rw [toks, toks]
    by_cases ha : a < z
    · rw [if_pos ha, if_pos ha, tokAt_congr h ha, h a ha, ih, ih]
    · rw [if_neg ha, if_neg ha]
theorem tokS_congr {f g : Nat → Int32} {z : Nat} (h : ∀ i, i < z → f i = g i) (a : Nat) : tokS f z a = tokS g z a := toks_congr h _ _
theorem cE_clr (I : IM) : cE (up2 I 23 1 0) = clr (cE I) := by
  unfold clr
  rw [cE_n6]
  congr 1
theorem txR_eq (I : IM) : txR (cE I) = pt (tokS (I 24) (zN (cE I)) 0) := by
  unfold txR
  congr 1
  exact tokS_congr (fun i hi => mk_lt hi) 0
theorem cE_r23 (I : IM) (f : Nat → Int32) (h : f 1 = I 23 1) : cE (upr I 23 f) = cE I := by
  funext a
  by_cases h29 : a = 29
  · subst h29
    have e29 : ∀ I' : IM, cE I' 29 = cSc I' := fun _ => rfl
    rw [e29, e29]
    funext j
    unfold cSc
    split <;> first | rfl | (simp [upr_n, upr_s, h])
  · unfold cE
    split <;> first | rfl | (exfalso; omega) | (simp [upr_n, upr_s, h])
/-- only what the class reads texts in has changed -/
theorem cE_rd {I I' : IM} (hF : Fr rdScr I I') (h1 : I' 23 1 = I 23 1) : cE I' = cE I := by
  rw [← cE_r23 I (I' 23) h1]
  refine cE_fr (fun k hk => ?_)
  by_cases z : k = 23
  · subst z; rw [upr_s]
  · rw [upr_n _ _ z]
    refine hF k (fun q => ?_)
    simp only [List.mem_cons, List.not_mem_nil, or_false] at q hk
    omega
theorem cE_taU (I : IM) (t : Nat) (a b c : List Int32) (ht : I 30 2 = nI t) (h6 : t < 6) (hs : I 29 0 = nI 0 ∧ I 29 1 = nI a.length ∧ I 29 2 = nI (a.length + b.length) ∧ I 29 3 = nI (a.length + b.length + c.length))
    (hc : ∀ k, k < a.length + b.length + c.length → enc (I 28 k) = (a ++ b ++ c).getD k 0) (hn : a.length + b.length + c.length ≤ 160) (hold : ∀ q, q < t → cl (I 32 (4 * q + 3)) ≤ 160) : cE (taU I t) = addT (cE I) t a b c := by
  have et : cl (I 30 2) = t := by rw [show I 30 2 = nI t from ht, cl_nI (by omega)]
  generalize hJ : taU I t = J
  have ho : ∀ k, k ∉ [30, 31, 32] → J k = I k := by
    intro k hk
    simp only [List.mem_cons, List.not_mem_nil, or_false, not_or] at hk
    subst hJ
    unfold taU
    rw [up2_n _ _ _ (by omega), upr_n _ _ (by omega), upr_n _ _ (by omega)]
  have e31 : J 31 = va_cpy (I 28) (I 31) 0 (t * 160) 160 := by subst hJ; unfold taU; simp only [up2_n, up2_s, ne_eq, Nat.reduceEqDiff, not_false_eq_true, upr_n, upr_s]
  have e32 : J 32 = va_cpy (I 29) (I 32) 0 (t * 4) 4 := by subst hJ; unfold taU; simp only [up2_n, up2_s, ne_eq, Nat.reduceEqDiff, not_false_eq_true, upr_n, upr_s]
  have e302 : J 30 2 = nI (t + 1) := by subst hJ; unfold taU; rw [up2_s, up1_s, nI_1]
  have e303 : J 30 3 = I 30 3 := by subst hJ; unfold taU; rw [up2_s, up1_n _ _ (by decide)]; simp only [up2_n, up2_s, ne_eq, Nat.reduceEqDiff, not_false_eq_true, upr_n]
  have ej : cl (J 30 2) = t + 1 := by rw [e302, cl_nI (by omega)]
  have x30 : mk (4 * cl (J 30 2)) (J 32) = fun j => if j / 4 = t then txA a b c (j % 4) else mk (4 * cl (I 30 2)) (I 32) j := by
    rw [ej, et, e32]
    funext j
    by_cases hj : j / 4 = t
    · rw [if_pos hj, mk_lt (by omega), pk_cpy_in (by omega) (by omega)]
      obtain ⟨s0, s1, s2, s3⟩ := hs
      have hr : j % 4 < 4 := Nat.mod_lt _ (by omega)
      rw [show 0 + (j - t * 4) = j % 4 by omega]
      rcases (show j % 4 = 0 ∨ j % 4 = 1 ∨ j % 4 = 2 ∨ j % 4 = 3 by omega) with z | z | z | z
      · rw [z, s0]; rfl
      · rw [z, s1]; rfl
      · rw [z, s2]; rfl
      · rw [z, s3]; rfl
    · rw [if_neg hj]
      by_cases h2 : j < 4 * t
      · rw [mk_lt (by omega), mk_lt h2, pk_cpy_out (Or.inl (by omega))]
      · unfold mk
        rw [if_neg (by omega), if_neg h2]
  have x31 : (fun j => if j / 200 < cl (J 30 2) ∧ j % 200 < cl (J 32 (4 * (j / 200) + 3)) then enc (J 31 (160 * (j / 200) + j % 200)) else 0) = fun j => if j / 200 = t ∧ j % 200 < a.length + b.length + c.length then (a ++ b ++ c).getD (j % 200) 0 else if j / 200 < cl (I 30 2) ∧ j % 200 < cl (I 32 (4 * (j / 200) + 3)) then enc (I 31 (160 * (j / 200) + j % 200)) else 0 := by
    rw [ej, et, e32, e31]
    funext j
    by_cases hj : j / 200 = t
    · have e3 : va_cpy (I 29) (I 32) 0 (t * 4) 4 (4 * (j / 200) + 3) = nI (a.length + b.length + c.length) := by
        rw [pk_cpy_in (by omega) (by omega), ← hs.2.2.2]
        congr 1
        omega
      rw [e3, cl_nI (by omega)]
      by_cases h2 : j % 200 < a.length + b.length + c.length
      · rw [if_pos ⟨by omega, h2⟩, if_pos ⟨hj, h2⟩, pk_cpy_in (by omega) (by omega), ← hc _ h2]
        congr 2
        omega
      · rw [if_neg (fun z => h2 z.2), if_neg (fun z => h2 z.2), if_neg (fun z => by omega)]
    · rw [if_neg (c := j / 200 = t ∧ j % 200 < a.length + b.length + c.length) (fun z => hj z.1)]
      by_cases h2 : j / 200 < t
      · have e3 : va_cpy (I 29) (I 32) 0 (t * 4) 4 (4 * (j / 200) + 3) = I 32 (4 * (j / 200) + 3) := pk_cpy_out (Or.inl (by omega))
        rw [e3]
        by_cases h3 : j % 200 < cl (I 32 (4 * (j / 200) + 3))
        · have := hold _ h2
          rw [if_pos ⟨by omega, h3⟩, if_pos ⟨h2, h3⟩, pk_cpy_out (Or.inl (by omega))]
        · rw [if_neg (fun z => h3 z.2), if_neg (fun z => h3 z.2)]
      · rw [if_neg (fun z => by omega), if_neg (fun z => h2 z.1)]
  unfold addT
  funext a
  match a with
  | 0 => exact ho 2 (by decide)
  | 1 => exact ho 3 (by decide)
  | 2 => exact ho 5 (by decide)
  | 3 => exact ho 6 (by decide)
  | 4 => exact ho 7 (by decide)
  | 5 => exact ho 8 (by decide)
  | 6 => exact ho 9 (by decide)
  | 7 => exact ho 10 (by decide)
  | 8 => exact ho 11 (by decide)
  | 9 => show mk (cl (J 4 8)) (J 12) = mk (cl (I 4 8)) (I 12); rw [ho 4 (by decide), ho 12 (by decide)]
  | 10 => exact ho 14 (by decide)
  | 11 => exact ho 15 (by decide)
  | 12 => exact ho 16 (by decide)
  | 13 => exact ho 17 (by decide)
  | 14 => show mk (cl (J 18 4)) (J 19) = mk (cl (I 18 4)) (I 19); rw [ho 18 (by decide), ho 19 (by decide)]
  | 15 => show mk (cl (J 18 4)) (J 20) = mk (cl (I 18 4)) (I 20); rw [ho 18 (by decide), ho 20 (by decide)]
  | 16 => show mk (cl (J 18 4)) (J 21) = mk (cl (I 18 4)) (I 21); rw [ho 18 (by decide), ho 21 (by decide)]
  | 17 => show mk (cl (J 18 4)) (J 22) = mk (cl (I 18 4)) (I 22); rw [ho 18 (by decide), ho 22 (by decide)]
  | 18 => show mk (cl (J 23 1)) (J 24) = mk (cl (I 23 1)) (I 24); rw [ho 23 (by decide), ho 24 (by decide)]
  | 19 => exact ho 47 (by decide)
  | 20 => exact ho 48 (by decide)
  | 21 => show mk (cl (J 45 3)) (J 54) = mk (cl (I 45 3)) (I 54); rw [ho 45 (by decide), ho 54 (by decide)]
  | 22 => show mk (cl (J 49 4)) (J 50) = mk (cl (I 49 4)) (I 50); rw [ho 49 (by decide), ho 50 (by decide)]
  | 23 => show mk (cl (J 49 4)) (J 51) = mk (cl (I 49 4)) (I 51); rw [ho 49 (by decide), ho 51 (by decide)]
  | 24 => show mk (cl (J 49 4)) (J 52) = mk (cl (I 49 4)) (I 52); rw [ho 49 (by decide), ho 52 (by decide)]
  | 25 => show mk (cl (J 49 4)) (J 53) = mk (cl (I 49 4)) (I 53); rw [ho 49 (by decide), ho 53 (by decide)]
  | 26 => exact ho 56 (by decide)
  | 27 => exact ho 57 (by decide)
  | 28 => exact ho 58 (by decide)
  | 29 =>
    funext j
    match j with
    | 0 => exact congrFun (ho 1 (by decide)) 2
    | 1 => exact congrFun (ho 4 (by decide)) 8
    | 2 => exact congrFun (ho 13 (by decide)) 4
    | 3 => exact congrFun (ho 18 (by decide)) 4
    | 4 => exact e302.trans (nI_1 t).symm
    | 5 => exact e303
    | 6 => exact congrFun (ho 23 (by decide)) 1
    | 7 => exact congrFun (ho 45 (by decide)) 5
    | 8 => exact congrFun (ho 46 (by decide)) 2
    | 9 => exact congrFun (ho 45 (by decide)) 3
    | 10 => exact congrFun (ho 49 (by decide)) 4
    | 11 => exact congrFun (ho 45 (by decide)) 4
    | n + 12 => exact rfl
  | 30 => exact x30
  | 31 => exact x31
  | n + 32 => rfl
theorem Inv_clr {E : IM} (h : Inv E) : Inv (clr E) := by
  have r : ∀ a, a ≠ 29 → a ≠ 18 → clr E a = E a := fun a h1 h2 => by unfold clr; rw [upr_n _ _ h2, up2_n _ _ _ h1]
  have q : ∀ j, j ≠ 6 → clr E 29 j = E 29 j := fun j hj => by unfold clr; rw [upr_n _ _ (by decide), up2_s, up1_n _ _ hj]
  have q6 : clr E 29 6 = 0 := by unfold clr; rw [upr_n _ _ (by decide), up2_s, up1_s]
  refine Inv.mk' (h.a.to (q _ (by omega)) (fun a _ _ => r a (by omega) (by omega))) (h.b.to (q _ (by omega)) (fun a _ _ => r a (by omega) (by omega))) (h.c.to (q _ (by omega)) (q _ (by omega)) (fun a _ _ => r a (by omega) (by omega))) (h.d.to (q _ (by omega)) (r _ (by omega) (by omega)) (r _ (by omega) (by omega))) (h.f.to (q _ (by omega)) (q _ (by omega))) ?_ (h.h.to (fun j _ => q j (by omega)) (q _ (by omega)) (q _ (by omega)) (q _ (by omega)) (fun a _ _ => r a (by omega) (by omega))) (h.s.to (r _ (by omega) (by omega)) (r _ (by omega) (by omega))) (h.z.to (r _ (by omega) (by omega)) (r _ (by omega) (by omega)) (r _ (by omega) (by omega)) (r _ (by omega) (by omega)))
  have e : zN (clr E) = 0 := by unfold zN; rw [q6]; rfl
  unfold iG
  rw [e, q6]
  exact ⟨rfl, by omega, fun i hi => absurd hi (Nat.not_lt_zero i)⟩
theorem wfC_nil {C : List Int32} (h : wfC C) : wfR C 0 = some 1 := by
  have := h [] 0
  rw [List.append_nil] at this
  rw [this, wfR]
theorem getD_l {a b : List Int32} {i : Nat} (h : i < a.length) : (a ++ b).getD i 0 = a.getD i 0 := by
  rw [List.getD_eq_getElem?_getD, List.getD_eq_getElem?_getD, List.getElem?_append_left h]
theorem getD_r {a b : List Int32} {i : Nat} : (a ++ b).getD (a.length + i) 0 = b.getD i 0 := by
  rw [List.getD_eq_getElem?_getD, List.getD_eq_getElem?_getD, List.getElem?_append_right (by omega), Nat.add_sub_cancel_left]
theorem map_getD {C L : List Int32} {n k : Nat} (h : ∀ i, i < n → L.getD (k + i) 0 = C.getD i 0) (hn : C.length = n) : (List.range n).map (fun i => L.getD (k + i) 0) = C := by
  apply List.ext_getElem
  · simp [hn]
  · intro i h1 h2
    simp at h1
    have := h i h1
    simp only [List.getElem_map, List.getElem_range]
    rw [this, List.getD_eq_getElem?_getD, List.getElem?_eq_getElem h2]
    rfl
theorem Inv_addT {E : IM} (h : Inv E) {a b c : List Int32} (h6 : tN E < 6) (hn : a.length + b.length + c.length ≤ 160) (wa : wfC a) (wb : wfC b) (wc : wfC c) : Inv (addT E (tN E) a b c) := by
  obtain ⟨d1, d2, d3, d4⟩ := h.d
  generalize ht : tN E = t at *
  have r : ∀ x, x ≠ 29 → x ≠ 30 → x ≠ 31 → addT E t a b c x = E x := fun x h1 h2 h3 => by unfold addT; rw [up2_n _ _ _ h1, upr_n _ _ h3, upr_n _ _ h2]
  have q : ∀ j, j ≠ 4 → addT E t a b c 29 j = E 29 j := fun j hj => by unfold addT; rw [up2_s, up1_n _ _ hj, upr_n _ _ (by decide), upr_n _ _ (by decide)]
  have q4 : addT E t a b c 29 4 = nI (t + 1) := by unfold addT; rw [up2_s, up1_s, nI_1]
  have e : tN (addT E t a b c) = t + 1 := by unfold tN; rw [q4, cl_nI (by omega)]
  have r30 : ∀ j, addT E t a b c 30 j = if j / 4 = t then txA a b c (j % 4) else E 30 j := fun j => by unfold addT; simp only [up2_n, up2_s, ne_eq, Nat.reduceEqDiff, not_false_eq_true, upr_n, upr_s]
  have r31 : ∀ j, addT E t a b c 31 j = if j / 200 = t ∧ j % 200 < a.length + b.length + c.length then (a ++ b ++ c).getD (j % 200) 0 else E 31 j := fun j => by unfold addT; simp only [up2_n, up2_s, ne_eq, Nat.reduceEqDiff, not_false_eq_true, upr_s]
  refine Inv.mk' (h.a.to (q _ (by omega)) (fun a _ _ => r a (by omega) (by omega) (by omega))) (h.b.to (q _ (by omega)) (fun a _ _ => r a (by omega) (by omega) (by omega))) (h.c.to (q _ (by omega)) (q _ (by omega)) (fun a _ _ => r a (by omega) (by omega) (by omega))) ?_ ?_ (h.g.to (q _ (by omega)) (r _ (by omega) (by omega) (by omega))) ?_ (h.s.to (r _ (by omega) (by omega) (by omega)) (r _ (by omega) (by omega) (by omega))) (h.z.to (r _ (by omega) (by omega) (by omega)) (r _ (by omega) (by omega) (by omega)) (r _ (by omega) (by omega) (by omega)) (r _ (by omega) (by omega) (by omega)))
  · unfold iD
    rw [e]
    refine ⟨q4, by omega, by omega, fun x hx => ?_⟩
    by_cases hxt : x = t
    · subst hxt
      have s : ∀ j, j < 4 → addT E x a b c 30 (4 * x + j) = txA a b c j := fun j hj => by
        rw [r30, if_pos (by omega)]
        congr 1
        omega
      have s0 : sA (addT E x a b c) x 0 = 0 := by unfold sA; rw [s 0 (by omega)]; rfl
      have s1 : sA (addT E x a b c) x 1 = a.length := by unfold sA; rw [s 1 (by omega)]; exact cl_nI (by omega)
      have s2 : sA (addT E x a b c) x 2 = a.length + b.length := by unfold sA; rw [s 2 (by omega)]; exact cl_nI (by omega)
      have s3 : sA (addT E x a b c) x 3 = a.length + b.length + c.length := by unfold sA; rw [s 3 (by omega)]; exact cl_nI (by omega)
      have hseg : ∀ k n, k + n ≤ a.length + b.length + c.length → seg (addT E x a b c) x k (k + n) = (List.range n).map (fun i => (a ++ b ++ c).getD (k + i) 0) := by
        intro k n hkn
        unfold seg
        rw [show k + n - k = n by omega]
        refine List.map_congr_left fun i hi => ?_
        have hi := List.mem_range.mp hi
        rw [r31, if_pos ⟨by omega, by omega⟩]
        congr 1
        omega
      refine ⟨fun j hj => ?_, s0, by omega, by omega, by omega, by omega, fun j hj => ?_⟩
      · rw [s j hj]
        rcases (show j = 0 ∨ j = 1 ∨ j = 2 ∨ j = 3 by omega) with rfl | rfl | rfl | rfl
        · rw [s0]; rfl
        · rw [s1]; rfl
        · rw [s2]; rfl
        · rw [s3]; rfl
      · rcases (show j = 0 ∨ j = 1 ∨ j = 2 by omega) with rfl | rfl | rfl
        · rw [s0, s1]
          have := hseg 0 a.length (by omega)
          rw [Nat.zero_add] at this
          rw [this, map_getD (C := a) (fun i hi => ?_) rfl]
          · exact wfC_nil wa
          · simp [List.getD_eq_getElem?_getD, List.getElem?_append_left hi]
        · rw [s1, s2, hseg a.length b.length (by omega), map_getD (C := b) (fun i hi => ?_) rfl]
          · exact wfC_nil wb
          · rw [List.append_assoc, getD_r, getD_l hi]
        · rw [s2, s3, hseg (a.length + b.length) c.length (by omega), map_getD (C := c) (fun i hi => ?_) rfl]
          · exact wfC_nil wc
          · rw [show a.length + b.length = (a ++ b).length by simp, getD_r]
    · obtain ⟨t1, t2, t3, t4, t5, t6, t7⟩ := d4 x (by omega)
      have s : ∀ j, j < 4 → addT E t a b c 30 (4 * x + j) = E 30 (4 * x + j) := fun j hj => by rw [r30, if_neg (by omega)]
      have sa : ∀ j, j < 4 → sA (addT E t a b c) x j = sA E x j := fun j hj => by unfold sA; rw [s j hj]
      have hseg : ∀ j, j < 3 → seg (addT E t a b c) x (sA E x j) (sA E x (j + 1)) = seg E x (sA E x j) (sA E x (j + 1)) := by
        intro j hj
        unfold seg
        refine List.map_congr_left fun i hi => ?_
        have hi := List.mem_range.mp hi
        have : sA E x (j + 1) ≤ 160 := by
          rcases (show j = 0 ∨ j = 1 ∨ j = 2 by omega) with rfl | rfl | rfl <;> simp only [Nat.zero_add, Nat.reduceAdd] <;> omega
        rw [r31, if_neg (fun z => by omega)]
      refine ⟨fun j hj => by rw [s j hj, sa j hj]; exact t1 j hj, by rw [sa 0 (by omega)]; exact t2, by rw [sa 0 (by omega), sa 1 (by omega)]; exact t3, by rw [sa 1 (by omega), sa 2 (by omega)]; exact t4, by rw [sa 2 (by omega), sa 3 (by omega)]; exact t5, by rw [sa 3 (by omega)]; exact t6, fun j hj => ?_⟩
      rw [sa j (by omega), sa (j + 1) (by omega), hseg j hj]
      exact t7 j hj
  · obtain ⟨f1, f2⟩ := h.f
    unfold iF wN
    rw [e, q 5 (by omega)]
    rw [ht] at f2
    exact ⟨f1, Nat.lt_succ_of_lt f2⟩
  · obtain ⟨b1, b2, b3, ⟨w, hw, b4⟩⟩ := h.h
    unfold iH pN qN
    rw [e, q 7 (by omega), q 9 (by omega), q 10 (by omega), q 11 (by omega), q 1 (by omega), q 2 (by omega), r 21 (by omega) (by omega) (by omega), r 22 (by omega) (by omega) (by omega), r 23 (by omega) (by omega) (by omega), r 24 (by omega) (by omega) (by omega), r 25 (by omega) (by omega) (by omega)]
    rw [ht] at hw
    exact ⟨b1, b2, b3, ⟨w, Nat.lt_succ_of_lt hw, b4⟩⟩
theorem clr_addT (E : IM) (t : Nat) (a b c : List Int32) : clr (addT E t a b c) = addT (clr E) t a b c := by
  have r : ∀ E : IM, ∀ x, x ≠ 29 → x ≠ 18 → clr E x = E x := fun E x h1 h2 => by unfold clr; rw [upr_n _ _ h2, up2_n _ _ _ h1]
  have r2 : ∀ E : IM, ∀ x, x ≠ 29 → x ≠ 30 → x ≠ 31 → addT E t a b c x = E x := fun E x h1 h2 h3 => by unfold addT; rw [up2_n _ _ _ h1, upr_n _ _ h3, upr_n _ _ h2]
  funext x
  by_cases h29 : x = 29
  · subst h29
    funext j
    unfold clr addT
    rw [upr_n _ _ (by decide), up2_s, up2_s, up2_s, upr_n _ _ (by decide), upr_n _ _ (by decide), upr_n _ _ (by decide), upr_n _ _ (by decide), upr_n _ _ (by decide), up2_s]
    by_cases h6 : j = 6
    · subst h6
      rw [up1_s, up1_n _ _ (by decide), up1_s]
    · rw [up1_n _ _ h6]
      by_cases h4 : j = 4
      · subst h4
        rw [up1_s, up1_s]
      · rw [up1_n _ _ h4, up1_n _ _ h4, up1_n _ _ h6]
  · by_cases h18 : x = 18
    · subst h18
      rw [r2 _ 18 (by decide) (by decide) (by decide)]
      unfold clr
      rw [upr_s, upr_s]
    · rw [r _ x h29 h18]
      by_cases h30 : x = 30
      · subst h30
        unfold addT
        simp only [up2_n, up2_s, ne_eq, Nat.reduceEqDiff, not_false_eq_true, upr_n, upr_s]
        rw [r E 30 (by decide) (by decide)]
      · by_cases h31 : x = 31
        · subst h31
          unfold addT
          simp only [up2_n, up2_s, ne_eq, Nat.reduceEqDiff, not_false_eq_true, upr_s]
          rw [r E 31 (by decide) (by decide)]
        · rw [r2 _ x h29 h30 h31, r2 _ x h29 h30 h31, r _ x h29 h18]
def sp_W_text : SpT := fun as S I L Post => as = .ref 0 :: [] ∧ S = S1 ∧ cOk I ∧ ∀ I' : IM, (∀ k, 59 ≤ k → I' k = I k) → cE I' = textU (cE I) → Inv (textU (cE I)) → Post (some (.int (textS (cE I)))) S1 I' L
set_option maxHeartbeats 4000000 in
set_option maxRecDepth 100000 in
theorem c_W_text : Con mW_text 82 0 0 sp_W_text := by
  refine con_of_X rfl fun G as S I L Post hs => ?_
  obtain ⟨rfl, rfl, hok, h1⟩ := hs
  refine ⟨1, Nat.le_of_ble_eq_true rfl, ?_⟩
  show X mW_text G _ S1 I L 0 [.ref 0, .null] [] Post
  obtain ⟨t1, t2, t3, t4⟩ := hok.2.2.2.1
  have hz : I 23 1 = nI (zN (cE I)) := hok.2.2.2.2.2.1.1
  have hz2 : zN (cE I) ≤ 160 := hok.2.2.2.2.2.1.2.1
  have t1' : I 30 2 = nI (tN (cE I)) := t1
  refine x_aload_n dW_text_0 rfl ?_
  refine x_getR fl_W_47 rfl dW_text_1 rfl rfl rfl ?_
  refine x_getI fl_W_126 rfl dW_text_4 rfl rfl ?_
  refine x_bipush (v := 6) dW_text_7 rfl ?_
  -- at 9: .if_icmp .lt 6
  refine x_icmp_lt (tgt := 15) dW_text_9 (by decide) (fun c1 => ?_) (fun c1 => ?_)
  · have c1 : cE I 29 4 < 6 := c1
    rw [textS, textU, if_neg (not_not_intro c1), if_neg (not_not_intro c1), txR_eq] at h1
    rw [t1] at c1
    have h6 : tN (cE I) < 6 := (nI_ltI (b := 6) (by omega) (by omega)).mp c1
    have fin : ∀ (v : Int32) (I2 : IM), (∀ k, 59 ≤ k → I2 k = I k) → (∀ I' : IM, (∀ k, 59 ≤ k → I' k = I k) → cE I' = clr (cE I2) → Post (some (.int v)) S1 I' L) → X mW_text G (82, 0, 0) S1 I2 L 49 [.ref 0, .null] [.int v] Post := by
      intro v I2 st hp
      refine x_istoren_1 dW_text_49 rfl rfl ?_
      refine x_aload_n dW_text_50 rfl ?_
      refine x_getR fl_W_40 rfl dW_text_51 rfl rfl rfl ?_
      -- at 54: .invokevirtual 98
      refine x_callV_0 c_Reader_clear ok_Reader_clear ml_W_98 dW_text_54 rfl rfl rfl rfl rfl ?_
      refine ⟨rfl, rfl, ?_⟩
      refine x_iload_n dW_text_57 rfl ?_
      -- at 58: .ireturn
      refine x_ireturn dW_text_58 rfl rfl ?_
      exact hp _ (fun k hk => by rw [up2_n _ _ _ (by omega)]; exact st k hk) (cE_clr I2)
    refine x_aload_n dW_text_15 rfl ?_
    refine x_getR fl_W_40 rfl dW_text_16 rfl rfl rfl ?_
    -- at 19: .invokevirtual 90
    refine x_callV_0 c_Reader_reads ok_Reader_reads ml_W_90 dW_text_19 rfl rfl rfl rfl rfl ?_
    refine ⟨zN (cE I), rfl, rfl, hz, hz2, fun a b c hr I2 hF hs st hc hn wa wb wc => ?_, fun p hr I2 j hF hs hj hj2 hp => ?_⟩
    · rw [hr] at h1
      have eE : cE I2 = cE I := cE_rd hF hs
      have et : I2 30 2 = nI (tN (cE I)) := by rw [hF 30 (by decide)]; exact t1
      refine x_if_eq (tgt := 39) dW_text_22 (by decide) (fun h => absurd h (by decide)) (fun _ => ?_)
      refine x_aload_n dW_text_25 rfl ?_
      refine x_getR fl_W_47 rfl dW_text_26 rfl rfl rfl ?_
      refine x_aload_n dW_text_29 rfl ?_
      refine x_getR fl_W_40 rfl dW_text_30 rfl rfl rfl ?_
      -- at 33: .invokevirtual 94
      refine x_callV_1 c_Texts_add ok_Texts_add ml_W_94 dW_text_33 rfl rfl rfl rfl rfl ?_
      refine ⟨tN (cE I), rfl, rfl, et, h6, ?_⟩
      refine x_goto (tgt := 49) dW_text_36 (by decide) ?_
      -- at 49: .istore_n 1
      refine fin _ _ (fun k hk => ?_) (fun I' st' e' => ?_)
      · unfold taU
        rw [up2_n _ _ _ (by omega), upr_n _ _ (by omega), upr_n _ _ (by omega)]
        exact hF k (by simp; omega)
      · rw [cE_taU I2 (tN (cE I)) a b c et h6 st hc hn (fun q hq => ?_), eE] at e'
        · have := h1 I' st' ?_ ?_
          · rw [show txAns (cE I) (.inr (a, b, c)) = nI (tN (cE I)) from t1] at this
            exact this
          · rw [e', clr_addT]
            rfl
          · refine Inv_addT (E := clr (cE I)) (Inv_clr hok) ?_ hn wa wb wc
            have e4 : tN (clr (cE I)) = tN (cE I) := by unfold tN clr; rw [upr_n _ _ (by decide), up2_s, up1_n _ _ (by decide)]
            rw [e4]
            exact h6
        · obtain ⟨-, -, -, -, -, u6, -⟩ := t4 q hq
          have e3 : cE I 30 (4 * q + 3) = I 32 (4 * q + 3) := mk_lt (by
            have : tN (cE I) = cl (I 30 2) := rfl
            omega)
          rw [hF 32 (by decide)]
          unfold sA at u6
          rw [e3] at u6
          exact u6
    · rw [hr] at h1
      have eE : cE I2 = cE I := cE_rd hF hs
      refine x_if_eq (tgt := 39) dW_text_22 (by decide) (fun _ => ?_) (fun h => absurd (by decide) h)
      refine x_bipush (v := -100) dW_text_39 rfl ?_
      refine x_aload_n dW_text_41 rfl ?_
      refine x_getR fl_W_40 rfl dW_text_42 rfl rfl rfl ?_
      -- at 45: .invokevirtual 137
      refine x_callV_0 c_Reader_fault ok_Reader_fault ml_W_137 dW_text_45 rfl rfl rfl rfl rfl ?_
      refine ⟨j, rfl, rfl, hj, hj2, ?_⟩
      rw [hp]
      refine x_isub dW_text_48 ?_
      -- at 49: .istore_n 1
      refine fin _ _ (fun k hk => hF k (by simp; omega)) (fun I' st' e' => ?_)
      rw [eE] at e'
      exact h1 I' st' e' (Inv_clr hok)
  · have c1 : ¬ cE I 29 4 < 6 := c1
    rw [textS, textU, if_pos c1, if_pos c1] at h1
    refine x_bipush (v := -4) dW_text_12 rfl ?_
    -- at 14: .ireturn
    refine x_ireturn dW_text_14 rfl rfl ?_
    exact h1 I (fun _ _ => rfl) rfl hok
abbrev feC (n a b c d e : Int32) : Prop := inR n 1 5 ∧ inR a 0 255 ∧ inR b 0 255 ∧ inR c 0 255 ∧ inR d 0 255 ∧ inR e 0 255
def fePk (a b c d e : Int32) (k : Nat) : Int32 := if k = 0 then a else if k = 1 then b else if k = 2 then c else if k = 3 then d else e
def feA (E : IM) (z n : Nat) (a b c d e : Int32) : IM := upr (up2 E 29 6 (nI (z + n))) 18 (fun j => if z ≤ j ∧ j < z + n then fePk a b c d e (j - z) else E 18 j)
def feedS (E : IM) (n a b c d e : Int32) : Int32 := if ¬ feC n a b c d e then -2 else if 160 < E 29 6 + n then -4 else E 29 6 + n
def feedU (E : IM) (n a b c d e : Int32) : IM := if ¬ feC n a b c d e then E else if 160 < E 29 6 + n then E else feA E (zN E) (cl n) a b c d e
theorem n15 {n : Int32} (h : inR n 1 5) : ∃ k, 1 ≤ k ∧ k ≤ 5 ∧ n = nI k := by
  obtain ⟨k, hk, e⟩ := inR_of (n := 5) (by decide) (show inR n 0 5 from ⟨Int32.le_trans (by decide) h.1, h.2⟩)
  refine ⟨k, ?_, hk, e⟩
  by_cases h0 : k = 0
  · subst h0
    rw [e] at h
    exact absurd h.1 (by decide)
  · omega
theorem Inv_feed {E : IM} (h : Inv E) (n a b c d e : Int32) : Inv (feedU E n a b c d e) := by
  unfold feedU
  split
  · exact h
  · split
    · exact h
    · rename_i h1 h2
      obtain ⟨g0, g1, g2, g3, g4, g5⟩ := Classical.not_not.mp h1
      obtain ⟨k, hk1, hk5, rfl⟩ := n15 g0
      obtain ⟨z1, z2, z3⟩ := h.g
      rw [z1, nI_add] at h2
      have hz : zN E + k ≤ 160 := by
        by_cases y : zN E + k ≤ 160
        · exact y
        · exact absurd ((nI_ltI (a := 160) (by omega) (by omega)).mpr (by omega)) h2
      rw [cl_nI (by omega)]
      generalize hJ : feA E (zN E) k a b c d e = J
      have r : ∀ x, x ≠ 29 → x ≠ 18 → J x = E x := fun x h1 h2 => by rw [← hJ]; unfold feA; rw [upr_n _ _ h2, up2_n _ _ _ h1]
      have q : ∀ j, j ≠ 6 → J 29 j = E 29 j := fun j hj => by rw [← hJ]; unfold feA; rw [upr_n _ _ (by decide), up2_s, up1_n _ _ hj]
      have q6 : J 29 6 = nI (zN E + k) := by rw [← hJ]; unfold feA; rw [upr_n _ _ (by decide), up2_s, up1_s]
      have r18 : ∀ j, J 18 j = if zN E ≤ j ∧ j < zN E + k then fePk a b c d e (j - zN E) else E 18 j := fun j => by rw [← hJ]; unfold feA; rw [upr_s]
      refine Inv.mk' (h.a.to (q _ (by omega)) (fun a _ _ => r a (by omega) (by omega))) (h.b.to (q _ (by omega)) (fun a _ _ => r a (by omega) (by omega))) (h.c.to (q _ (by omega)) (q _ (by omega)) (fun a _ _ => r a (by omega) (by omega))) (h.d.to (q _ (by omega)) (r _ (by omega) (by omega)) (r _ (by omega) (by omega))) (h.f.to (q _ (by omega)) (q _ (by omega))) ?_ (h.h.to (fun j _ => q j (by omega)) (q _ (by omega)) (q _ (by omega)) (q _ (by omega)) (fun a _ _ => r a (by omega) (by omega))) (h.s.to (r _ (by omega) (by omega)) (r _ (by omega) (by omega))) (h.z.to (r _ (by omega) (by omega)) (r _ (by omega) (by omega)) (r _ (by omega) (by omega)) (r _ (by omega) (by omega)))
      have ez : zN J = zN E + k := by
        show cl (J 29 6) = _
        rw [q6, cl_nI (by omega)]
      unfold iG
      rw [ez]
      refine ⟨q6, hz, fun i hi => ?_⟩
      rw [r18]
      split
      · unfold fePk
        split
        · exact rng_inR (n := 255) (by decide) g1
        · split
          · exact rng_inR (n := 255) (by decide) g2
          · split
            · exact rng_inR (n := 255) (by decide) g3
            · split
              · exact rng_inR (n := 255) (by decide) g4
              · exact rng_inR (n := 255) (by decide) g5
      · exact z3 i (by omega)
def sp_W_feed : SpT := fun as S I L Post => ∃ n a b c d e : Int32, cSp [.int n, .int a, .int b, .int c, .int d, .int e] (fun E => .int (feedS E n a b c d e)) (fun E => feedU E n a b c d e) as S I L Post
set_option maxHeartbeats 4000000 in
set_option maxRecDepth 100000 in
theorem c_W_feed : Con mW_feed 4 0 0 sp_W_feed := by
  refine con_of_X rfl fun G as S I0 L Post hs => ?_
  obtain ⟨n, a, b, c, d, e, rfl, rfl, hok, h1⟩ := hs
  dsimp only at h1
  refine ⟨1, Nat.le_of_ble_eq_true rfl, ?_⟩
  show X mW_feed G _ S1 I0 L 0 [.ref 0, .int n, .int a, .int b, .int c, .int d, .int e, .null] [] Post
  have hz : I0 23 1 = nI (zN (cE I0)) := hok.2.2.2.2.2.1.1
  have hz2 : zN (cE I0) ≤ 160 := hok.2.2.2.2.2.1.2.1
  have bad : ¬ feC n a b c d e → X mW_feed G (4, 0, 0) S1 I0 L 47 [.ref 0, .int n, .int a, .int b, .int c, .int d, .int e, .null] [] Post := by
    intro hc
    rw [feedS, feedU, if_pos hc, if_pos hc] at h1
    refine x_bipush (v := -2) dW_feed_47 rfl ?_
    -- at 49: .ireturn
    refine x_ireturn dW_feed_49 rfl rfl ?_
    exact h1 I0 (fun _ _ => rfl) rfl
  refine x_iload_n dW_feed_0 rfl ?_
  refine x_iconst (v := 1) dW_feed_1 rfl ?_
  refine x_iconst (v := 5) dW_feed_2 rfl ?_
  -- at 3: .invokestatic 101
  refine x_callS_3 c_W_within ok_W_within ml_W_101 dW_feed_3 rfl rfl ?_
  refine ⟨_, _, _, rfl, fun g0 => ?_, fun g0 => ?_⟩
  · refine x_if_eq (tgt := 47) dW_feed_6 (by decide) (fun h => absurd h (by decide)) (fun _ => ?_)
    refine x_iload_n dW_feed_9 rfl ?_
    -- at 10: .invokestatic 133
    refine x_callS_1 c_W_isByte ok_W_isByte ml_W_133 dW_feed_10 rfl rfl ?_
    refine ⟨_, rfl, fun g1 => ?_, fun g1 => ?_⟩
    · refine x_if_eq (tgt := 47) dW_feed_13 (by decide) (fun h => absurd h (by decide)) (fun _ => ?_)
      refine x_iload_n dW_feed_16 rfl ?_
      -- at 17: .invokestatic 133
      refine x_callS_1 c_W_isByte ok_W_isByte ml_W_133 dW_feed_17 rfl rfl ?_
      refine ⟨_, rfl, fun g2 => ?_, fun g2 => ?_⟩
      · refine x_if_eq (tgt := 47) dW_feed_20 (by decide) (fun h => absurd h (by decide)) (fun _ => ?_)
        refine x_iload dW_feed_23 rfl ?_
        -- at 25: .invokestatic 133
        refine x_callS_1 c_W_isByte ok_W_isByte ml_W_133 dW_feed_25 rfl rfl ?_
        refine ⟨_, rfl, fun g3 => ?_, fun g3 => ?_⟩
        · refine x_if_eq (tgt := 47) dW_feed_28 (by decide) (fun h => absurd h (by decide)) (fun _ => ?_)
          refine x_iload dW_feed_31 rfl ?_
          -- at 33: .invokestatic 133
          refine x_callS_1 c_W_isByte ok_W_isByte ml_W_133 dW_feed_33 rfl rfl ?_
          refine ⟨_, rfl, fun g4 => ?_, fun g4 => ?_⟩
          · refine x_if_eq (tgt := 47) dW_feed_36 (by decide) (fun h => absurd h (by decide)) (fun _ => ?_)
            refine x_iload dW_feed_39 rfl ?_
            -- at 41: .invokestatic 133
            refine x_callS_1 c_W_isByte ok_W_isByte ml_W_133 dW_feed_41 rfl rfl ?_
            refine ⟨_, rfl, fun g5 => ?_, fun g5 => ?_⟩
            · refine x_if_ne (tgt := 50) dW_feed_44 (by decide) (fun _ => ?_) (fun h => absurd h (by decide))
              have hc : feC n a b c d e := ⟨g0, g1, g2, g3, g4, g5⟩
              rw [feedS, feedU, if_neg (not_not_intro hc), if_neg (not_not_intro hc)] at h1
              obtain ⟨k, hk1, hk5, rfl⟩ := n15 g0
              rw [show cE I0 29 6 = nI (zN (cE I0)) from hz, nI_add, cl_nI (by omega)] at h1
              refine x_aload_n dW_feed_50 rfl ?_
              refine x_getR fl_W_40 rfl dW_feed_51 rfl rfl rfl ?_
              refine x_getI fl_W_130 rfl dW_feed_54 rfl rfl ?_
              refine x_iload_n dW_feed_57 rfl ?_
              refine x_iadd dW_feed_58 ?_
              -- at 59: .sipush 160
              rw [hz]
              refine x_eqi (y := nI (zN (cE I0) + k)) (nI_add _ _) ?_
              refine x_sipush (v := 160) dW_feed_59 rfl ?_
              -- at 62: .if_icmp .le 6
              by_cases h160 : zN (cE I0) + k ≤ 160
              · have hl : ¬ (160 : Int32) < nI (zN (cE I0) + k) := Int32.not_lt.mpr (nI_le (b := 160) h160 (by omega))
                rw [if_neg hl, if_neg hl] at h1
                refine x_icmp_le (tgt := 68) dW_feed_62 (by decide) (fun _ => ?_) (fun h => absurd (nI_le (b := 160) h160 (by omega)) h)
                refine x_iconst (v := 0) dW_feed_68 rfl ?_
                refine x_istore_7 dW_feed_69 rfl rfl ?_
                -- at 71: .iload 7
                have loop : ∀ (m i : Nat) (I : IM), i + m = k → Fr [23, 24] I0 I → (∀ q, q ≠ 1 → I 23 q = I0 23 q) → I 23 1 = nI (zN (cE I0) + i) → (∀ j, I 24 j = if zN (cE I0) ≤ j ∧ j < zN (cE I0) + i then fePk a b c d e (j - zN (cE I0)) else I0 24 j) →
                    X mW_feed G (4, 0, 0) S1 I L 71 [.ref 0, .int (nI k), .int a, .int b, .int c, .int d, .int e, .int (nI i)] [] Post := by
                  intro m
                  induction m with
                  | zero =>
                    intro i I hi hF hs hsz ht
                    obtain rfl : i = k := by omega
                    refine x_iload dW_feed_71 rfl ?_
                    refine x_iload_n dW_feed_73 rfl ?_
                    -- at 74: .if_icmp .ge 59
                    refine x_icmp_ge (tgt := 133) dW_feed_74 (by decide) (fun _ => ?_) (fun h => absurd (Int32.le_refl _) h)
                    refine x_aload_n dW_feed_133 rfl ?_
                    refine x_getR fl_W_40 rfl dW_feed_134 rfl rfl rfl ?_
                    refine x_getI fl_W_130 rfl dW_feed_137 rfl rfl ?_
                    -- at 140: .ireturn
                    rw [hsz]
                    refine x_ireturn dW_feed_140 rfl rfl ?_
                    refine h1 I (fun j hj => hF j (by simp; omega)) ?_
                    have e1 : cE I = cE (up2 (upr I0 24 (I 24)) 23 1 (nI (zN (cE I0) + i))) := by
                      congr 1
                      funext q
                      by_cases y : q = 23
                      · subst y
                        rw [up2_s, upr_n _ _ (by decide)]
                        funext j
                        by_cases y2 : j = 1
                        · subst y2; rw [up1_s, hsz]
                        · rw [up1_n _ _ y2, hs j y2]
                      · rw [up2_n _ _ _ y]
                        by_cases y2 : q = 24
                        · subst y2; rw [upr_s]
                        · rw [upr_n _ _ y2]
                          exact hF q (by simp [y, y2])
                    rw [e1, cE_n6, cE_18, upr_s, cl_nI (by omega)]
                    unfold feA
                    funext q
                    by_cases y : q = 18
                    · subst y
                      rw [upr_s, upr_s]
                      funext j
                      unfold mk
                      rw [ht]
                      by_cases y2 : j < zN (cE I0) + i
                      · rw [if_pos y2]
                        by_cases y3 : zN (cE I0) ≤ j
                        · rw [if_pos ⟨y3, y2⟩, if_pos ⟨y3, y2⟩]
                        · rw [if_neg (fun z => y3 z.1), if_neg (fun z => y3 z.1)]
                          exact (mk_lt (show j < cl (I0 23 1) by rw [hz, cl_nI (by omega)]; omega)).symm
                      · rw [if_neg y2, if_neg (fun z => y2 z.2)]
                        show 0 = mk (cl (I0 23 1)) (I0 24) j
                        rw [hz, cl_nI (by omega)]
                        unfold mk
                        rw [if_neg (by omega)]
                    · rw [upr_n _ _ y, upr_n _ _ y]
                      by_cases y2 : q = 29
                      · subst y2
                        rw [up2_s, up2_s, upr_n _ _ (by decide)]
                      · rw [up2_n _ _ _ y2, up2_n _ _ _ y2, upr_n _ _ y]
                  | succ m ih =>
                    intro i I hi hF hs hsz ht
                    have put : ∀ x : Int32, x = fePk a b c d e i → X mW_feed G (4, 0, 0) S1 I L 124 [.ref 0, .int (nI k), .int a, .int b, .int c, .int d, .int e, .int (nI i)] [.int x, .ref 23] Post := by
                      intro x hx
                      refine x_callV_1 c_Reader_put ok_Reader_put ml_W_86 dW_feed_124 rfl rfl rfl rfl rfl ?_
                      refine ⟨zN (cE I0) + i, x, rfl, rfl, hsz, by omega, ?_⟩
                      refine x_iincp_7 dW_feed_127 rfl rfl ?_
                      refine x_goto (tgt := 71) dW_feed_130 (by decide) ?_
                      -- at 71: .iload 7
                      rw [nI_1]
                      refine ih (i + 1) _ (by omega) ((hF.up (by decide) _ _).up (by decide) _ _) (fun q hq => ?_) ?_ (fun j => ?_)
                      · rw [up2_s, up1_n _ _ hq, up2_n _ _ _ (by decide)]
                        exact hs q hq
                      · rw [up2_s, up1_s]
                        rfl
                      · rw [up2_n _ _ _ (by decide), up2_s]
                        by_cases y : j = zN (cE I0) + i
                        · subst y
                          rw [up1_s, if_pos ⟨by omega, by omega⟩, hx]
                          congr 1
                          omega
                        · rw [up1_n _ _ y, ht]
                          by_cases y2 : zN (cE I0) ≤ j ∧ j < zN (cE I0) + i
                          · rw [if_pos y2, if_pos ⟨y2.1, by omega⟩]
                          · rw [if_neg y2, if_neg (fun z => y2 ⟨z.1, by omega⟩)]
                    refine x_iload dW_feed_71 rfl ?_
                    refine x_iload_n dW_feed_73 rfl ?_
                    -- at 74: .if_icmp .ge 59
                    refine x_icmp_ge (tgt := 133) dW_feed_74 (by decide) (fun h => absurd h (nI_ge (by omega) (by omega))) (fun _ => ?_)
                    refine x_aload_n dW_feed_77 rfl ?_
                    refine x_getR fl_W_40 rfl dW_feed_78 rfl rfl rfl ?_
                    refine x_iload dW_feed_81 rfl ?_
                    -- at 83: .ifCond .ne 7
                    rcases (show i = 0 ∨ i = 1 ∨ i = 2 ∨ i = 3 ∨ i = 4 by omega) with rfl | rfl | rfl | rfl | rfl
                    · refine x_if_ne (tgt := 90) dW_feed_83 (by decide) (fun h => absurd rfl h) (fun _ => ?_)
                      refine x_iload_n dW_feed_86 rfl ?_
                      refine x_goto (tgt := 124) dW_feed_87 (by decide) ?_
                      -- at 124: .invokevirtual 86
                      exact put a rfl
                    · refine x_if_ne (tgt := 90) dW_feed_83 (by decide) (fun _ => ?_) (fun h => absurd h (by decide))
                      refine x_iload dW_feed_90 rfl ?_
                      refine x_iconst (v := 1) dW_feed_92 rfl ?_
                      -- at 93: .if_icmp .ne 7
                      refine x_icmp_ne (tgt := 100) dW_feed_93 (by decide) (fun h => absurd rfl h) (fun _ => ?_)
                      refine x_iload_n dW_feed_96 rfl ?_
                      refine x_goto (tgt := 124) dW_feed_97 (by decide) ?_
                      -- at 124: .invokevirtual 86
                      exact put b rfl
                    · refine x_if_ne (tgt := 90) dW_feed_83 (by decide) (fun _ => ?_) (fun h => absurd h (by decide))
                      refine x_iload dW_feed_90 rfl ?_
                      refine x_iconst (v := 1) dW_feed_92 rfl ?_
                      -- at 93: .if_icmp .ne 7
                      refine x_icmp_ne (tgt := 100) dW_feed_93 (by decide) (fun _ => ?_) (fun h => absurd h (by decide))
                      refine x_iload dW_feed_100 rfl ?_
                      refine x_iconst (v := 2) dW_feed_102 rfl ?_
                      -- at 103: .if_icmp .ne 8
                      refine x_icmp_ne (tgt := 111) dW_feed_103 (by decide) (fun h => absurd rfl h) (fun _ => ?_)
                      refine x_iload dW_feed_106 rfl ?_
                      refine x_goto (tgt := 124) dW_feed_108 (by decide) ?_
                      -- at 124: .invokevirtual 86
                      exact put c rfl
                    · refine x_if_ne (tgt := 90) dW_feed_83 (by decide) (fun _ => ?_) (fun h => absurd h (by decide))
                      refine x_iload dW_feed_90 rfl ?_
                      refine x_iconst (v := 1) dW_feed_92 rfl ?_
                      -- at 93: .if_icmp .ne 7
                      refine x_icmp_ne (tgt := 100) dW_feed_93 (by decide) (fun _ => ?_) (fun h => absurd h (by decide))
                      refine x_iload dW_feed_100 rfl ?_
                      refine x_iconst (v := 2) dW_feed_102 rfl ?_
                      -- at 103: .if_icmp .ne 8
                      refine x_icmp_ne (tgt := 111) dW_feed_103 (by decide) (fun _ => ?_) (fun h => absurd h (by decide))
                      refine x_iload dW_feed_111 rfl ?_
                      refine x_iconst (v := 3) dW_feed_113 rfl ?_
                      -- at 114: .if_icmp .ne 8
                      refine x_icmp_ne (tgt := 122) dW_feed_114 (by decide) (fun h => absurd rfl h) (fun _ => ?_)
                      refine x_iload dW_feed_117 rfl ?_
                      refine x_goto (tgt := 124) dW_feed_119 (by decide) ?_
                      -- at 124: .invokevirtual 86
                      exact put d rfl
                    · refine x_if_ne (tgt := 90) dW_feed_83 (by decide) (fun _ => ?_) (fun h => absurd h (by decide))
                      refine x_iload dW_feed_90 rfl ?_
                      refine x_iconst (v := 1) dW_feed_92 rfl ?_
                      -- at 93: .if_icmp .ne 7
                      refine x_icmp_ne (tgt := 100) dW_feed_93 (by decide) (fun _ => ?_) (fun h => absurd h (by decide))
                      refine x_iload dW_feed_100 rfl ?_
                      refine x_iconst (v := 2) dW_feed_102 rfl ?_
                      -- at 103: .if_icmp .ne 8
                      refine x_icmp_ne (tgt := 111) dW_feed_103 (by decide) (fun _ => ?_) (fun h => absurd h (by decide))
                      refine x_iload dW_feed_111 rfl ?_
                      refine x_iconst (v := 3) dW_feed_113 rfl ?_
                      -- at 114: .if_icmp .ne 8
                      refine x_icmp_ne (tgt := 122) dW_feed_114 (by decide) (fun _ => ?_) (fun h => absurd h (by decide))
                      refine x_iload dW_feed_122 rfl ?_
                      -- at 124: .invokevirtual 86
                      exact put e rfl
                exact loop k 0 I0 (by omega) Fr.rfl (fun _ _ => rfl) hz (fun j => by rw [if_neg (fun z => by omega)])
              · have hl : (160 : Int32) < nI (zN (cE I0) + k) := (nI_ltI (a := 160) (by omega) (by omega)).mpr (by omega)
                rw [if_pos hl, if_pos hl] at h1
                refine x_icmp_le (tgt := 68) dW_feed_62 (by decide) (fun h => absurd h (Int32.not_le.mpr hl)) (fun _ => ?_)
                refine x_bipush (v := -4) dW_feed_65 rfl ?_
                -- at 67: .ireturn
                refine x_ireturn dW_feed_67 rfl rfl ?_
                exact h1 I0 (fun _ _ => rfl) rfl
            · refine x_if_ne (tgt := 50) dW_feed_44 (by decide) (fun h => absurd (by decide) h) (fun _ => ?_)
              exact bad (fun z => g5 z.2.2.2.2.2)
          · refine x_if_eq (tgt := 47) dW_feed_36 (by decide) (fun _ => ?_) (fun h => absurd (by decide) h)
            exact bad (fun z => g4 z.2.2.2.2.1)
        · refine x_if_eq (tgt := 47) dW_feed_28 (by decide) (fun _ => ?_) (fun h => absurd (by decide) h)
          exact bad (fun z => g3 z.2.2.2.1)
      · refine x_if_eq (tgt := 47) dW_feed_20 (by decide) (fun _ => ?_) (fun h => absurd (by decide) h)
        exact bad (fun z => g2 z.2.2.1)
    · refine x_if_eq (tgt := 47) dW_feed_13 (by decide) (fun _ => ?_) (fun h => absurd (by decide) h)
      exact bad (fun z => g1 z.2.1)
  · refine x_if_eq (tgt := 47) dW_feed_6 (by decide) (fun _ => ?_) (fun h => absurd (by decide) h)
    exact bad (fun z => g0 z.1)
