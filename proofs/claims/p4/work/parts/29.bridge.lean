/-! from the class's rows to the state -/
def prog (E : IM) (t j : Nat) : List Int32 := seg E t (sA E t j) (sA E t (j + 1))
/-- rows that speak of the same PEOPLE and SAYINGS -/
def VEq (V E : IM) (n m : Nat) : Prop := (∀ a, a ≤ 13 → a ≠ 9 → V a = E a) ∧ (∀ p, p < n → V 9 p = E 9 p) ∧ ∀ s, s < m → V 14 s = E 14 s ∧ V 15 s = E 15 s ∧ V 16 s = E 16 s ∧ V 17 s = E 17 s
theorem where_eq {V E : IM} {n m : Nat} (h : VEq V E n m) {p : Nat} (hp : p < n) (t : Int32) : whereV V p t = whereV E p t := by
  unfold whereV startV
  rw [h.1 2 (by omega) (by omega), h.1 3 (by omega) (by omega), h.1 5 (by omega) (by omega), h.2.1 p hp]
theorem hear_eq {V E : IM} {n m : Nat} (h : VEq V E n m) (P : Nat → List Int32) {s p : Nat} (hs : s < m) (hp : p < n) : hearV V P s p = hearV E P s p := by
  obtain ⟨a14, a15, a16, a17⟩ := h.2.2 s hs
  unfold hearV farV
  rw [where_eq h hp, a15, a16, a17, h.1 0 (by omega) (by omega), h.1 1 (by omega) (by omega), h.1 2 (by omega) (by omega), h.1 4 (by omega) (by omega), h.1 5 (by omega) (by omega)]
theorem CC_eq {V E : IM} {n m : Nat} (h : VEq V E n m) (P : Nat → List Int32) {s : Nat} (hs : s < m) : CC V P n s = CC E P n s :=
  bs_congr n (fun p hp => by unfold clF; rw [hear_eq h P hs hp])
theorem can_eq {V E : IM} {n m : Nat} (h : VEq V E n m) (p q : Nat) : canV V p q = canV E p q := by
  unfold canV
  rw [h.1 6 (by omega) (by omega), h.1 10 (by omega) (by omega)]
theorem share_eq {V E : IM} {n m : Nat} (h : VEq V E n m) (P : Nat → List Int32) {s : Nat} (hs : s < m) (c : Int32) (p : Nat) : shareV V P c s p = shareV E P c s p := by
  obtain ⟨a14, a15, a16, a17⟩ := h.2.2 s hs
  unfold shareV
  rw [a14, a17, can_eq h, h.1 2 (by omega) (by omega), h.1 11 (by omega) (by omega)]
theorem maxR_eq {V E : IM} {n m : Nat} (h : VEq V E n m) {D D' : Nat → Int32} {w : Int32} : ∀ k : Nat, k ≤ m → (∀ s, s < k → D s = D' s) → maxR V D w k = maxR E D' w k := by
  intro k
  induction k with
  | zero => intro _ _; rfl
  | succ j ih =>
    intro hk hD
    rw [maxR, maxR, ih (by omega) (fun s hs => hD s (by omega)), hD j (by omega), (h.2.2 j (by omega)).1]
theorem strR_eq {V E : IM} {n m : Nat} (h : VEq V E n m) (o : Nat → Int32) : ∀ k : Nat, strR V o k = strR E o k := by
  intro k
  induction k with
  | zero => rfl
  | succ j ih => rw [strR, strR, ih, strS, strS, h.1 13 (by omega) (by omega)]
theorem owes_eq {V E : IM} {n m : Nat} (h : VEq V E n m) {D D' : Nat → Nat → Int32} {nq : Nat} {w : Int32} {k : Nat} (hk : k ≤ m) (hD : ∀ p, p < n → ∀ s, s < k → D p s = D' p s) {I' : IM} (ho : OwesN V D n nq w k I') : OwesN E D' n nq w k I' := by
  intro p hp
  have h2 := ho p hp
  unfold Owes1 tot1 fin1 str1 at h2 ⊢
  rw [maxR_eq h (D' := D' p) k hk (hD p hp), strR_eq h, h.1 8 (by omega) (by omega)] at h2
  exact h2
theorem done_eq {V E : IM} {n m : Nat} (h : VEq V E n m) (k : Nat) {R R' : Nat → Nat → Int32} {q : Nat} (hR : ∀ p, p < k → R p q = R' p q) : doneV V k R q = doneV E k R' q := by
  have e : ∀ j, j ≤ k → doneA V R q j = doneA E R' q j := by
    intro j
    induction j with
    | zero => intro _; rfl
    | succ i ih => intro hj; rw [doneA, doneA, ih (by omega), can_eq h, hR i (by omega)]
  unfold doneV
  rw [e k (Nat.le_refl _), h.1 11 (by omega) (by omega)]
theorem keeps_eq {V E : IM} {n m : Nat} (h : VEq V E n m) (k : Nat) {R R' : Nat → Nat → Int32} {q : Nat} (hR : ∀ p, p < k → R p q = R' p q) : keepsV V k R q = keepsV E k R' q := by
  unfold keepsV
  rw [done_eq h k hR, h.1 11 (by omega) (by omega)]
theorem kept_eq {V E : IM} {n m : Nat} (h : VEq V E n m) (k nq : Nat) (hq : nq ≤ 8) {R R' : Nat → Nat → Int32} (hR : ∀ p, p < k → ∀ q, q < 8 → R p q = R' p q) : keptV V k nq R = keptV E k nq R' :=
  bs_congr nq (fun q hq2 => keeps_eq h k (fun p hp => hR p hp q (by omega)))
theorem worth_eq {V E : IM} {n m : Nat} (h : VEq V E n m) (k : Nat) {R R' : Nat → Nat → Int32} (hR : ∀ p, p < k → ∀ q, q < 8 → R p q = R' p q) : ∀ nq, nq ≤ 8 → worthV V k R nq = worthV E k R' nq := by
  intro nq
  induction nq with
  | zero => intro _; rfl
  | succ i ih => intro hq; rw [worthV, worthV, ih (by omega), keeps_eq h k (fun p hp => hR p hp i (by omega)), h.1 12 (by omega) (by omega)]
theorem pain_eq {V E : IM} {n m : Nat} (h : VEq V E n m) (P : Nat → List Int32) {T T' : Nat → Int32} : ∀ k, (∀ p, p < k → T p = T' p) → painA V P T k = painA E P T' k := by
  intro k
  induction k with
  | zero => intro _; rfl
  | succ i ih => intro hT; rw [painA, painA, ih (fun p hp => hT p (by omega)), painV, painV, hT i (by omega), h.1 4 (by omega) (by omega), h.1 7 (by omega) (by omega)]
theorem full_eq {V E : IM} {n m : Nat} (h : VEq V E n m) {T T' : Nat → Int32} (k : Nat) (hT : ∀ p, p < k → T p = T' p) : fullV V T k = fullV E T' k :=
  bs_congr k (fun p hp => by rw [hT p hp, h.1 8 (by omega) (by omega)])
/-- the law's programs; who hears CLEARLY; what is owed, in all, struck, BEYOND, by the first m SAYINGS but w -/
def PE (E : IM) : Nat → List Int32 := prog E (wN E)
def OE (E : IM) (P : Nat → List Int32) (C : Nat → Int32) (w : Int32) (m p : Nat) : (Nat → Int32) × Int32 × Int32 := fin1 E (DD E P C p) (qN E) w m p
def RE (E : IM) (P : Nat → List Int32) (C : Nat → Int32) (w : Int32) (m : Nat) : Nat → Nat → Int32 := fun p => (OE E P C w m p).1
def TE (E : IM) (P : Nat → List Int32) (C : Nat → Int32) (w : Int32) (m : Nat) : Nat → Int32 := fun p => tot1 E (DD E P C p) (qN E) w m p
def cOk (I : IM) : Prop := Inv (cE I)
theorem cE_pN (I : IM) : pN (cE I) = cl (I 4 8) := rfl
theorem cE_qN (I : IM) : qN (cE I) = cl (I 13 4) := rfl
theorem cE_sN (I : IM) : sN (cE I) = cl (I 18 4) := rfl
theorem cE_tN (I : IM) : tN (cE I) = cl (I 30 2) := rfl
theorem cVE (I : IM) : VEq (cV I) (cE I) (pN (cE I)) (sN (cE I)) := by
  refine ⟨fun a ha h9 => ?_, fun p hp => ?_, fun s hs => ⟨?_, ?_, ?_, ?_⟩⟩
  · rcases (show a = 0 ∨ a = 1 ∨ a = 2 ∨ a = 3 ∨ a = 4 ∨ a = 5 ∨ a = 6 ∨ a = 7 ∨ a = 8 ∨ a = 10 ∨ a = 11 ∨ a = 12 ∨ a = 13 by omega) with rfl | rfl | rfl | rfl | rfl | rfl | rfl | rfl | rfl | rfl | rfl | rfl | rfl <;> rfl
  · exact (mk_lt hp).symm
  · exact (mk_lt hs).symm
  · exact (mk_lt hs).symm
  · exact (mk_lt hs).symm
  · exact (mk_lt hs).symm
theorem cOk.ppl {I : IM} (h : cOk I) : PplOk I (pN (cE I)) := by
  obtain ⟨⟨h1, h2, h3⟩, -⟩ := h
  refine ⟨h1, h2, fun p hp => ?_⟩
  obtain ⟨a1, a2, a3, a4, a5, a6, a7, a8⟩ := h3 p hp
  refine ⟨a1, a2, a4, ?_⟩
  have e : cE I 9 p = cV I 9 p := mk_lt hp
  rw [e] at a8
  exact a8
theorem cOk.vow {I : IM} (h : cOk I) : VowOk I (qN (cE I)) := by
  obtain ⟨-, ⟨h1, h2, h3⟩, -⟩ := h
  refine ⟨h1, h2, fun j hj => ?_⟩
  obtain ⟨-, -, -, a⟩ := h3 j hj
  rcases a with e | ⟨c, hc, e⟩
  · exact Or.inl e
  · exact Or.inr ⟨c, by omega, e⟩
theorem cOk.say {I : IM} (h : cOk I) : I 18 4 = nI (sN (cE I)) ∧ sN (cE I) ≤ 10 ∧ ∀ s, s < sN (cE I) → SayV (cV I) s := by
  obtain ⟨-, ⟨-, hq8, -⟩, ⟨h1, h2, h3⟩, -⟩ := h
  refine ⟨h1, h2, fun s hs => ?_⟩
  obtain ⟨⟨q, hq, a1⟩, a2, a3, -⟩ := h3 s hs
  have e14 : cE I 14 s = cV I 14 s := mk_lt hs
  have e15 : cE I 15 s = cV I 15 s := mk_lt hs
  have e16 : cE I 16 s = cV I 16 s := mk_lt hs
  rw [e14] at a1
  rw [e15] at a2
  rw [e16] at a3
  exact ⟨⟨q, by omega, a1⟩, a2, a3⟩
theorem cOk.txt {I : IM} (h : cOk I) {t : Nat} (ht : t < tN (cE I)) : TxtC I (prog (cE I) t) t := by
  obtain ⟨-, -, -, ⟨h1, h2, h3, h4⟩, -⟩ := h
  obtain ⟨a1, a2, b0, b1, b2, a3, a4⟩ := h4 t ht
  have htt : t < cl (I 30 2) := ht
  have st : ∀ j, j < 4 → cE I 30 (4 * t + j) = I 32 (t * 4 + j) := fun j hj => by
    have e : cE I 30 (4 * t + j) = I 32 (4 * t + j) := mk_lt (by omega)
    rw [e, Nat.mul_comm]
  refine ⟨by omega, fun j hj => ⟨sA (cE I) t j, ?_, ?_, ?_, ?_, a4 j hj⟩⟩
  · rw [← st j (by omega), a1 j (by omega)]
  · rw [Nat.add_assoc, ← st (j + 1) (by omega), a1 (j + 1) (by omega)]
    have hle : sA (cE I) t j ≤ sA (cE I) t (j + 1) := by
      rcases (show j = 0 ∨ j = 1 ∨ j = 2 by omega) with rfl | rfl | rfl
      · exact b0
      · exact b1
      · exact b2
    congr 1
    simp [prog, seg]
    omega
  · have hle : sA (cE I) t (j + 1) ≤ 160 := by
      rcases (show j = 0 ∨ j = 1 ∨ j = 2 by omega) with rfl | rfl | rfl
      · exact Nat.le_trans b1 (Nat.le_trans b2 a3)
      · exact Nat.le_trans b2 a3
      · exact a3
    have hle2 : sA (cE I) t j ≤ sA (cE I) t (j + 1) := by
      rcases (show j = 0 ∨ j = 1 ∨ j = 2 by omega) with rfl | rfl | rfl
      · exact b0
      · exact b1
      · exact b2
    simp [prog, seg]
    omega
  · intro i hi
    have hi2 : i < sA (cE I) t (j + 1) - sA (cE I) t j := by simpa [prog, seg] using hi
    have hle : sA (cE I) t (j + 1) ≤ sA (cE I) t 3 := by
      rcases (show j = 0 ∨ j = 1 ∨ j = 2 by omega) with rfl | rfl | rfl
      · exact Nat.le_trans b1 b2
      · exact b2
      · exact Nat.le_refl _
    have e1 : (prog (cE I) t j).getD i 0 = cE I 31 (200 * t + (sA (cE I) t j + i)) := by
      simp [prog, seg, List.getD_eq_getElem?_getD, hi2]
    rw [e1]
    have d1 : (200 * t + (sA (cE I) t j + i)) / 200 = t := by omega
    have d2 : (200 * t + (sA (cE I) t j + i)) % 200 = sA (cE I) t j + i := by omega
    have e3 : cl (I 32 (4 * t + 3)) = sA (cE I) t 3 := by
      have e : cE I 30 (4 * t + 3) = I 32 (4 * t + 3) := mk_lt (by omega)
      rw [← e]
      rfl
    show _ = if (200 * t + (sA (cE I) t j + i)) / 200 < cl (I 30 2) ∧ (200 * t + (sA (cE I) t j + i)) % 200 < cl (I 32 (4 * ((200 * t + (sA (cE I) t j + i)) / 200) + 3)) then enc (I 31 (160 * ((200 * t + (sA (cE I) t j + i)) / 200) + (200 * t + (sA (cE I) t j + i)) % 200)) else 0
    rw [d1, d2, e3, if_pos ⟨ht, by omega⟩]
    congr 2
    omega
