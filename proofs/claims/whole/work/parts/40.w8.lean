/-! the class's calls: even, hardest -/
theorem any_eq {V E : IM} {n m : Nat} (h : VEq V E n m) (P : Nat → List Int32) (q : Int32) {p : Nat} (hp : p < n) : ∀ k, k ≤ m → anyF V P q k p = anyF E P q k p := by
  intro k
  induction k with
  | zero => intro _; rfl
  | succ s ih =>
    intro hk
    rw [anyF, anyF]
    dsimp only
    rw [ih (by omega), (h.2.2 s (by omega)).1]
    unfold clF
    rw [hear_eq h P (by omega) hp]
theorem ev_eq {V E : IM} {n m : Nat} (h : VEq V E n m) (P : Nat → List Int32) (q : Nat) {k : Nat} (hk : k ≤ m) : bs n (evF V P k q) = bs n (evF E P k q) :=
  bs_congr n (fun p hp => by unfold evF; rw [any_eq h P _ hp k hk, can_eq h, h.1 2 (by omega) (by omega)])
theorem lt_eq {V E : IM} {n m : Nat} (h : VEq V E n m) (f : Nat → Int32) (am : Int32) : ∀ k : Nat, ltR V f am k = ltR E f am k := by
  intro k
  induction k with
  | zero => rfl
  | succ p ih => rw [ltR, ltR, ih, ltS, ltS, h.1 7 (by omega) (by omega), h.1 8 (by omega) (by omega)]
theorem shR_eq {V E : IM} {n m : Nat} (h : VEq V E n m) (am : Int32) (x : Nat) : ∀ k : Nat, shR V am x k = shR E am x k := by
  intro k
  induction k with
  | zero => rfl
  | succ j ih =>
    rw [shR, shR, ih]
    cases shR E am x j with
    | none => rfl
    | some f => simp only [lt_eq h]
def shE (E : IM) (q : Nat) : Option (Nat → Int32) := shR E (bs (pN E) (evF E (PE E) (sN E) q)) (pN E) (cl (E 11 q))
def spE_shares : SpT := fun as S I L Post => ∃ (q : Nat) (I0 : IM), as = [.ref 35, .int (nI q)] ∧ S = S1 ∧ cOk I0 ∧ q < qN (cE I0) ∧ Fr kScr I0 I ∧ Hrd (cV I0) (PE (cE I0)) (pN (cE I0)) (sN (cE I0)) I ∧
  (shE (cE I0) q = none → ∀ I' : IM, Fr (43 :: kScr) I0 I' → Post (some (.int 0)) S1 I' L) ∧
  (∀ f, shE (cE I0) q = some f → ∀ I' : IM, Fr (43 :: kScr) I0 I' → (∀ p, p < 8 → I' 43 p = f p) → Post (some (.int 1)) S1 I' L)
theorem cE_shares : Con mLedger_sharesOut 4 0 0 spE_shares := c_Ledger_sharesOut.imp fun as S I L Post hs => by
  obtain ⟨q, I0, rfl, rfl, hok, hq, hF, hh, h1, h2⟩ := hs
  obtain ⟨b1, b2, b3⟩ := hok.say
  obtain ⟨c1, c2, c3⟩ := hok.ppl
  obtain ⟨v1, v2, v3⟩ := hok.vow
  obtain ⟨-, ⟨-, -, pq⟩, -⟩ := hok
  obtain ⟨-, ⟨k, hk1, hk2, ek⟩, -, -⟩ := pq q hq
  have ek' : I0 15 q = nI k := ek
  have e : shR (cV I) (bs (pN (cE I0)) (evF (cV I) (PE (cE I0)) (sN (cE I0)) q)) (pN (cE I0)) k = shE (cE I0) q := by
    rw [cV_k hF, ev_eq (cVE I0) _ q (Nat.le_refl _), shR_eq (cVE I0), shE, ek, cl_nI (by omega)]
  refine ⟨q, sN (cE I0), pN (cE I0), k, PE (cE I0), rfl, rfl, by omega, by rw [hF 18 (by decide)]; exact b1, b2, by rw [hF 4 (by decide)]; exact c1, c2, fun s hs => ?_, by rw [hF 15 (by decide)]; exact ek', hk2, fun z I' hF2 => ?_, fun f z I' hF2 hf => ?_⟩
  · rw [cV_k hF]
    exact (hh s hs).2
  · rw [e] at z
    exact h1 z I' ((hF.wk (by decide)).tr (hF2.wk (by decide)))
  · rw [e] at z
    exact h2 f z I' ((hF.wk (by decide)).tr (hF2.wk (by decide))) hf
def evenS (E : IM) (q p : Int32) : Int32 := if ¬ inR q 0 (E 29 2 - 1) ∨ ¬ inR p 0 (E 29 1 - 1) then -5 else match shE E (cl q) with
  | none => -3
  | some f => f (cl p)
