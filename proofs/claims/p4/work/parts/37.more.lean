/-! one saying more: in the state's words -/
def M1 (E : IM) (q : Nat) (h : Int32) : IM := sputV E (sN E) (nI q) h
def C1 (E : IM) (t q : Nat) (h : Int32) : Nat → Int32 := CC (M1 E q h) (prog E t) (pN E)
def D1 (E : IM) (t q : Nat) (h : Int32) : Nat → Nat → Int32 := DD (M1 E q h) (prog E t) (C1 E t q h)
def R1 (E : IM) (t q : Nat) (h : Int32) : Nat → Nat → Int32 := fun p => (fin1 (M1 E q h) (D1 E t q h p) (qN E) (-1) (sN E + 1) p).1
def T1 (E : IM) (t q : Nat) (h : Int32) : Nat → Int32 := fun p => tot1 (M1 E q h) (D1 E t q h p) (qN E) (-1) (sN E + 1) p
def keep1 (E : IM) (t q : Nat) (h : Int32) : Bool := keepsV (M1 E q h) (pN E) (R1 E t q h) q
def pain1 (E : IM) (t q : Nat) (h : Int32) : Int32 := painA (M1 E q h) (prog E t) (T1 E t q h) (pN E)
theorem how_ok {h : Int32} (hh : isHowP h) : rng (h / 100) 6 ∧ rng (rem (h / 10) 10) 6 ∧ ∃ k, 1 ≤ k ∧ k < 10 ∧ rem h 10 = nI k := by
  obtain ⟨h0, h1, h2⟩ := hh
  obtain ⟨n, hn, rfl⟩ := inR_of (n := 599) (by decide) h0
  have e1 : nI n / 100 = nI (n / 100) := pk_div (d := 100) (by omega) (by omega) (by omega)
  have e2 : nI n / 10 = nI (n / 10) := pk_div (d := 10) (by omega) (by omega) (by omega)
  have e3 : rem (nI n / 10) 10 = nI (n / 10 % 10) := by
    rw [e2]
    exact pk_rem (d := 10) (by omega) (by omega) (by omega)
  have e4 : rem (nI n) 10 = nI (n % 10) := pk_rem (d := 10) (by omega) (by omega) (by omega)
  rw [e3] at h1 ⊢
  rw [e4] at h2 ⊢
  rw [e1]
  have h1' := (nI_ltI (b := 6) (by omega) (by omega)).mp h1
  have h2' := (nI_ltI (a := 0) (by omega) (by omega)).mp h2
  exact ⟨⟨n / 100, by omega, rfl⟩, ⟨n / 10 % 10, h1', rfl⟩, ⟨n % 10, by omega, by omega, rfl⟩⟩
theorem sput_sput (V : IM) (m : Nat) (a b q h : Int32) : sputV (sputV V m a b) m q h = sputV V m q h := by
  have u : ∀ (f : Nat → Int32) (x y : Int32), up1 (up1 f m x) m y = up1 f m y := fun f x y => by
    funext i
    unfold up1
    by_cases e : i = m <;> simp [e]
  unfold sputV
  funext i
  by_cases h17 : i = 17
  · subst h17
    simp only [up2_n, up2_s, ne_eq, Nat.reduceEqDiff, not_false_eq_true, u]
  by_cases h16 : i = 16
  · subst h16
    simp only [up2_n, up2_s, ne_eq, Nat.reduceEqDiff, not_false_eq_true, u]
  by_cases h15 : i = 15
  · subst h15
    simp only [up2_n, up2_s, ne_eq, Nat.reduceEqDiff, not_false_eq_true, u]
  by_cases h14 : i = 14
  · subst h14
    simp only [up2_n, up2_s, ne_eq, Nat.reduceEqDiff, not_false_eq_true, u]
  rw [up2_n _ _ _ h17, up2_n _ _ _ h16, up2_n _ _ _ h15, up2_n _ _ _ h14, up2_n _ _ _ h17, up2_n _ _ _ h16, up2_n _ _ _ h15, up2_n _ _ _ h14, up2_n _ _ _ h17, up2_n _ _ _ h16, up2_n _ _ _ h15, up2_n _ _ _ h14]
theorem VEq.put {V E : IM} {n m : Nat} (h : VEq V E n m) (q hh : Int32) : VEq (sputV V m q hh) (sputV E m q hh) n (m + 1) := by
  obtain ⟨h1, h2, h3⟩ := h
  refine ⟨fun a ha h9 => ?_, fun p hp => ?_, fun s hs => ?_⟩
  · unfold sputV
    rw [up2_n _ _ _ (by omega), up2_n _ _ _ (by omega), up2_n _ _ _ (by omega), up2_n _ _ _ (by omega), up2_n _ _ _ (by omega), up2_n _ _ _ (by omega), up2_n _ _ _ (by omega), up2_n _ _ _ (by omega)]
    exact h1 a ha h9
  · unfold sputV
    simp only [up2_n, up2_s, ne_eq, Nat.reduceEqDiff, not_false_eq_true]
    exact h2 p hp
  · unfold sputV
    simp only [up2_n, up2_s, ne_eq, Nat.reduceEqDiff, not_false_eq_true]
    unfold up1
    by_cases e : s = m
    · simp [e]
    · obtain ⟨a, b, c, d⟩ := h3 s (by omega)
      simp [e, a, b, c, d]
abbrev cEst (I : IM) : IM := cE I
/-- reckoned, and perhaps with one saying more behind -/
def SM (t : Nat) (I I' : IM) : Prop := Fr (19 :: 20 :: 21 :: 22 :: kScr) I I' ∧ (cV I' = cV I ∨ ∃ a b, cV I' = sputV (cV I) (sN (cE I)) a b) ∧ RK (cV I') (prog (cE I) t) (pN (cE I)) (sN (cE I)) I' ∧ I' 35 5 = nI t
def Owes1T (E : IM) (t q : Nat) (h : Int32) (I' : IM) : Prop := OwesN (M1 E q h) (D1 E t q h) (pN E) (qN E) (-1) (sN E + 1) I'
theorem SM.stay {t : Nat} {I I' : IM} (h : SM t I I') : ∀ k, 59 ≤ k → I' k = I k := fun k hk => h.1 k (by simp; omega)
theorem SM.row {t : Nat} {I I' : IM} (h : SM t I I') {s : Nat} (hs : s < sN (cE I)) : I' 19 s = I 19 s ∧ I' 20 s = I 20 s ∧ I' 21 s = I 21 s ∧ I' 22 s = I 22 s := by
  have e14 : ∀ J : IM, J 19 s = cV J 14 s := fun _ => rfl
  have e15 : ∀ J : IM, J 20 s = cV J 15 s := fun _ => rfl
  have e16 : ∀ J : IM, J 21 s = cV J 16 s := fun _ => rfl
  have e17 : ∀ J : IM, J 22 s = cV J 17 s := fun _ => rfl
  rw [e14 I', e15 I', e16 I', e17 I', e14 I, e15 I, e16 I, e17 I]
  rcases h.2.1 with e | ⟨a, b, e⟩
  · rw [e]
    exact ⟨rfl, rfl, rfl, rfl⟩
  · rw [e]
    unfold sputV
    simp only [up2_n, up2_s, ne_eq, Nat.reduceEqDiff, not_false_eq_true]
    have : s ≠ sN (cE I) := by omega
    simp [up1, this]
theorem SM.eqE {t : Nat} {I I' : IM} (h : SM t I I') : cE I' = cE I := by
  have hF := h.1
  have e18 : I' 18 = I 18 := hF 18 (by decide)
  have hc : ∀ (f g : Nat → Int32), (∀ s, s < cl (I 18 4) → f s = g s) → mk (cl (I 18 4)) f = mk (cl (I 18 4)) g := fun f g hfg => by
    funext s
    unfold mk
    split
    · exact hfg s (by assumption)
    · rfl
  have hF2 : Fr kScr I (upr (upr (upr (upr I' 19 (I 19)) 20 (I 20)) 21 (I 21)) 22 (I 22)) := by
    intro k hk
    by_cases k22 : k = 22
    · subst k22; rw [upr_s]
    by_cases k21 : k = 21
    · subst k21; rw [upr_n _ _ k22, upr_s]
    by_cases k20 : k = 20
    · subst k20; rw [upr_n _ _ k22, upr_n _ _ k21, upr_s]
    by_cases k19 : k = 19
    · subst k19; rw [upr_n _ _ k22, upr_n _ _ k21, upr_n _ _ k20, upr_s]
    rw [upr_n _ _ k22, upr_n _ _ k21, upr_n _ _ k20, upr_n _ _ k19]
    exact hF k (by simp only [List.mem_cons, List.not_mem_nil, or_false, not_or] at hk ⊢; omega)
  have e2 := cE_k hF2
  rw [cE_17, cE_16, cE_15, cE_14] at e2
  rw [← e2]
  have s4 : (upr (upr (upr I' 19 (I 19)) 20 (I 20)) 21 (I 21)) 18 4 = I 18 4 := by simp only [upr_n, ne_eq, Nat.reduceEqDiff, not_false_eq_true]; rw [e18]
  have s3 : (upr (upr I' 19 (I 19)) 20 (I 20)) 18 4 = I 18 4 := by simp only [upr_n, ne_eq, Nat.reduceEqDiff, not_false_eq_true]; rw [e18]
  have s2 : (upr I' 19 (I 19)) 18 4 = I 18 4 := by simp only [upr_n, ne_eq, Nat.reduceEqDiff, not_false_eq_true]; rw [e18]
  rw [s4, s3, s2, e18]
  rw [← hc (I' 22) (I 22) (fun s hs => (h.row hs).2.2.2), ← hc (I' 21) (I 21) (fun s hs => (h.row hs).2.2.1), ← hc (I' 20) (I 20) (fun s hs => (h.row hs).2.1), ← hc (I' 19) (I 19) (fun s hs => (h.row hs).1)]
  have c14 : cEst I' 14 = mk (cl (I 18 4)) (I' 19) := by rw [← e18]; rfl
  have c15 : cEst I' 15 = mk (cl (I 18 4)) (I' 20) := by rw [← e18]; rfl
  have c16 : cEst I' 16 = mk (cl (I 18 4)) (I' 21) := by rw [← e18]; rfl
  have c17 : cEst I' 17 = mk (cl (I 18 4)) (I' 22) := by rw [← e18]; rfl
  rw [← c14, ← c15, ← c16, ← c17]
  funext a
  by_cases a17 : a = 17
  · subst a17; rw [upr_s]
  by_cases a16 : a = 16
  · subst a16; rw [upr_n _ _ a17, upr_s]
  by_cases a15 : a = 15
  · subst a15; rw [upr_n _ _ a17, upr_n _ _ a16, upr_s]
  by_cases a14 : a = 14
  · subst a14; rw [upr_n _ _ a17, upr_n _ _ a16, upr_n _ _ a15, upr_s]
  rw [upr_n _ _ a17, upr_n _ _ a16, upr_n _ _ a15, upr_n _ _ a14]
theorem SM.same {t : Nat} {I I' : IM} (h : SM t I I') (a : Nat) (h14 : a ≠ 14) (h15 : a ≠ 15) (h16 : a ≠ 16) (h17 : a ≠ 17) : cV I' a = cV I a := by
  rcases h.2.1 with e | ⟨x, y, e⟩
  · rw [e]
  · rw [e]
    unfold sputV
    rw [up2_n _ _ _ h17, up2_n _ _ _ h16, up2_n _ _ _ h15, up2_n _ _ _ h14]
def spE_sayMore : SpT := fun as S I L Post => ∃ (t q : Nat) (h : Int32) (I0 : IM), as = [.ref 35, .int (nI q), .int h] ∧ S = S1 ∧ cOk I0 ∧ t < tN (cE I0) ∧ q < qN (cE I0) ∧ isHowP h ∧ SM t I0 I ∧
  ∀ I' : IM, SM t I0 I' → VEq (cV I') (M1 (cE I0) q h) (pN (cE I0)) (sN (cE I0) + 1) → Owes1T (cE I0) t q h I' → Post none S1 I' L
theorem cE_sayMore : Con mLedger_sayMore 6 0 0 spE_sayMore := c_Ledger_sayMore.imp fun as S I L Post hs => by
  obtain ⟨t, q, h, I0, rfl, rfl, hok, ht, hq, hh, hsm, h1⟩ := hs
  obtain ⟨b1, b2, b3⟩ := hok.say
  obtain ⟨c1, c2, c3⟩ := hok.ppl
  obtain ⟨v1, v2, v3⟩ := hok.vow
  have hF := hsm.1
  have hT := hok.txt ht
  refine ⟨t, sN (cE I0), pN (cE I0), qN (cE I0), q, h, prog (cE I0) t, rfl, rfl, by rw [hF 18 (by decide)]; exact b1, b2, fun s hs => ?_, ?_, ⟨by rw [hF 4 (by decide)]; exact c1, c2, fun p hp => ?_⟩, hsm.2.2.2, hT.fr (hF _ (by decide)) (hF _ (by decide)), ⟨by rw [hF 13 (by decide)]; exact v1, v2, by rw [hF 17 (by decide)]; exact v3⟩, hsm.2.2.1, fun I' hF2 hV hrk ho => ?_⟩
  · obtain ⟨r1, r2, r3, r4⟩ := hsm.row hs
    obtain ⟨x1, x2, x3⟩ := b3 s hs
    refine ⟨?_, ?_, ?_⟩
    · rw [show cV I 14 s = cV I0 14 s from r1]; exact x1
    · rw [show cV I 15 s = cV I0 15 s from r2]; exact x2
    · rw [show cV I 16 s = cV I0 16 s from r3]; exact x3
  · obtain ⟨y1, y2, -⟩ := how_ok hh
    unfold SayV sputV
    simp only [up2_n, up2_s, ne_eq, Nat.reduceEqDiff, not_false_eq_true]
    simp only [up1, if_true]
    exact ⟨⟨q, by omega, rfl⟩, y1, y2⟩
  · obtain ⟨x1, x2, x3, x4⟩ := c3 p hp
    unfold PerV
    rw [hsm.same 2 (by omega) (by omega) (by omega) (by omega), hsm.same 3 (by omega) (by omega) (by omega) (by omega), hsm.same 5 (by omega) (by omega) (by omega) (by omega), hsm.same 9 (by omega) (by omega) (by omega) (by omega)]
    exact ⟨x1, x2, x3, x4⟩
  · have hV' : cV I' = sputV (cV I0) (sN (cE I0)) (nI q) h := by
      rcases hsm.2.1 with e | ⟨x, y, e⟩
      · rw [hV, e]
      · rw [hV, e, sput_sput]
    have hveq : VEq (cV I') (M1 (cE I0) q h) (pN (cE I0)) (sN (cE I0) + 1) := by
      rw [hV']
      exact (cVE I0).put (nI q) h
    refine h1 I' ⟨hF.tr (hF2.wk (by decide)), Or.inr ⟨_, _, hV'⟩, hrk, ?_⟩ hveq ?_
    · rw [hF2 35 (by decide)]
      exact hsm.2.2.2
    · exact owes_eq hveq (Nat.le_refl _) (fun p hp s hs => by unfold D1 DD C1; rw [share_eq hveq _ hs, CC_eq hveq _ hs]) ho
theorem SM.of {t : Nat} {I I' : IM} (hF : Fr kScr I I') (hl : I' 35 5 = nI t) (hrk : RK (cV I) (prog (cE I) t) (pN (cE I)) (sN (cE I)) I') : SM t I I' :=
  ⟨hF.wk (by decide), Or.inl (cV_k hF), by rw [cV_k hF]; exact hrk, hl⟩
theorem SM.u {t : Nat} {I I' I2 : IM} (h : SM t I I') (hF : Fr uScr I' I2) : SM t I I2 := by
  obtain ⟨h1, h2, h3, h4⟩ := h
  have e : cV I2 = cV I' := cV_fr (hF.wk (by decide))
  refine ⟨h1.tr (hF.wk (by decide)), by rw [e]; exact h2, ?_, by rw [hF 35 (by decide)]; exact h4⟩
  rw [e]
  refine ⟨fun s hs => ?_, fun s hs p hp => ?_⟩
  · unfold HrdRow
    rw [hF 36 (by decide), hF 37 (by decide)]
    exact h3.1 s hs
  · rw [hF 38 (by decide)]
    exact h3.2 s hs p hp
/-- behind sayMore: is it kept, the pain, in all -/
def spE_keeps1 : SpT := fun as S I L Post => ∃ (t q : Nat) (h : Int32) (I0 : IM), as = [.ref 35, .int (nI q)] ∧ S = S1 ∧ cOk I0 ∧ q < qN (cE I0) ∧ SM t I0 I ∧ VEq (cV I) (M1 (cE I0) q h) (pN (cE I0)) (sN (cE I0) + 1) ∧ Owes1T (cE I0) t q h I ∧ bPost (keep1 (cE I0) t q h = true) S1 I L Post
theorem cE_keeps1 : Con mLedger_keeps 4 0 0 spE_keeps1 := c_Ledger_keeps.imp fun as S I L Post hs => by
  obtain ⟨t, q, h, I0, rfl, rfl, hok, hq, hsm, hve, ho, h1⟩ := hs
  obtain ⟨c1, c2, c3⟩ := hok.ppl
  obtain ⟨v1, v2, v3⟩ := hok.vow
  refine ⟨q, pN (cE I0), R1 (cE I0) t q h, rfl, rfl, by omega, ⟨by rw [hsm.1 4 (by decide)]; exact c1, c2, fun p hp => (ho p hp).1⟩, ?_⟩
  rw [keeps_eq hve (pN (cE I0)) (R' := R1 (cE I0) t q h) (fun _ _ => rfl)]
  exact h1
def spE_pain1 : SpT := fun as S I L Post => ∃ (t q : Nat) (h : Int32) (I0 : IM), as = [.ref 35] ∧ S = S1 ∧ cOk I0 ∧ t < tN (cE I0) ∧ SM t I0 I ∧ VEq (cV I) (M1 (cE I0) q h) (pN (cE I0)) (sN (cE I0) + 1) ∧ Owes1T (cE I0) t q h I ∧ ∀ I' : IM, SM t I0 I' → Post (some (.int (pain1 (cE I0) t q h))) S1 I' L
theorem cE_pain1 : Con mLedger_painOfAll 5 0 0 spE_pain1 := c_Ledger_painOfAll.imp fun as S I L Post hs => by
  obtain ⟨t, q, h, I0, rfl, rfl, hok, ht, hsm, hve, ho, h1⟩ := hs
  obtain ⟨c1, c2, c3⟩ := hok.ppl
  refine ⟨pN (cE I0), t, prog (cE I0) t, rfl, rfl, by rw [hsm.1 4 (by decide)]; exact c1, c2, hsm.2.2.2, (hok.txt ht).fr (hsm.1 _ (by decide)) (hsm.1 _ (by decide)), fun I' hF => ?_⟩
  rw [pain_eq hve _ (T' := T1 (cE I0) t q h) (pN (cE I0)) (fun p hp => (ho p hp).2.2.2)]
  exact h1 I' (hsm.u hF)
