/-! what holds of the state, after each call -/
def iA (E : IM) : Prop := E 29 1 = nI (pN E) ∧ pN E ≤ 8 ∧ ∀ p, p < pN E → PersonOk E p
def iB (E : IM) : Prop := E 29 2 = nI (qN E) ∧ qN E ≤ 8 ∧ ∀ q, q < qN E → PromiseOk E q
def iC (E : IM) : Prop := E 29 3 = nI (sN E) ∧ sN E ≤ 10 ∧ ∀ s, s < sN E → SayOk (qN E) (E 14 s) (E 15 s) (E 16 s) (E 17 s)
def iD (E : IM) : Prop := E 29 4 = nI (tN E) ∧ 1 ≤ tN E ∧ tN E ≤ 6 ∧ ∀ t, t < tN E → TextOk E t
def iF (E : IM) : Prop := E 29 5 = nI (wN E) ∧ wN E < tN E
def iG (E : IM) : Prop := E 29 6 = nI (zN E) ∧ zN E ≤ 160 ∧ ∀ i, i < zN E → rng (E 18 i) 256
def iH (E : IM) : Prop := (E 29 7 = 0 ∨ E 29 7 = 1) ∧ (∃ k, k ≤ pN E ∧ E 29 9 = nI k ∧ ∀ p, p < k → rng1 (E 21 p) 6) ∧ (∃ k, k ≤ 10 ∧ E 29 10 = nI k ∧ (∀ s, s < k → SayOk (qN E) (E 22 s) (E 23 s) (E 24 s) (E 25 s))) ∧ (∃ k, k < tN E ∧ E 29 11 = nI k)
def iS (E : IM) : Prop := ∀ s, s < 4 → rng1 (E 26 s) 3 ∧ rng (E 27 s) 41 ∧ (E 26 s = -1 → E 27 s = 0)
def iZ (E : IM) : Prop := ∀ j, (36 ≤ j → E 0 j = 0 ∧ E 19 j = 0) ∧ (6 ≤ j → E 1 j = 0 ∧ E 20 j = 0)
theorem Inv.mk' {E : IM} (a : iA E) (b : iB E) (c : iC E) (d : iD E) (f : iF E) (g : iG E) (h : iH E) (s : iS E) (z : iZ E) : Inv E := ⟨a, b, c, d, f, g, h, s, z⟩
theorem Inv.a {E : IM} (h : Inv E) : iA E := h.1
theorem Inv.b {E : IM} (h : Inv E) : iB E := h.2.1
theorem Inv.c {E : IM} (h : Inv E) : iC E := h.2.2.1
theorem Inv.d {E : IM} (h : Inv E) : iD E := h.2.2.2.1
theorem Inv.f {E : IM} (h : Inv E) : iF E := h.2.2.2.2.1
theorem Inv.g {E : IM} (h : Inv E) : iG E := h.2.2.2.2.2.1
theorem Inv.h {E : IM} (h : Inv E) : iH E := h.2.2.2.2.2.2.1
theorem Inv.s {E : IM} (h : Inv E) : iS E := h.2.2.2.2.2.2.2.1
theorem Inv.z {E : IM} (h : Inv E) : iZ E := h.2.2.2.2.2.2.2.2
theorem iA.to {E E' : IM} (h : iA E) (h1 : E' 29 1 = E 29 1) (hr : ∀ a, 2 ≤ a → a ≤ 9 → E' a = E a) : iA E' := by
  unfold iA pN PersonOk at h ⊢
  rw [h1, hr 2 (by omega) (by omega), hr 3 (by omega) (by omega), hr 4 (by omega) (by omega), hr 5 (by omega) (by omega), hr 6 (by omega) (by omega), hr 7 (by omega) (by omega), hr 8 (by omega) (by omega), hr 9 (by omega) (by omega)]
  exact h
theorem iB.to {E E' : IM} (h : iB E) (h1 : E' 29 2 = E 29 2) (hr : ∀ a, 10 ≤ a → a ≤ 13 → E' a = E a) : iB E' := by
  unfold iB qN PromiseOk at h ⊢
  rw [h1, hr 10 (by omega) (by omega), hr 11 (by omega) (by omega), hr 12 (by omega) (by omega), hr 13 (by omega) (by omega)]
  exact h
theorem iC.to {E E' : IM} (h : iC E) (h1 : E' 29 3 = E 29 3) (h2 : E' 29 2 = E 29 2) (hr : ∀ a, 14 ≤ a → a ≤ 17 → E' a = E a) : iC E' := by
  unfold iC sN qN at h ⊢
  rw [h1, h2, hr 14 (by omega) (by omega), hr 15 (by omega) (by omega), hr 16 (by omega) (by omega), hr 17 (by omega) (by omega)]
  exact h
theorem iD.to {E E' : IM} (h : iD E) (h1 : E' 29 4 = E 29 4) (h30 : E' 30 = E 30) (h31 : E' 31 = E 31) : iD E' := by
  unfold iD tN TextOk sA seg at h ⊢
  rw [h1, h30, h31]
  exact h
theorem iF.to {E E' : IM} (h : iF E) (h1 : E' 29 5 = E 29 5) (h2 : E' 29 4 = E 29 4) : iF E' := by
  unfold iF wN tN at h ⊢
  rw [h1, h2]
  exact h
theorem iG.to {E E' : IM} (h : iG E) (h1 : E' 29 6 = E 29 6) (h2 : E' 18 = E 18) : iG E' := by
  unfold iG zN at h ⊢
  rw [h1, h2]
  exact h
theorem iH.to {E E' : IM} (h : iH E) (h1 : ∀ j, 7 ≤ j → E' 29 j = E 29 j) (h2 : E' 29 1 = E 29 1) (h3 : E' 29 2 = E 29 2) (h4 : E' 29 4 = E 29 4) (hr : ∀ a, 21 ≤ a → a ≤ 25 → E' a = E a) : iH E' := by
  unfold iH pN qN tN at h ⊢
  rw [h1 7 (by omega), h1 9 (by omega), h1 10 (by omega), h1 11 (by omega), h2, h3, h4, hr 21 (by omega) (by omega), hr 22 (by omega) (by omega), hr 23 (by omega) (by omega), hr 24 (by omega) (by omega), hr 25 (by omega) (by omega)]
  exact h
theorem iS.to {E E' : IM} (h : iS E) (h1 : E' 26 = E 26) (h2 : E' 27 = E 27) : iS E' := by
  unfold iS at h ⊢
  rw [h1, h2]
  exact h
theorem iZ.to {E E' : IM} (h : iZ E) (h0 : E' 0 = E 0) (h1 : E' 1 = E 1) (h2 : E' 19 = E 19) (h3 : E' 20 = E 20) : iZ E' := by
  unfold iZ at h ⊢
  rw [h0, h1, h2, h3]
  exact h
theorem SayOk.up {Q Q' : Nat} {a b c d : Int32} (h : SayOk Q a b c d) (hq : Q ≤ Q') : SayOk Q' a b c d := by
  obtain ⟨⟨k, hk, e⟩, h2⟩ := h
  exact ⟨⟨k, by omega, e⟩, h2⟩
theorem up1_s (f : Nat → Int32) (j : Nat) (x : Int32) : up1 f j x j = x := by simp [up1]
theorem up1_n (f : Nat → Int32) {i j : Nat} (x : Int32) (h : i ≠ j) : up1 f j x i = f i := by simp [up1, h]
theorem rng_inR {x M : Int32} {n : Nat} (hM : M.toInt = n) (h : inR x 0 M) : rng x (n + 1) := by
  obtain ⟨k, hk, e⟩ := inR_of hM h
  exact ⟨k, by omega, e⟩
theorem rng1_inR {x : Int32} {n : Nat} (hn : n ≤ 1000) (h : inR x (-1) (nI n - 1)) : rng1 x n := by
  by_cases e : x = -1
  · exact Or.inl e
  · refine Or.inr (has_nat hn ⟨?_, h.2⟩)
    have h1 := Int32.le_iff_toInt_le.mp h.1
    rw [Int32.le_iff_toInt_le]
    have h2 : ¬ x.toInt = -1 := fun z => e (Int32.toInt_inj.mp z)
    simp at h1 ⊢
    omega
/-- a call that writes no row of those that Inv speaks of but by one -/
theorem Inv_far {E : IM} (h : Inv E) (u v d : Int32) : Inv (farU E u v d) := by
  unfold farU
  split
  · exact h
  · split
    · exact h
    · rename_i h1 h2
      have hu : inR u 0 5 := Classical.byContradiction fun z => h1 (Or.inl z)
      have hv : inR v 0 5 := Classical.byContradiction fun z => h1 (Or.inr (Or.inl z))
      obtain ⟨a, ha, rfl⟩ := inR_of (n := 5) (by decide) hu
      obtain ⟨b, hb, rfl⟩ := inR_of (n := 5) (by decide) hv
      rw [cl_nI (by omega), cl_nI (by omega)]
      refine Inv.mk' (h.a.to (by simp only [up2_n, up2_s, ne_eq, Nat.reduceEqDiff, not_false_eq_true]) (fun x _ _ => by rw [up2_n _ _ _ (by omega), up2_n _ _ _ (by omega)])) (h.b.to (by simp only [up2_n, up2_s, ne_eq, Nat.reduceEqDiff, not_false_eq_true]) (fun x _ _ => by rw [up2_n _ _ _ (by omega), up2_n _ _ _ (by omega)])) (h.c.to (by simp only [up2_n, up2_s, ne_eq, Nat.reduceEqDiff, not_false_eq_true]) (by simp only [up2_n, up2_s, ne_eq, Nat.reduceEqDiff, not_false_eq_true]) (fun x _ _ => by rw [up2_n _ _ _ (by omega), up2_n _ _ _ (by omega)])) (h.d.to (by simp only [up2_n, up2_s, ne_eq, Nat.reduceEqDiff, not_false_eq_true]) (by simp only [up2_n, up2_s, ne_eq, Nat.reduceEqDiff, not_false_eq_true]) (by simp only [up2_n, up2_s, ne_eq, Nat.reduceEqDiff, not_false_eq_true])) (h.f.to (by simp only [up2_n, up2_s, ne_eq, Nat.reduceEqDiff, not_false_eq_true]) (by simp only [up2_n, up2_s, ne_eq, Nat.reduceEqDiff, not_false_eq_true])) (h.g.to (by simp only [up2_n, up2_s, ne_eq, Nat.reduceEqDiff, not_false_eq_true]) (by simp only [up2_n, up2_s, ne_eq, Nat.reduceEqDiff, not_false_eq_true])) (h.h.to (fun j _ => by simp only [up2_n, up2_s, ne_eq, Nat.reduceEqDiff, not_false_eq_true]) (by simp only [up2_n, up2_s, ne_eq, Nat.reduceEqDiff, not_false_eq_true]) (by simp only [up2_n, up2_s, ne_eq, Nat.reduceEqDiff, not_false_eq_true]) (by simp only [up2_n, up2_s, ne_eq, Nat.reduceEqDiff, not_false_eq_true]) (fun x _ _ => by rw [up2_n _ _ _ (by omega), up2_n _ _ _ (by omega)])) (h.s.to (by simp only [up2_n, up2_s, ne_eq, Nat.reduceEqDiff, not_false_eq_true]) (by simp only [up2_n, up2_s, ne_eq, Nat.reduceEqDiff, not_false_eq_true])) (fun j => ⟨fun hj => ⟨?_, ?_⟩, fun hj => ⟨?_, ?_⟩⟩)
      · simp only [up2_n, up2_s, ne_eq, Nat.reduceEqDiff, not_false_eq_true]
        rw [up1_n _ _ (by omega), up1_n _ _ (by omega)]
        exact ((h.z j).1 hj).1
      · simp only [up2_n, up2_s, ne_eq, Nat.reduceEqDiff, not_false_eq_true]
        exact ((h.z j).1 hj).2
      · simp only [up2_n, up2_s, ne_eq, Nat.reduceEqDiff, not_false_eq_true]
        exact ((h.z j).2 hj).1
      · simp only [up2_n, up2_s, ne_eq, Nat.reduceEqDiff, not_false_eq_true]
        exact ((h.z j).2 hj).2
theorem Inv_hush {E : IM} (h : Inv E) (t v : Int32) : Inv (hushU E t v) := by
  unfold hushU
  split
  · exact h
  · split
    · exact h
    · rename_i h1 h2
      obtain ⟨a, ha, rfl⟩ := inR_of (n := 5) (by decide) (Classical.not_not.mp h1)
      rw [cl_nI (by omega)]
      refine Inv.mk' (h.a.to (by simp only [up2_n, up2_s, ne_eq, Nat.reduceEqDiff, not_false_eq_true]) (fun x _ _ => by rw [up2_n _ _ _ (by omega)])) (h.b.to (by simp only [up2_n, up2_s, ne_eq, Nat.reduceEqDiff, not_false_eq_true]) (fun x _ _ => by rw [up2_n _ _ _ (by omega)])) (h.c.to (by simp only [up2_n, up2_s, ne_eq, Nat.reduceEqDiff, not_false_eq_true]) (by simp only [up2_n, up2_s, ne_eq, Nat.reduceEqDiff, not_false_eq_true]) (fun x _ _ => by rw [up2_n _ _ _ (by omega)])) (h.d.to (by simp only [up2_n, up2_s, ne_eq, Nat.reduceEqDiff, not_false_eq_true]) (by simp only [up2_n, up2_s, ne_eq, Nat.reduceEqDiff, not_false_eq_true]) (by simp only [up2_n, up2_s, ne_eq, Nat.reduceEqDiff, not_false_eq_true])) (h.f.to (by simp only [up2_n, up2_s, ne_eq, Nat.reduceEqDiff, not_false_eq_true]) (by simp only [up2_n, up2_s, ne_eq, Nat.reduceEqDiff, not_false_eq_true])) (h.g.to (by simp only [up2_n, up2_s, ne_eq, Nat.reduceEqDiff, not_false_eq_true]) (by simp only [up2_n, up2_s, ne_eq, Nat.reduceEqDiff, not_false_eq_true])) (h.h.to (fun j _ => by simp only [up2_n, up2_s, ne_eq, Nat.reduceEqDiff, not_false_eq_true]) (by simp only [up2_n, up2_s, ne_eq, Nat.reduceEqDiff, not_false_eq_true]) (by simp only [up2_n, up2_s, ne_eq, Nat.reduceEqDiff, not_false_eq_true]) (by simp only [up2_n, up2_s, ne_eq, Nat.reduceEqDiff, not_false_eq_true]) (fun x _ _ => by rw [up2_n _ _ _ (by omega)])) (h.s.to (by simp only [up2_n, up2_s, ne_eq, Nat.reduceEqDiff, not_false_eq_true]) (by simp only [up2_n, up2_s, ne_eq, Nat.reduceEqDiff, not_false_eq_true])) (fun j => ⟨fun hj => ⟨?_, ?_⟩, fun hj => ⟨?_, ?_⟩⟩)
      · simp only [up2_n, up2_s, ne_eq, Nat.reduceEqDiff, not_false_eq_true]
        exact ((h.z j).1 hj).1
      · simp only [up2_n, up2_s, ne_eq, Nat.reduceEqDiff, not_false_eq_true]
        exact ((h.z j).1 hj).2
      · simp only [up2_n, up2_s, ne_eq, Nat.reduceEqDiff, not_false_eq_true]
        rw [up1_n _ _ (by omega)]
        exact ((h.z j).2 hj).1
      · simp only [up2_n, up2_s, ne_eq, Nat.reduceEqDiff, not_false_eq_true]
        exact ((h.z j).2 hj).2
theorem Inv_stride {E : IM} (h : Inv E) (v : Int32) : Inv (strideU E v) := by
  unfold strideU
  split
  · exact h
  · have r : ∀ a, a ≠ 29 → up2 E 29 0 v a = E a := fun a ha => up2_n _ _ _ ha
    have q : ∀ j, j ≠ 0 → up2 E 29 0 v 29 j = E 29 j := fun j hj => by rw [up2_s, up1_n _ _ hj]
    exact Inv.mk' (h.a.to (q _ (by omega)) (fun a _ _ => r a (by omega))) (h.b.to (q _ (by omega)) (fun a _ _ => r a (by omega))) (h.c.to (q _ (by omega)) (q _ (by omega)) (fun a _ _ => r a (by omega))) (h.d.to (q _ (by omega)) (r _ (by omega)) (r _ (by omega))) (h.f.to (q _ (by omega)) (q _ (by omega))) (h.g.to (q _ (by omega)) (r _ (by omega))) (h.h.to (fun j _ => q j (by omega)) (q _ (by omega)) (q _ (by omega)) (q _ (by omega)) (fun a _ _ => r a (by omega))) (h.s.to (r _ (by omega)) (r _ (by omega))) (h.z.to (r _ (by omega)) (r _ (by omega)) (r _ (by omega)) (r _ (by omega)))
theorem Inv_force {E : IM} (h : Inv E) (t : Int32) : Inv (forceU E t) := by
  unfold forceU
  split
  · exact h
  · rename_i h1
    obtain ⟨d1, d2, d3, d4⟩ := h.d
    have h1 := Classical.not_not.mp h1
    rw [d1] at h1
    obtain ⟨k, hk, rfl⟩ := has_nat (by omega) h1
    have r : ∀ a, a ≠ 29 → up2 E 29 5 (nI k) a = E a := fun a ha => up2_n _ _ _ ha
    have q : ∀ j, j ≠ 5 → up2 E 29 5 (nI k) 29 j = E 29 j := fun j hj => by rw [up2_s, up1_n _ _ hj]
    have e5 : up2 E 29 5 (nI k) 29 5 = nI k := by rw [up2_s, up1_s]
    refine Inv.mk' (h.a.to (q _ (by omega)) (fun a _ _ => r a (by omega))) (h.b.to (q _ (by omega)) (fun a _ _ => r a (by omega))) (h.c.to (q _ (by omega)) (q _ (by omega)) (fun a _ _ => r a (by omega))) (h.d.to (q _ (by omega)) (r _ (by omega)) (r _ (by omega))) ?_ (h.g.to (q _ (by omega)) (r _ (by omega))) (h.h.to (fun j _ => q j (by omega)) (q _ (by omega)) (q _ (by omega)) (q _ (by omega)) (fun a _ _ => r a (by omega))) (h.s.to (r _ (by omega)) (r _ (by omega))) (h.z.to (r _ (by omega)) (r _ (by omega)) (r _ (by omega)) (r _ (by omega)))
    unfold iF wN tN
    rw [e5, q 4 (by omega), cl_nI (by omega)]
    exact ⟨rfl, hk⟩
theorem nat_of {x : Int32} {lo hi : Int32} {n : Nat} (hlo : 0 ≤ lo) (hM : hi.toInt = n) (h : inR x lo hi) : ∃ k, k ≤ n ∧ x = nI k := inR_of hM ⟨Int32.le_trans hlo h.1, h.2⟩
theorem Inv_person {E : IM} (h : Inv E) (k w ws ld : Int32) : Inv (personU E k w ws ld) := by
  unfold personU
  split
  · exact h
  · split
    · exact h
    · rename_i h1 h2
      obtain ⟨a1, a2, a3⟩ := h.a
      obtain ⟨g1, g2, g3, g4⟩ := Classical.not_not.mp h1
      have h2 := Classical.not_not.mp h2
      rw [a1] at h2
      have h8 : pN E < 8 := (nI_ltI (b := 8) (by omega) (by omega)).mp h2
      obtain ⟨W, hW, rfl⟩ := inR_of (n := 599) (by decide) g2
      obtain ⟨D, hD, eD⟩ := nat_of (n := 999) (by decide) (by decide) g4
      have hD1 : 100 ≤ D := by
        subst eD
        by_cases z : 100 ≤ D
        · exact z
        · exact absurd g4.1 (nI_ge (b := 100) (by omega) (by omega))
      subst eD
      have w1 : nI W / 100 = nI (W / 100) := pk_div (d := 100) (by omega) (by omega) (by omega)
      have w2 : rem (nI W / 10) 10 = nI (W / 10 % 10) := by
        rw [show nI W / 10 = nI (W / 10) from pk_div (d := 10) (by omega) (by omega) (by omega)]
        exact pk_rem (d := 10) (by omega) (by omega) (by omega)
      have w3 : rem (nI W) 10 = nI (W % 10) := pk_rem (d := 10) (by omega) (by omega) (by omega)
      have d1 : nI D / 100 = nI (D / 100) := pk_div (d := 100) (by omega) (by omega) (by omega)
      have d2 : rem (nI D) 100 = nI (D % 100) := pk_rem (d := 100) (by omega) (by omega) (by omega)
      have r : ∀ a, 10 ≤ a → a ≠ 29 → addP E (pN E) k (nI W) ws (nI D) a = E a := fun a _ _ => by
        unfold addP
        rw [up2_n _ _ _ (by omega), up2_n _ _ _ (by omega), up2_n _ _ _ (by omega), up2_n _ _ _ (by omega), up2_n _ _ _ (by omega), up2_n _ _ _ (by omega), up2_n _ _ _ (by omega), up2_n _ _ _ (by omega), up2_n _ _ _ (by omega)]
      have r0 : ∀ a, a ≤ 1 → addP E (pN E) k (nI W) ws (nI D) a = E a := fun a _ => by
        unfold addP
        rw [up2_n _ _ _ (by omega), up2_n _ _ _ (by omega), up2_n _ _ _ (by omega), up2_n _ _ _ (by omega), up2_n _ _ _ (by omega), up2_n _ _ _ (by omega), up2_n _ _ _ (by omega), up2_n _ _ _ (by omega), up2_n _ _ _ (by omega)]
      have q : ∀ j, j ≠ 1 → addP E (pN E) k (nI W) ws (nI D) 29 j = E 29 j := fun j hj => by
        unfold addP
        rw [up2_s, up1_n _ _ hj]
        simp only [up2_n, up2_s, ne_eq, Nat.reduceEqDiff, not_false_eq_true]
      have q1 : addP E (pN E) k (nI W) ws (nI D) 29 1 = nI (pN E + 1) := by
        unfold addP
        rw [up2_s, up1_s]
        exact nI_1 _
      refine Inv.mk' ?_ (h.b.to (q _ (by omega)) (fun a _ _ => r a (by omega) (by omega))) (h.c.to (q _ (by omega)) (q _ (by omega)) (fun a _ _ => r a (by omega) (by omega))) (h.d.to (q _ (by omega)) (r _ (by omega) (by omega)) (r _ (by omega) (by omega))) (h.f.to (q _ (by omega)) (q _ (by omega))) (h.g.to (q _ (by omega)) (r _ (by omega) (by omega))) ?_ (h.s.to (r _ (by omega) (by omega)) (r _ (by omega) (by omega))) (h.z.to (r0 _ (by omega)) (r0 _ (by omega)) (r _ (by omega) (by omega)) (r _ (by omega) (by omega)))
      · have e : pN (addP E (pN E) k (nI W) ws (nI D)) = pN E + 1 := by
          rw [pN, q1, cl_nI (by omega)]
        unfold iA
        rw [e]
        refine ⟨q1, by omega, fun p hp => ?_⟩
        have r2 : addP E (pN E) k (nI W) ws (nI D) 2 = up1 (E 2) (pN E) k := by unfold addP; simp only [up2_n, up2_s, ne_eq, Nat.reduceEqDiff, not_false_eq_true]
        have r3 : addP E (pN E) k (nI W) ws (nI D) 3 = up1 (E 3) (pN E) (nI W / 100) := by unfold addP; simp only [up2_n, up2_s, ne_eq, Nat.reduceEqDiff, not_false_eq_true]
        have r4 : addP E (pN E) k (nI W) ws (nI D) 4 = up1 (E 4) (pN E) (rem (nI W / 10) 10) := by unfold addP; simp only [up2_n, up2_s, ne_eq, Nat.reduceEqDiff, not_false_eq_true]
        have r5 : addP E (pN E) k (nI W) ws (nI D) 5 = up1 (E 5) (pN E) (rem (nI W) 10) := by unfold addP; simp only [up2_n, up2_s, ne_eq, Nat.reduceEqDiff, not_false_eq_true]
        have r6 : addP E (pN E) k (nI W) ws (nI D) 6 = up1 (E 6) (pN E) ws := by unfold addP; simp only [up2_n, up2_s, ne_eq, Nat.reduceEqDiff, not_false_eq_true]
        have r7 : addP E (pN E) k (nI W) ws (nI D) 7 = up1 (E 7) (pN E) (nI D / 100) := by unfold addP; simp only [up2_n, up2_s, ne_eq, Nat.reduceEqDiff, not_false_eq_true]
        have r8 : addP E (pN E) k (nI W) ws (nI D) 8 = up1 (E 8) (pN E) (rem (nI D) 100) := by unfold addP; simp only [up2_n, up2_s, ne_eq, Nat.reduceEqDiff, not_false_eq_true]
        have r9 : addP E (pN E) k (nI W) ws (nI D) 9 = up1 (E 9) (pN E) (-1) := by unfold addP; simp only [up2_n, up2_s, ne_eq, Nat.reduceEqDiff, not_false_eq_true]
        unfold PersonOk
        rw [r2, r3, r4, r5, r6, r7, r8, r9, w1, w2, w3, d1, d2]
        by_cases hpn : p = pN E
        · subst hpn
          rw [up1_s, up1_s, up1_s, up1_s, up1_s, up1_s, up1_s, up1_s]
          exact ⟨rng_inR (n := 5) (by decide) g1, ⟨_, by omega, rfl⟩, ⟨_, by omega, rfl⟩, ⟨_, by omega, rfl⟩, rng_inR (n := 255) (by decide) g3, ⟨_, by omega, by omega, rfl⟩, ⟨_, by omega, rfl⟩, Or.inl rfl⟩
        · rw [up1_n _ _ hpn, up1_n _ _ hpn, up1_n _ _ hpn, up1_n _ _ hpn, up1_n _ _ hpn, up1_n _ _ hpn, up1_n _ _ hpn, up1_n _ _ hpn]
          exact a3 p (by omega)
      · obtain ⟨b1, ⟨n, hn, b2, b3⟩, b4, b5⟩ := h.h
        have e : pN (addP E (pN E) k (nI W) ws (nI D)) = pN E + 1 := by
          rw [pN, q1, cl_nI (by omega)]
        unfold iH qN tN
        rw [e, q 7 (by omega), q 9 (by omega), q 10 (by omega), q 11 (by omega), q 2 (by omega), q 4 (by omega), r 21 (by omega) (by omega), r 22 (by omega) (by omega), r 23 (by omega) (by omega), r 24 (by omega) (by omega), r 25 (by omega) (by omega)]
        exact ⟨b1, ⟨n, by omega, b2, b3⟩, b4, b5⟩
theorem Inv_move {E : IM} (h : Inv E) (p u : Int32) : Inv (moveU E p u) := by
  unfold moveU
  split
  · exact h
  · split
    · exact h
    · rename_i h1 h2
      have h2 : rng1 u 6 := rng1_inR (n := 6) (by omega) (Classical.not_not.mp h2)
      obtain ⟨a1, a2, a3⟩ := h.a
      have r : ∀ a, a ≠ 9 → up2 E 9 (cl p) u a = E a := fun a ha => up2_n _ _ _ ha
      have q : ∀ j, up2 E 9 (cl p) u 29 j = E 29 j := fun j => by rw [r 29 (by omega)]
      refine Inv.mk' ?_ (h.b.to (q _) (fun a _ _ => r a (by omega))) (h.c.to (q _) (q _) (fun a _ _ => r a (by omega))) (h.d.to (q _) (r _ (by omega)) (r _ (by omega))) (h.f.to (q _) (q _)) (h.g.to (q _) (r _ (by omega))) (h.h.to (fun j _ => q j) (q _) (q _) (q _) (fun a _ _ => r a (by omega))) (h.s.to (r _ (by omega)) (r _ (by omega))) (h.z.to (r _ (by omega)) (r _ (by omega)) (r _ (by omega)) (r _ (by omega)))
      unfold iA pN PersonOk
      rw [q 1, r 2 (by omega), r 3 (by omega), r 4 (by omega), r 5 (by omega), r 6 (by omega), r 7 (by omega), r 8 (by omega)]
      refine ⟨a1, a2, fun i hi => ?_⟩
      obtain ⟨x1, x2, x3, x4, x5, x6, x7, x8⟩ := a3 i hi
      refine ⟨x1, x2, x3, x4, x5, x6, x7, ?_⟩
      rw [up2_s]
      by_cases e : i = cl p
      · rw [e, up1_s]
        exact h2
      · rw [up1_n _ _ e]
        exact x8
theorem Inv_promise {E : IM} (h : Inv E) (w n v g : Int32) : Inv (promiseU E w n v g) := by
  unfold promiseU
  split
  · exact h
  · split
    · exact h
    · rename_i h1 h2
      obtain ⟨a1, a2, a3⟩ := h.b
      obtain ⟨g1, g2, g3, g4⟩ := Classical.not_not.mp h1
      have h2 := Classical.not_not.mp h2
      rw [a1] at h2 g4
      have h8 : qN E < 8 := (nI_ltI (b := 8) (by omega) (by omega)).mp h2
      obtain ⟨N, hN, eN⟩ := nat_of (n := 99) (by decide) (by decide) g2
      have hN1 : 1 ≤ N := by
        subst eN
        by_cases z : 1 ≤ N
        · exact z
        · exact absurd g2.1 (nI_ge (b := 1) (by omega) (by omega))
      have r : ∀ a, (a < 10 ∨ 13 < a) → a ≠ 29 → addQ E (qN E) w n v g a = E a := fun a _ _ => by
        unfold addQ
        rw [up2_n _ _ _ (by omega), up2_n _ _ _ (by omega), up2_n _ _ _ (by omega), up2_n _ _ _ (by omega), up2_n _ _ _ (by omega)]
      have q : ∀ j, j ≠ 2 → addQ E (qN E) w n v g 29 j = E 29 j := fun j hj => by
        unfold addQ
        rw [up2_s, up1_n _ _ hj]
        simp only [up2_n, up2_s, ne_eq, Nat.reduceEqDiff, not_false_eq_true]
      have q2 : addQ E (qN E) w n v g 29 2 = nI (qN E + 1) := by
        unfold addQ
        rw [up2_s, up1_s]
        exact nI_1 _
      have e : qN (addQ E (qN E) w n v g) = qN E + 1 := by
        rw [qN, q2, cl_nI (by omega)]
      refine Inv.mk' (h.a.to (q _ (by omega)) (fun a _ _ => r a (by omega) (by omega))) ?_ ?_ (h.d.to (q _ (by omega)) (r _ (by omega) (by omega)) (r _ (by omega) (by omega))) (h.f.to (q _ (by omega)) (q _ (by omega))) (h.g.to (q _ (by omega)) (r _ (by omega) (by omega))) ?_ (h.s.to (r _ (by omega) (by omega)) (r _ (by omega) (by omega))) (h.z.to (r _ (by omega) (by omega)) (r _ (by omega) (by omega)) (r _ (by omega) (by omega)) (r _ (by omega) (by omega)))
      · unfold iB
        rw [e]
        refine ⟨q2, by omega, fun p hp => ?_⟩
        have r2 : addQ E (qN E) w n v g 10 = up1 (E 10) (qN E) w := by unfold addQ; simp only [up2_n, up2_s, ne_eq, Nat.reduceEqDiff, not_false_eq_true]
        have r3 : addQ E (qN E) w n v g 11 = up1 (E 11) (qN E) n := by unfold addQ; simp only [up2_n, up2_s, ne_eq, Nat.reduceEqDiff, not_false_eq_true]
        have r4 : addQ E (qN E) w n v g 12 = up1 (E 12) (qN E) v := by unfold addQ; simp only [up2_n, up2_s, ne_eq, Nat.reduceEqDiff, not_false_eq_true]
        have r5 : addQ E (qN E) w n v g 13 = up1 (E 13) (qN E) g := by unfold addQ; simp only [up2_n, up2_s, ne_eq, Nat.reduceEqDiff, not_false_eq_true]
        unfold PromiseOk
        rw [r2, r3, r4, r5]
        by_cases hpn : p = qN E
        · subst hpn
          rw [up1_s, up1_s, up1_s, up1_s]
          exact ⟨rng_inR (n := 7) (by decide) g1, ⟨N, hN1, by omega, eN⟩, rng_inR (n := 99) (by decide) g3, rng1_inR (by omega) g4⟩
        · rw [up1_n _ _ hpn, up1_n _ _ hpn, up1_n _ _ hpn, up1_n _ _ hpn]
          exact a3 p (by omega)
      · obtain ⟨c1, c2, c3⟩ := h.c
        unfold iC sN
        rw [e, q 3 (by omega), r 14 (by omega) (by omega), r 15 (by omega) (by omega), r 16 (by omega) (by omega), r 17 (by omega) (by omega)]
        exact ⟨c1, c2, fun s hs => (c3 s hs).up (by omega)⟩
      · obtain ⟨b1, b2, ⟨m, hm, b4, b5⟩, b6⟩ := h.h
        unfold iH pN tN
        rw [e, q 7 (by omega), q 9 (by omega), q 10 (by omega), q 11 (by omega), q 1 (by omega), q 4 (by omega), r 21 (by omega) (by omega), r 22 (by omega) (by omega), r 23 (by omega) (by omega), r 24 (by omega) (by omega), r 25 (by omega) (by omega)]
        exact ⟨b1, b2, ⟨m, hm, b4, fun s hs => (b5 s hs).up (by omega)⟩, b6⟩
