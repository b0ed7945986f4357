/-! what holds of the state, after each call: sayings, moves, images, sheets -/
theorem how_ok3 {h : Int32} (hh : isHowP h) : rng (h / 100) 6 ∧ rng (rem (h / 10) 10) 6 ∧ ∃ k, 1 ≤ k ∧ k < 10 ∧ rem h 10 = nI k := by
  obtain ⟨h1, h2, h3⟩ := hh
  obtain ⟨H, hH, rfl⟩ := inR_of (n := 599) (by decide) h1
  have w1 : nI H / 100 = nI (H / 100) := pk_div (d := 100) (by omega) (by omega) (by omega)
  have w2 : rem (nI H / 10) 10 = nI (H / 10 % 10) := by
    rw [show nI H / 10 = nI (H / 10) from pk_div (d := 10) (by omega) (by omega) (by omega)]
    exact pk_rem (d := 10) (by omega) (by omega) (by omega)
  have w3 : rem (nI H) 10 = nI (H % 10) := pk_rem (d := 10) (by omega) (by omega) (by omega)
  rw [w2] at h2
  rw [w3] at h3
  rw [w1, w2, w3]
  have l2 : H / 10 % 10 < 6 := (nI_ltI (b := 6) (by omega) (by omega)).mp h2
  have l3 : 0 < H % 10 := (nI_ltI (a := 0) (by omega) (by omega)).mp h3
  exact ⟨⟨_, by omega, rfl⟩, ⟨_, l2, rfl⟩, ⟨_, l3, by omega, rfl⟩⟩
theorem Inv_say {E : IM} (h : Inv E) (q0 hw : Int32) : Inv (sayU E q0 hw) := by
  unfold sayU
  split
  · exact h
  · split
    · exact h
    · rename_i h1 h2
      obtain ⟨a1, a2, a3⟩ := h.c
      obtain ⟨g1, g2⟩ := Classical.not_not.mp h1
      have h2 := Classical.not_not.mp h2
      rw [a1] at h2
      rw [h.b.1] at g1
      have hb8 := h.b.2.1
      obtain ⟨k, hk, rfl⟩ := has_nat (by omega) g1
      have h10 : sN E < 10 := (nI_ltI (b := 10) (by omega) (by omega)).mp h2
      obtain ⟨o1, o2, o3⟩ := how_ok3 g2
      have r : ∀ a, (a < 14 ∨ 17 < a) → a ≠ 29 → addS E (sN E) (nI k) hw a = E a := fun a _ _ => by
        unfold addS sputV
        rw [up2_n _ _ _ (by omega), up2_n _ _ _ (by omega), up2_n _ _ _ (by omega), up2_n _ _ _ (by omega), up2_n _ _ _ (by omega)]
      have q : ∀ j, j ≠ 3 → addS E (sN E) (nI k) hw 29 j = E 29 j := fun j hj => by
        unfold addS sputV
        rw [up2_s, up1_n _ _ hj]
        simp only [up2_n, up2_s, ne_eq, Nat.reduceEqDiff, not_false_eq_true]
      have q3 : addS E (sN E) (nI k) hw 29 3 = nI (sN E + 1) := by
        unfold addS
        rw [up2_s, up1_s]
        exact nI_1 _
      have e : sN (addS E (sN E) (nI k) hw) = sN E + 1 := by
        rw [sN, q3, cl_nI (by omega)]
      refine Inv.mk' (h.a.to (q _ (by omega)) (fun a _ _ => r a (by omega) (by omega))) (h.b.to (q _ (by omega)) (fun a _ _ => r a (by omega) (by omega))) ?_ (h.d.to (q _ (by omega)) (r _ (by omega) (by omega)) (r _ (by omega) (by omega))) (h.f.to (q _ (by omega)) (q _ (by omega))) (h.g.to (q _ (by omega)) (r _ (by omega) (by omega))) (h.h.to (fun j _ => q j (by omega)) (q _ (by omega)) (q _ (by omega)) (q _ (by omega)) (fun a _ _ => r a (by omega) (by omega))) (h.s.to (r _ (by omega) (by omega)) (r _ (by omega) (by omega))) (h.z.to (r _ (by omega) (by omega)) (r _ (by omega) (by omega)) (r _ (by omega) (by omega)) (r _ (by omega) (by omega)))
      unfold iC qN
      rw [e, q 2 (by omega)]
      refine ⟨q3, by omega, fun s hs => ?_⟩
      have r2 : addS E (sN E) (nI k) hw 14 = up1 (E 14) (sN E) (nI k) := by unfold addS sputV; simp only [up2_n, up2_s, ne_eq, Nat.reduceEqDiff, not_false_eq_true]
      have r3 : addS E (sN E) (nI k) hw 15 = up1 (E 15) (sN E) (hw / 100) := by unfold addS sputV; simp only [up2_n, up2_s, ne_eq, Nat.reduceEqDiff, not_false_eq_true]
      have r4 : addS E (sN E) (nI k) hw 16 = up1 (E 16) (sN E) (rem (hw / 10) 10) := by unfold addS sputV; simp only [up2_n, up2_s, ne_eq, Nat.reduceEqDiff, not_false_eq_true]
      have r5 : addS E (sN E) (nI k) hw 17 = up1 (E 17) (sN E) (rem hw 10) := by unfold addS sputV; simp only [up2_n, up2_s, ne_eq, Nat.reduceEqDiff, not_false_eq_true]
      rw [r2, r3, r4, r5]
      by_cases hpn : s = sN E
      · subst hpn
        rw [up1_s, up1_s, up1_s, up1_s]
        exact ⟨⟨k, hk, rfl⟩, o1, o2, o3⟩
      · rw [up1_n _ _ hpn, up1_n _ _ hpn, up1_n _ _ hpn, up1_n _ _ hpn]
        exact a3 s (by omega)
theorem Inv_unsay {E : IM} (h : Inv E) : Inv (unsayU E) := by
  unfold unsayU
  split
  · exact h
  · obtain ⟨a1, a2, a3⟩ := h.c
    have r : ∀ a, (a < 14 ∨ 17 < a) → a ≠ 29 → cutS4 E (sN E - 1) a = E a := fun a _ _ => by
      unfold cutS4
      rw [upr_n _ _ (by omega), upr_n _ _ (by omega), upr_n _ _ (by omega), upr_n _ _ (by omega), up2_n _ _ _ (by omega)]
    have q : ∀ j, j ≠ 3 → cutS4 E (sN E - 1) 29 j = E 29 j := fun j hj => by
      unfold cutS4
      rw [upr_n _ _ (by omega), upr_n _ _ (by omega), upr_n _ _ (by omega), upr_n _ _ (by omega), up2_s, up1_n _ _ hj]
    have q3 : cutS4 E (sN E - 1) 29 3 = nI (sN E - 1) := by
      unfold cutS4
      rw [upr_n _ _ (by omega), upr_n _ _ (by omega), upr_n _ _ (by omega), upr_n _ _ (by omega), up2_s, up1_s]
    have e : sN (cutS4 E (sN E - 1)) = sN E - 1 := by
      rw [sN, q3, cl_nI (by omega)]
    refine Inv.mk' (h.a.to (q _ (by omega)) (fun a _ _ => r a (by omega) (by omega))) (h.b.to (q _ (by omega)) (fun a _ _ => r a (by omega) (by omega))) ?_ (h.d.to (q _ (by omega)) (r _ (by omega) (by omega)) (r _ (by omega) (by omega))) (h.f.to (q _ (by omega)) (q _ (by omega))) (h.g.to (q _ (by omega)) (r _ (by omega) (by omega))) (h.h.to (fun j _ => q j (by omega)) (q _ (by omega)) (q _ (by omega)) (q _ (by omega)) (fun a _ _ => r a (by omega) (by omega))) (h.s.to (r _ (by omega) (by omega)) (r _ (by omega) (by omega))) (h.z.to (r _ (by omega) (by omega)) (r _ (by omega) (by omega)) (r _ (by omega) (by omega)) (r _ (by omega) (by omega)))
    unfold iC qN
    rw [e, q 2 (by omega)]
    refine ⟨q3, by omega, fun s hs => ?_⟩
    have r2 : cutS4 E (sN E - 1) 14 s = E 14 s := by unfold cutS4; simp only [up2_n, up2_s, ne_eq, Nat.reduceEqDiff, not_false_eq_true, upr_n, upr_s]; exact mk_lt hs
    have r3 : cutS4 E (sN E - 1) 15 s = E 15 s := by unfold cutS4; simp only [up2_n, up2_s, ne_eq, Nat.reduceEqDiff, not_false_eq_true, upr_n, upr_s]; exact mk_lt hs
    have r4 : cutS4 E (sN E - 1) 16 s = E 16 s := by unfold cutS4; simp only [up2_n, up2_s, ne_eq, Nat.reduceEqDiff, not_false_eq_true, upr_n, upr_s]; exact mk_lt hs
    have r5 : cutS4 E (sN E - 1) 17 s = E 17 s := by unfold cutS4; simp only [up2_n, up2_s, ne_eq, Nat.reduceEqDiff, not_false_eq_true, upr_n, upr_s]; exact mk_lt hs
    rw [r2, r3, r4, r5]
    exact a3 s (by omega)
theorem Inv_rsI (K : Nat) : ∀ (k p : Nat) (E : IM) (d : Nat), Inv E → Inv (rsI K k p E d).1 := by
  intro k
  induction k with
  | zero => intro p E d h; exact h
  | succ j ih =>
    intro p E d h
    rw [rsI]
    split
    · split
      · exact ih _ _ _ (Inv_mv h p (Nat.lt_of_le_of_lt (leR_le _ 5) (by omega)))
      · exact ih _ _ _ h
    · exact h
theorem Inv_rsO (K : Nat) : ∀ (k : Nat) (E : IM) (d : Nat), Inv E → Inv (rsO K k E d).1 := by
  intro k
  induction k with
  | zero => intro E d h; exact h
  | succ j ih =>
    intro E d h
    rw [rsO]
    split
    · exact Inv_rsI K _ _ _ _ h
    · exact ih _ _ (Inv_rsI K _ _ _ _ h)
theorem Inv_rest {E : IM} (h : Inv E) (k : Int32) : Inv (restU E k) := by
  unfold restU
  split
  · exact h
  · exact Inv_rsO _ _ _ _ h
theorem Inv_image {E : IM} (h : Inv E) : Inv (imageU E) := by
  obtain ⟨a1, a2, a3⟩ := h.a
  refine Inv.mk' (h.a.to rfl (fun a _ _ => ?_)) (h.b.to rfl (fun a _ _ => ?_)) (h.c.to rfl rfl (fun a _ _ => ?_)) (h.d.to rfl rfl rfl) (h.f.to rfl rfl) (h.g.to rfl rfl) ⟨Or.inr rfl, ⟨pN E, Nat.le_refl _, a1, fun p hp => (a3 p hp).2.2.2.2.2.2.2⟩, ⟨sN E, h.c.2.1, h.c.1, h.c.2.2⟩, ⟨wN E, h.f.2, h.f.1⟩⟩ (h.s.to rfl rfl) (fun j => ⟨fun hj => ⟨((h.z j).1 hj).1, ((h.z j).1 hj).1⟩, fun hj => ⟨((h.z j).2 hj).1, ((h.z j).2 hj).1⟩⟩)
  · rcases (show a = 2 ∨ a = 3 ∨ a = 4 ∨ a = 5 ∨ a = 6 ∨ a = 7 ∨ a = 8 ∨ a = 9 by omega) with rfl | rfl | rfl | rfl | rfl | rfl | rfl | rfl <;> rfl
  · rcases (show a = 10 ∨ a = 11 ∨ a = 12 ∨ a = 13 by omega) with rfl | rfl | rfl | rfl <;> rfl
  · rcases (show a = 14 ∨ a = 15 ∨ a = 16 ∨ a = 17 by omega) with rfl | rfl | rfl | rfl <;> rfl
theorem Inv_back {E : IM} (h : Inv E) : Inv (backU E) := by
  unfold backU
  split
  · obtain ⟨a1, a2, a3⟩ := h.a
    obtain ⟨b1, ⟨n, hn, b2, b3⟩, ⟨m, hm, b4, b5⟩, ⟨w, hw, b6⟩⟩ := h.h
    refine Inv.mk' ⟨a1, a2, fun p hp => ?_⟩ (h.b.to rfl (fun a _ _ => ?_)) ?_ (h.d.to rfl rfl rfl) ?_ (h.g.to rfl rfl) (h.h.to (fun j hj => ?_) rfl rfl rfl (fun a _ _ => ?_)) (h.s.to rfl rfl) (fun j => ⟨fun hj => ⟨((h.z j).1 hj).2, ((h.z j).1 hj).2⟩, fun hj => ⟨((h.z j).2 hj).2, ((h.z j).2 hj).2⟩⟩)
    · obtain ⟨x1, x2, x3, x4, x5, x6, x7, x8⟩ := a3 p hp
      refine ⟨x1, x2, x3, x4, x5, x6, x7, ?_⟩
      show rng1 (if p < cl (E 29 9) then E 21 p else E 9 p) 6
      rw [b2, cl_nI (by omega)]
      split
      · rename_i z
        exact b3 p z
      · exact x8
    · rcases (show a = 10 ∨ a = 11 ∨ a = 12 ∨ a = 13 by omega) with rfl | rfl | rfl | rfl <;> rfl
    · have e : sN (backU0 E) = m := by
        show cl (E 29 10) = m
        rw [b4, cl_nI (by omega)]
      unfold iC
      rw [e]
      exact ⟨b4, hm, b5⟩
    · have e : wN (backU0 E) = w := by
        show cl (E 29 11) = w
        have := h.d.2.2.1
        rw [b6, cl_nI (by omega)]
      unfold iF
      rw [e]
      exact ⟨b6, hw⟩
    · show backU0 E 29 j = E 29 j
      match j, hj with
      | 7, _ => rfl
      | 8, _ => rfl
      | 9, _ => rfl
      | 10, _ => rfl
      | 11, _ => rfl
      | j + 12, _ => rfl
    · rcases (show a = 21 ∨ a = 22 ∨ a = 23 ∨ a = 24 ∨ a = 25 by omega) with rfl | rfl | rfl | rfl | rfl <;> rfl
  · exact h
theorem Inv_28 {E : IM} (h : Inv E) (f : Nat → Int32) : Inv (upr E 28 f) := by
  have r : ∀ a, a ≠ 28 → upr E 28 f a = E a := fun a ha => upr_n _ _ ha
  have q : ∀ j, upr E 28 f 29 j = E 29 j := fun j => by rw [r 29 (by omega)]
  exact Inv.mk' (h.a.to (q _) (fun a _ _ => r a (by omega))) (h.b.to (q _) (fun a _ _ => r a (by omega))) (h.c.to (q _) (q _) (fun a _ _ => r a (by omega))) (h.d.to (q _) (r _ (by omega)) (r _ (by omega))) (h.f.to (q _) (q _)) (h.g.to (q _) (r _ (by omega))) (h.h.to (fun j _ => q j) (q _) (q _) (q _) (fun a _ _ => r a (by omega))) (h.s.to (r _ (by omega)) (r _ (by omega))) (h.z.to (r _ (by omega)) (r _ (by omega)) (r _ (by omega)) (r _ (by omega)))
theorem Inv_cell {E : IM} (h : Inv E) (s i v : Int32) : Inv (cellU E s i v) := by
  unfold cellU
  split
  · exact Inv_28 h _
  · exact h
theorem Inv_copy {E : IM} (h : Inv E) (s i o j n : Int32) : Inv (copyU E s i o j n) := by
  unfold copyU
  split
  · exact h
  · split
    · exact h
    · split
      · exact h
      · split
        · exact h
        · exact Inv_28 h _
theorem Inv_sheet {E : IM} (h : Inv E) (s k n : Int32) : Inv (sheetU E s k n) := by
  unfold sheetU
  split
  · exact h
  · split
    · exact h
    · rename_i h1 h2
      obtain ⟨g1, g2, g3⟩ := Classical.not_not.mp h1
      obtain ⟨i, hi, rfl⟩ := inR_of (n := 3) (by decide) g1
      rw [cl_nI (by omega)]
      unfold shU
      refine Inv_28 ?_ _
      have r : ∀ a, a ≠ 26 → a ≠ 27 → up2 (up2 E 26 i k) 27 i (if k = -1 then 0 else n) a = E a := fun a h1 h2 => by rw [up2_n _ _ _ h2, up2_n _ _ _ h1]
      have q : ∀ j, up2 (up2 E 26 i k) 27 i (if k = -1 then 0 else n) 29 j = E 29 j := fun j => by rw [r 29 (by omega) (by omega)]
      refine Inv.mk' (h.a.to (q _) (fun a _ _ => r a (by omega) (by omega))) (h.b.to (q _) (fun a _ _ => r a (by omega) (by omega))) (h.c.to (q _) (q _) (fun a _ _ => r a (by omega) (by omega))) (h.d.to (q _) (r _ (by omega) (by omega)) (r _ (by omega) (by omega))) (h.f.to (q _) (q _)) (h.g.to (q _) (r _ (by omega) (by omega))) (h.h.to (fun j _ => q j) (q _) (q _) (q _) (fun a _ _ => r a (by omega) (by omega))) ?_ (h.z.to (r _ (by omega) (by omega)) (r _ (by omega) (by omega)) (r _ (by omega) (by omega)) (r _ (by omega) (by omega)))
      have hn : rng (if k = -1 then 0 else n) 41 := by
        split
        · exact ⟨0, by omega, rfl⟩
        · rename_i hk
          refine rng_inR (M := 40) (n := 40) (by decide) ⟨Int32.not_lt.mp (fun z => h2 ⟨hk, z⟩), g3.elim (fun z => absurd z hk) id⟩
      intro s hs
      have e26 : up2 (up2 E 26 i k) 27 i (if k = -1 then 0 else n) 26 = up1 (E 26) i k := by simp only [up2_n, up2_s, ne_eq, Nat.reduceEqDiff, not_false_eq_true]
      have e27 : up2 (up2 E 26 i k) 27 i (if k = -1 then 0 else n) 27 = up1 (E 27) i (if k = -1 then 0 else n) := by simp only [up2_n, up2_s, ne_eq, Nat.reduceEqDiff, not_false_eq_true]
      rw [e26, e27]
      by_cases e : s = i
      · subst e
        rw [up1_s, up1_s]
        refine ⟨rng1_inR (n := 3) (by omega) g2, hn, fun z => by rw [if_pos z]⟩
      · rw [up1_n _ _ e, up1_n _ _ e]
        exact h.s s hs
