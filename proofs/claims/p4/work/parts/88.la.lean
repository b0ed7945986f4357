/-! the law: both sides together -/
theorem cE_lo {I I' : IM} (h : ∀ k, k < 59 → I' k = I k) : cE I' = cE I := by
  funext a
  have e29 : cSc I' = cSc I := by
    funext j
    unfold cSc
    rw [h 1 (by decide), h 4 (by decide), h 13 (by decide), h 18 (by decide), h 30 (by decide), h 23 (by decide), h 45 (by decide), h 46 (by decide), h 49 (by decide)]
  unfold cE
  rw [e29, h 2 (by decide), h 3 (by decide), h 4 (by decide), h 5 (by decide), h 6 (by decide), h 7 (by decide), h 8 (by decide), h 9 (by decide), h 10 (by decide), h 11 (by decide), h 12 (by decide), h 14 (by decide), h 15 (by decide), h 16 (by decide), h 17 (by decide), h 18 (by decide), h 19 (by decide), h 20 (by decide), h 21 (by decide), h 22 (by decide), h 23 (by decide), h 24 (by decide), h 30 (by decide), h 31 (by decide), h 32 (by decide), h 45 (by decide), h 47 (by decide), h 48 (by decide), h 49 (by decide), h 50 (by decide), h 51 (by decide), h 52 (by decide), h 53 (by decide), h 54 (by decide), h 56 (by decide), h 57 (by decide), h 58 (by decide)]
theorem rE_hi {I I' : IM} (h : ∀ k, 59 ≤ k → I' k = I k) : rE I' = rE I := by
  funext a
  have e29 : rSc I' = rSc I := by
    funext j
    unfold rSc
    rw [h 59 (by decide)]
  unfold rE
  rw [e29, h 59 (by decide), h 60 (by decide), h 61 (by decide), h 62 (by decide), h 63 (by decide), h 64 (by decide), h 65 (by decide), h 66 (by decide), h 67 (by decide), h 68 (by decide), h 69 (by decide), h 70 (by decide), h 71 (by decide), h 72 (by decide), h 73 (by decide), h 74 (by decide), h 75 (by decide), h 76 (by decide), h 77 (by decide), h 78 (by decide), h 79 (by decide), h 80 (by decide), h 81 (by decide), h 82 (by decide), h 83 (by decide), h 84 (by decide), h 85 (by decide), h 86 (by decide), h 87 (by decide), h 88 (by decide), h 89 (by decide), h 90 (by decide)]
/-- both sides hold the same -/
def Rel (I : IM) : Prop := cE I = rE I ∧ Inv (rE I) ∧ rOwn I
theorem Rel.c {I : IM} (h : Rel I) : cOk I := by
  unfold cOk
  rw [h.1]
  exact h.2.1
theorem Rel.mid {I I1 : IM} (h : Rel I) (k1 : ∀ k, 59 ≤ k → I1 k = I k) : rE I1 = cE I ∧ rOk I1 := by
  have e : rE I1 = rE I := rE_hi k1
  refine ⟨e.trans h.1.symm, ?_, ?_⟩
  · rw [e]
    exact h.2.1
  · obtain ⟨a1, a2, a3⟩ := h.2.2
    unfold rOwn
    rw [k1 59 (by decide), k1 92 (by decide)]
    exact ⟨a1, a2, a3⟩
theorem Rel.step {I I1 I2 : IM} (h : Rel I) (u : IM → IM) (k1 : ∀ k, 59 ≤ k → I1 k = I k) (e1 : cE I1 = u (cE I)) (k2 : ∀ k, k < 59 → I2 k = I1 k) (own : rOwn I2) (e2 : rE I2 = u (rE I1)) (hi : Inv (u (cE I))) : Rel I2 := by
  have e3 : rE I2 = u (cE I) := by rw [e2, (h.mid k1).1]
  refine ⟨?_, ?_, own⟩
  · rw [cE_lo k2, e1, e3]
  · rw [e3]
    exact hi
/-- the law's locals: the script, both objects, the place -/
abbrev lc (i : Nat) : List Value := [.ref (1000000 + 200), .ref 0, .ref 59, .int (nI i)]
section ARGS
variable {G : WG} {r : Nat × Nat × Nat} {S : Shp} {I : IM} {L : LM} {pc : Nat} {rest : List Value} {Post : PostT} {i : Nat}
theorem x_arg {k : Nat} {q : Int} (h0 : decode (mcc mLaw_law) pc = .ok (.aload_n 0, 1)) (h1 : decode (mcc mLaw_law) (pc + 1) = .ok (.iload_n 3, 1)) (h2 : decode (mcc mLaw_law) (pc + 2) = .ok (.iconst q, 1)) (hq : Int32.ofInt q = nI k) (h3 : decode (mcc mLaw_law) (pc + 3) = .ok (.iadd, 1)) (h4 : decode (mcc mLaw_law) (pc + 4) = .ok (.iaload, 1)) (hk : i + k < gL G) (hL : gL G ≤ 448)
    (kk : X mLaw_law G r S I L (pc + 5) (lc i) (.int (gx G (i + k)) :: rest) Post) : X mLaw_law G r S I L pc (lc i) rest Post := by
  refine x_aload_n h0 rfl ?_
  refine x_iload_n h1 rfl ?_
  refine x_iconst h2 hq ?_
  refine x_iadd h3 ?_
  rw [nI_add]
  refine x_ialdS h4 (vp_in_nI hk (by omega)) ?_
  rw [nI_clamp (n := i + k) (by omega)]
  exact kk
theorem x_arg6 {k : Nat} {q : Int} (h0 : decode (mcc mLaw_law) pc = .ok (.aload_n 0, 1)) (h1 : decode (mcc mLaw_law) (pc + 1) = .ok (.iload_n 3, 1)) (h2 : decode (mcc mLaw_law) (pc + 2) = .ok (.bipush q, 2)) (hq : (Int8.ofInt q).toInt32 = nI k) (h3 : decode (mcc mLaw_law) (pc + 4) = .ok (.iadd, 1)) (h4 : decode (mcc mLaw_law) (pc + 5) = .ok (.iaload, 1)) (hk : i + k < gL G) (hL : gL G ≤ 448)
    (kk : X mLaw_law G r S I L (pc + 6) (lc i) (.int (gx G (i + k)) :: rest) Post) : X mLaw_law G r S I L pc (lc i) rest Post := by
  refine x_aload_n h0 rfl ?_
  refine x_iload_n h1 rfl ?_
  refine x_bipush h2 hq ?_
  refine x_iadd h3 ?_
  rw [nI_add]
  refine x_ialdS h4 (vp_in_nI hk (by omega)) ?_
  rw [nI_clamp (n := i + k) (by omega)]
  exact kk
end ARGS
theorem and63 (x : Int32) : ∃ n, n < 64 ∧ x &&& 63 = nI n := by
  have h1 : (x &&& 63).toBitVec.toNat < 64 := by
    show (x.toBitVec &&& (63 : Int32).toBitVec).toNat < 64
    rw [BitVec.toNat_and]
    exact Nat.lt_of_le_of_lt Nat.and_le_right (by decide)
  refine ⟨(x &&& 63).toBitVec.toNat, h1, ?_⟩
  apply Int32.toBitVec_inj.mp
  show (x &&& 63).toBitVec = (Int32.ofNat (x &&& 63).toBitVec.toNat).toBitVec
  simp
theorem Inv_E0 : Inv E0 := by
  have p0 : pN E0 = 0 := rfl
  have q0 : qN E0 = 0 := rfl
  have s0 : sN E0 = 0 := rfl
  have t0 : tN E0 = 1 := rfl
  have w0 : wN E0 = 0 := rfl
  have z0 : zN E0 = 0 := rfl
  have a0 : sA E0 0 0 = 0 := rfl
  have a1 : sA E0 0 1 = 13 := rfl
  have a2 : sA E0 0 2 = 14 := rfl
  have a3 : sA E0 0 3 = 17 := rfl
  refine ⟨⟨by rw [p0]; rfl, by omega, fun p hp => by omega⟩, ⟨by rw [q0]; rfl, by omega, fun q hq => by omega⟩, ⟨by rw [s0]; rfl, by omega, fun s hs => by omega⟩, ⟨by rw [t0]; rfl, by omega, by omega, fun t ht => ?_⟩, ⟨by rw [w0]; rfl, by omega⟩, ⟨by rw [z0]; rfl, by omega, fun i hi => by omega⟩, ⟨Or.inl rfl, ⟨0, by omega, rfl, fun p hp => by omega⟩, ⟨0, by omega, rfl, fun s hs => by omega⟩, ⟨0, by omega, rfl⟩⟩, fun s hs => ?_, fun j => ⟨fun hj => ?_, fun hj => ?_⟩⟩
  · obtain rfl : t = 0 := by omega
    refine ⟨fun j hj => ?_, a0, by omega, by omega, by omega, by omega, fun j hj => ?_⟩
    · rcases (show j = 0 ∨ j = 1 ∨ j = 2 ∨ j = 3 by omega) with rfl | rfl | rfl | rfl <;> rfl
    · rcases (show j = 0 ∨ j = 1 ∨ j = 2 by omega) with rfl | rfl | rfl
      · rw [a0, a1]
        decide +kernel
      · rw [a1, a2]
        decide +kernel
      · rw [a2, a3]
        decide +kernel
  · refine ⟨Or.inl ?_, ⟨0, by omega, rfl⟩, fun _ => rfl⟩
    rcases (show s = 0 ∨ s = 1 ∨ s = 2 ∨ s = 3 by omega) with rfl | rfl | rfl | rfl <;> rfl
  · have e : fa0 j = 0 := if_neg (by omega)
    exact ⟨e, e⟩
  · exact ⟨rfl, rfl⟩
theorem wRef_E0 (s : Int32) : ¬ wRef E0 s = 0 := by
  unfold wRef
  by_cases c : inR s 0 3
  · rw [if_neg (not_not_intro c)]
    obtain ⟨k, hk, rfl⟩ := inR_of (n := 3) (by decide) c
    have e : E0 26 (cl (nI k)) = -1 := by
      rw [cl_nI (by omega)]
      rcases (show k = 0 ∨ k = 1 ∨ k = 2 ∨ k = 3 by omega) with rfl | rfl | rfl | rfl <;> rfl
    rw [if_pos e]
    decide
  · rw [if_pos c]
    decide
theorem alBad_E0 (p s : Int32) : ¬ alBad E0 p s = 0 := by
  unfold alBad
  by_cases c : ¬ inR p 0 (E0 29 1 - 1)
  · rw [if_pos c]
    decide
  · rw [if_neg c]
    exact wRef_E0 s
