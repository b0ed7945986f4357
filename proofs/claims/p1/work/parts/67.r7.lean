/-! the reference: who hears CLEARLY, what is owed -/
/-- lots or none: the sets of who hears CLEARLY, at a saying -/
def Md (I : IM) (L : LM) (V : IM) (P : Nat → List Int32) (n : Nat) (C : Nat → Int32) (s : Nat) : Prop := (I 59 55 = 0 ∧ C = CC V P n) ∨ (I 59 55 = 1 ∧ ∃ a, L 59 56 = lot a (s * n) ∧ C = CDr V P n a)
theorem Md.fr {I I' : IM} {L : LM} {V : IM} {P : Nat → List Int32} {n s : Nat} {C : Nat → Int32} (h : Md I L V P n C s) (h1 : I' 59 = I 59) : Md I' L V P n C s := by
  unfold Md at h ⊢
  rw [h1]
  exact h
theorem Md.any {I : IM} {L L' : LM} {V : IM} {P : Nat → List Int32} {n s s' : Nat} {C : Nat → Int32} (h : Md I L V P n C s) (h0 : I 59 55 = 0) : Md I L' V P n C s' := by
  rcases h with h | h
  · exact Or.inl h
  · rw [h.1] at h0
    exact absurd h0 (by decide)
theorem Md.bs {I : IM} {L : LM} {V : IM} {P : Nat → List Int32} {n s : Nat} {C : Nat → Int32} (h : Md I L V P n C s) : ∀ s, ∃ f, C s = bs n f := by
  intro x
  rcases h with ⟨-, rfl⟩ | ⟨-, a, -, rfl⟩
  · exact ⟨clF V P x, rfl⟩
  · exact ⟨dF a n (hearV V P) x, rfl⟩
/-- what the reckoning rests on -/
def RkOk (I : IM) (P : Nat → List Int32) (n m : Nat) : Prop := I 59 3 = nI n ∧ n ≤ 8 ∧ m ≤ 11 ∧ (∀ p, p < n → PerV (rV I) p) ∧ (∀ s, s < m → SayV (rV I) s) ∧ RTx I P
theorem RkOk.fr {I I' : IM} {P : Nat → List Int32} {n m : Nat} (h : RkOk I P n m) (hF : Fr [93, 94, 95, 96, 97, 98, 99] I I') : RkOk I' P n m := by
  obtain ⟨a1, a2, a3, a4, a5, a6⟩ := h
  refine ⟨by rw [hF 59 (by decide)]; exact a1, a2, a3, ?_, ?_, a6.fr (hF 59 (by decide)) (hF 79 (by decide)) (hF 80 (by decide))⟩
  · rw [rV_fr hF]; exact a4
  · rw [rV_fr hF]; exact a5
/-- one more step of a drawing, between two of PEOPLE -/
def MdP (I : IM) (L : LM) (V : IM) (P : Nat → List Int32) (n : Nat) (C : Nat → Int32) (s p : Nat) : Prop := (I 59 55 = 0 ∧ C = CC V P n) ∨ (I 59 55 = 1 ∧ ∃ a, L 59 56 = lot a (s * n + p) ∧ C = CDr V P n a)
def sp_R_isClear : SpT := fun as S I L Post => ∃ (s p n : Nat) (P : Nat → List Int32) (C : Nat → Int32), as = [.ref 59, .int (nI s), .int (nI p)] ∧ S = S1 ∧ s < 11 ∧ p < n ∧ n ≤ 8 ∧ SayV (rV I) s ∧ PerV (rV I) p ∧ RTx I P ∧ MdP I L (rV I) P n C s p ∧
  ∀ (I' : IM) (L' : LM) (b : Bool), Fr [94, 95] I I' → MdP I' L' (rV I) P n C s (p + 1) → (∀ f, C s = bs n f → b = f p) → (∃ f, C s = bs n f ∧ b = f p) → Post (some (.int (if b then 1 else 0))) S1 I' L'
theorem bs_inj {n p : Nat} {f g : Nat → Bool} (hn : n ≤ 32) (hp : p < n) (h : bs n f = bs n g) : f p = g p := by
  have h1 := bt_bs f n hn p (by omega)
  have h2 := bt_bs g n hn p (by omega)
  rw [h, h2] at h1
  simp [hp] at h1
  exact h1.symm
set_option maxHeartbeats 4000000 in
set_option maxRecDepth 100000 in
theorem c_R_isClear : Con mR_isClear 5 0 0 sp_R_isClear := by
  refine con_of_X rfl fun G as S I L Post hs => ?_
  obtain ⟨s, p, n, P, C, rfl, rfl, hs, hp, hn8, hsv, hper, hT, hM, h1⟩ := hs
  refine ⟨1, Nat.le_of_ble_eq_true rfl, ?_⟩
  show X mR_isClear G _ S1 I L 0 [.ref 59, .int (nI s), .int (nI p), .null] [] Post
  refine x_aload_n dR_isClear_0 rfl ?_
  refine x_iload_n dR_isClear_1 rfl ?_
  refine x_iload_n dR_isClear_2 rfl ?_
  -- at 3: .invokevirtual 256
  refine x_callV_2 c_R_hearsOf ok_R_hearsOf ml_R_256 dR_isClear_3 rfl rfl rfl rfl rfl ?_
  refine ⟨s, p, P, rfl, rfl, hs, by omega, hsv, hper, hT, fun I' hF => ?_⟩
  have e59 : I' 59 = I 59 := hF 59 (by decide)
  rcases hM with ⟨d0, hC⟩ | ⟨d1, a, hl, hC⟩
  · have key : ∀ b : Bool, b = clF (rV I) P s p → Post (some (.int (if b then 1 else 0))) S1 I' L := fun b hb => by
      refine h1 I' L b hF (Or.inl ⟨by rw [e59]; exact d0, hC⟩) (fun f hf => ?_) ⟨clF (rV I) P s, by rw [hC]; rfl, hb⟩
      rw [hC] at hf
      rw [hb]
      exact bs_inj (by omega) hp hf
    refine x_istoren_3 dR_isClear_6 rfl rfl ?_
    refine x_aload_n dR_isClear_7 rfl ?_
    refine x_getI fl_R_259 rfl dR_isClear_8 rfl rfl ?_
    -- at 11: .ifCond .ne 15
    refine x_if_ne (tgt := 26) dR_isClear_11 (by decide) (fun h => absurd (by rw [e59]; exact d0) h) (fun _ => ?_)
    refine x_iload_n dR_isClear_14 rfl ?_
    refine x_bipush (v := 50) dR_isClear_15 rfl ?_
    -- at 17: .if_icmp .lt 7
    refine x_icmp_lt (tgt := 24) dR_isClear_17 (by decide) (fun c1 => ?_) (fun c1 => ?_)
    · refine x_iconst (v := 0) dR_isClear_24 rfl ?_
      -- at 25: .ireturn
      refine x_ireturn dR_isClear_25 rfl rfl ?_
      exact key false (by unfold clF; rw [decide_eq_false (Int32.not_le.mpr c1)])
    · refine x_iconst (v := 1) dR_isClear_20 rfl ?_
      refine x_goto (tgt := 25) dR_isClear_21 (by decide) ?_
      -- at 25: .ireturn
      refine x_ireturn dR_isClear_25 rfl rfl ?_
      exact key true (by unfold clF; rw [decide_eq_true (Int32.not_lt.mp c1)])
  · have key : ∀ (b : Bool) (L' : LM), L' 59 56 = lot a (s * n + (p + 1)) → b = dF a n (hearV (rV I) P) s p → Post (some (.int (if b then 1 else 0))) S1 I' L' := fun b L' hL hb => by
      refine h1 I' L' b hF (Or.inr ⟨by rw [e59]; exact d1, a, hL, hC⟩) (fun f hf => ?_) ⟨dF a n (hearV (rV I) P) s, by rw [hC]; rfl, hb⟩
      rw [hC] at hf
      rw [hb]
      exact bs_inj (by omega) hp hf
    have hne : ∀ x y : Int64, (y = 2147483647 ∨ y = 100) → ¬ y = 0 := by
      rintro x y (rfl | rfl) <;> decide
    refine x_istoren_3 dR_isClear_6 rfl rfl ?_
    refine x_aload_n dR_isClear_7 rfl ?_
    refine x_getI fl_R_259 rfl dR_isClear_8 rfl rfl ?_
    -- at 11: .ifCond .ne 15
    refine x_if_ne (tgt := 26) dR_isClear_11 (by decide) (fun _ => ?_) (fun h => absurd h (by rw [e59, show I 59 55 = 1 from d1]; decide))
    refine x_aload_n dR_isClear_26 rfl ?_
    refine x_aload_n dR_isClear_27 rfl ?_
    refine x_getJ fl_R_263 rfl dR_isClear_28 rfl rfl ?_
    refine x_ldc2 dR_isClear_31 cn_R_267 ?_
    refine x_lmul dR_isClear_34 ?_
    refine x_ldc2 dR_isClear_35 cn_R_269 ?_
    refine x_lrem dR_isClear_38 (by decide) ?_
    refine x_putJ fl_R_263 rfl dR_isClear_39 (by decide) rfl rfl rfl rfl ?_
    -- at 42: .aload_n 0
    rw [hl]
    have el : lot a (s * n + p) * 48271 - lot a (s * n + p) * 48271 / 2147483647 * 2147483647 = lot a (s * n + (p + 1)) := rfl
    rw [el]
    refine x_aload_n dR_isClear_42 rfl ?_
    refine x_getJ fl_R_263 rfl dR_isClear_43 rfl rfl ?_
    refine x_ldc2 dR_isClear_46 cn_R_271 ?_
    refine x_lrem dR_isClear_49 (by decide) ?_
    refine x_iload_n dR_isClear_50 rfl ?_
    refine x_i2l dR_isClear_51 ?_
    -- at 52: .lcmp
    simp only [up2_n, up2_s, ne_eq, Nat.reduceEqDiff, not_false_eq_true, up1, if_true]
    have e3 : lot a (s * n + (p + 1)) - lot a (s * n + (p + 1)) / 100 * 100 = remL (lot a (s * n + p + 1)) 100 := rfl
    rw [e3]
    have hLn : up2 L 59 56 (lot a (s * n + (p + 1))) 59 56 = lot a (s * n + (p + 1)) := by rw [up2_s]; simp [up1]
    refine x_lcmp dR_isClear_52 ?_
    by_cases c1 : remL (lot a (s * n + p + 1)) 100 < (hearV (rV I) P s p).toInt64
    · sorry
    · sorry
