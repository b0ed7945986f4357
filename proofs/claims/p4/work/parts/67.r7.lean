/-! the reference: who hears CLEARLY, what is owed -/
/-- lots or none: the sets of who hears CLEARLY, at a saying -/
def Md (I : IM) (L : LM) (V : IM) (P : Nat → List Int32) (n : Nat) (C : Nat → Int32) (s : Nat) : Prop := (I 59 55 = 0 ∧ C = CC V P n) ∨ (I 59 55 = 1 ∧ ∃ a, L 59 56 = lot a (s * n) ∧ C = CDr V P n a)
theorem Md.fr {I I' : IM} {L : LM} {V : IM} {P : Nat → List Int32} {n s : Nat} {C : Nat → Int32} (h : Md I L V P n C s) (h1 : I' 59 = I 59) : Md I' L V P n C s := by
  unfold Md at h ⊢
  rw [h1]
  exact h
theorem Md.any {I : IM} {L L' : LM} {V : IM} {P : Nat → List Int32} {n s s' : Nat} {C : Nat → Int32} (h : Md I L V P n C s) (h0 : I 59 55 = 0) : Md I L' V P n C s' := by
  rcases h with h | h
  · exact Or.inl h
  · rw [h.1] at h0
    exact absurd h0 (by decide)
theorem Md.bs {I : IM} {L : LM} {V : IM} {P : Nat → List Int32} {n s : Nat} {C : Nat → Int32} (h : Md I L V P n C s) : ∀ s, ∃ f, C s = bs n f := by
  intro x
  rcases h with ⟨-, rfl⟩ | ⟨-, a, -, rfl⟩
  · exact ⟨clF V P x, rfl⟩
  · exact ⟨dF a n (hearV V P) x, rfl⟩
/-- what the reckoning rests on -/
def RkOk (I : IM) (P : Nat → List Int32) (n m : Nat) : Prop := I 59 3 = nI n ∧ n ≤ 8 ∧ m ≤ 11 ∧ (∀ p, p < n → PerV (rV I) p) ∧ (∀ s, s < m → SayV (rV I) s) ∧ RTx I P
theorem RkOk.fr {I I' : IM} {P : Nat → List Int32} {n m : Nat} (h : RkOk I P n m) (hF : Fr [93, 94, 95, 96, 97, 98, 99] I I') : RkOk I' P n m := by
  obtain ⟨a1, a2, a3, a4, a5, a6⟩ := h
  refine ⟨by rw [hF 59 (by decide)]; exact a1, a2, a3, ?_, ?_, a6.fr (hF 59 (by decide)) (hF 79 (by decide)) (hF 80 (by decide))⟩
  · rw [rV_fr hF]; exact a4
  · rw [rV_fr hF]; exact a5
/-- one more step of a drawing, between two of PEOPLE -/
def MdP (I : IM) (L : LM) (V : IM) (P : Nat → List Int32) (n : Nat) (C : Nat → Int32) (s p : Nat) : Prop := (I 59 55 = 0 ∧ C = CC V P n) ∨ (I 59 55 = 1 ∧ ∃ a, L 59 56 = lot a (s * n + p) ∧ C = CDr V P n a)
def sp_R_isClear : SpT := fun as S I L Post => ∃ (s p n : Nat) (P : Nat → List Int32) (C : Nat → Int32), as = [.ref 59, .int (nI s), .int (nI p)] ∧ S = S1 ∧ s < 11 ∧ p < n ∧ n ≤ 8 ∧ SayV (rV I) s ∧ PerV (rV I) p ∧ RTx I P ∧ MdP I L (rV I) P n C s p ∧
  ∀ (I' : IM) (L' : LM) (b : Bool), Fr [94, 95] I I' → MdP I' L' (rV I) P n C s (p + 1) → (∀ f, C s = bs n f → b = f p) → (∃ f, C s = bs n f ∧ b = f p) → Post (some (.int (if b then 1 else 0))) S1 I' L'
theorem bs_inj {n p : Nat} {f g : Nat → Bool} (hn : n ≤ 32) (hp : p < n) (h : bs n f = bs n g) : f p = g p := by
  have h1 := bt_bs f n hn p (by omega)
  have h2 := bt_bs g n hn p (by omega)
  rw [h, h2] at h1
  simp [hp] at h1
  exact h1.symm
set_option maxHeartbeats 4000000 in
set_option maxRecDepth 100000 in
theorem c_R_isClear : Con mR_isClear 5 0 0 sp_R_isClear := by
  refine con_of_X rfl fun G as S I L Post hs => ?_
  obtain ⟨s, p, n, P, C, rfl, rfl, hs, hp, hn8, hsv, hper, hT, hM, h1⟩ := hs
  refine ⟨1, Nat.le_of_ble_eq_true rfl, ?_⟩
  show X mR_isClear G _ S1 I L 0 [.ref 59, .int (nI s), .int (nI p), .null] [] Post
  refine x_aload_n dR_isClear_0 rfl ?_
  refine x_iload_n dR_isClear_1 rfl ?_
  refine x_iload_n dR_isClear_2 rfl ?_
  -- at 3: .invokevirtual 256
  refine x_callV_2 c_R_hearsOf ok_R_hearsOf ml_R_256 dR_isClear_3 rfl rfl rfl rfl rfl ?_
  refine ⟨s, p, P, rfl, rfl, hs, by omega, hsv, hper, hT, fun I' hF => ?_⟩
  have e59 : I' 59 = I 59 := hF 59 (by decide)
  rcases hM with ⟨d0, hC⟩ | ⟨d1, a, hl, hC⟩
  · have key : ∀ b : Bool, b = clF (rV I) P s p → Post (some (.int (if b then 1 else 0))) S1 I' L := fun b hb => by
      refine h1 I' L b hF (Or.inl ⟨by rw [e59]; exact d0, hC⟩) (fun f hf => ?_) ⟨clF (rV I) P s, by rw [hC]; rfl, hb⟩
      rw [hC] at hf
      rw [hb]
      exact bs_inj (by omega) hp hf
    refine x_istoren_3 dR_isClear_6 rfl rfl ?_
    refine x_aload_n dR_isClear_7 rfl ?_
    refine x_getI fl_R_259 rfl dR_isClear_8 rfl rfl ?_
    -- at 11: .ifCond .ne 15
    refine x_if_ne (tgt := 26) dR_isClear_11 (by decide) (fun h => absurd (by rw [e59]; exact d0) h) (fun _ => ?_)
    refine x_iload_n dR_isClear_14 rfl ?_
    refine x_bipush (v := 50) dR_isClear_15 rfl ?_
    -- at 17: .if_icmp .lt 7
    refine x_icmp_lt (tgt := 24) dR_isClear_17 (by decide) (fun c1 => ?_) (fun c1 => ?_)
    · refine x_iconst (v := 0) dR_isClear_24 rfl ?_
      -- at 25: .ireturn
      refine x_ireturn dR_isClear_25 rfl rfl ?_
      exact key false (by unfold clF; rw [decide_eq_false (Int32.not_le.mpr c1)])
    · refine x_iconst (v := 1) dR_isClear_20 rfl ?_
      refine x_goto (tgt := 25) dR_isClear_21 (by decide) ?_
      -- at 25: .ireturn
      refine x_ireturn dR_isClear_25 rfl rfl ?_
      exact key true (by unfold clF; rw [decide_eq_true (Int32.not_lt.mp c1)])
  · have key : ∀ (b : Bool) (L' : LM), L' 59 56 = lot a (s * n + (p + 1)) → b = dF a n (hearV (rV I) P) s p → Post (some (.int (if b then 1 else 0))) S1 I' L' := fun b L' hL hb => by
      refine h1 I' L' b hF (Or.inr ⟨by rw [e59]; exact d1, a, hL, hC⟩) (fun f hf => ?_) ⟨dF a n (hearV (rV I) P) s, by rw [hC]; rfl, hb⟩
      rw [hC] at hf
      rw [hb]
      exact bs_inj (by omega) hp hf
    have hne : ∀ x y : Int64, (y = 2147483647 ∨ y = 100) → ¬ y = 0 := by
      rintro x y (rfl | rfl) <;> decide
    refine x_istoren_3 dR_isClear_6 rfl rfl ?_
    refine x_aload_n dR_isClear_7 rfl ?_
    refine x_getI fl_R_259 rfl dR_isClear_8 rfl rfl ?_
    -- at 11: .ifCond .ne 15
    refine x_if_ne (tgt := 26) dR_isClear_11 (by decide) (fun _ => ?_) (fun h => absurd h (by rw [e59, show I 59 55 = 1 from d1]; decide))
    refine x_aload_n dR_isClear_26 rfl ?_
    refine x_aload_n dR_isClear_27 rfl ?_
    refine x_getJ fl_R_263 rfl dR_isClear_28 rfl rfl ?_
    refine x_ldc2 dR_isClear_31 cn_R_267 ?_
    refine x_lmul dR_isClear_34 ?_
    refine x_ldc2 dR_isClear_35 cn_R_269 ?_
    refine x_lrem dR_isClear_38 (by decide) ?_
    refine x_putJ fl_R_263 rfl dR_isClear_39 (by decide) rfl rfl rfl rfl ?_
    -- at 42: .aload_n 0
    rw [hl]
    have el : lot a (s * n + p) * 48271 - lot a (s * n + p) * 48271 / 2147483647 * 2147483647 = lot a (s * n + (p + 1)) := rfl
    rw [el]
    refine x_aload_n dR_isClear_42 rfl ?_
    refine x_getJ fl_R_263 rfl dR_isClear_43 rfl rfl ?_
    refine x_ldc2 dR_isClear_46 cn_R_271 ?_
    refine x_lrem dR_isClear_49 (by decide) ?_
    refine x_iload_n dR_isClear_50 rfl ?_
    refine x_i2l dR_isClear_51 ?_
    -- at 52: .lcmp
    simp only [up2_n, up2_s, ne_eq, Nat.reduceEqDiff, not_false_eq_true, up1, if_true]
    have e3 : lot a (s * n + (p + 1)) - lot a (s * n + (p + 1)) / 100 * 100 = remL (lot a (s * n + p + 1)) 100 := rfl
    rw [e3]
    have hLn : up2 L 59 56 (lot a (s * n + (p + 1))) 59 56 = lot a (s * n + (p + 1)) := by rw [up2_s]; simp [up1]
    refine x_lcmp dR_isClear_52 ?_
    -- at 53: .ifCond .ge 7
    refine x_if_ge (tgt := 60) dR_isClear_53 (by decide) (fun c1 => ?_) (fun c1 => ?_)
    · refine x_iconst (v := 0) dR_isClear_60 rfl ?_
      -- at 61: .ireturn
      refine x_ireturn dR_isClear_61 rfl rfl ?_
      refine key false _ hLn ?_
      have h3 := (lg_cmp_ge _ _).mp c1
      unfold dF
      simp only [Bool.false_eq, decide_eq_false_iff_not, Int64.not_lt]
      exact h3
    · refine x_iconst (v := 1) dR_isClear_56 rfl ?_
      refine x_goto (tgt := 61) dR_isClear_57 (by decide) ?_
      -- at 61: .ireturn
      refine x_ireturn dR_isClear_61 rfl rfl ?_
      refine key true _ hLn ?_
      have h3 : ¬ _ := fun z => c1 ((lg_cmp_ge _ _).mpr z)
      unfold dF
      simp only [Bool.true_eq, decide_eq_true_eq]
      exact Int64.not_le.mp h3
def sp_R_clearTo : SpT := fun as S I L Post => ∃ (s n : Nat) (P : Nat → List Int32) (C : Nat → Int32), as = [.ref 59, .int (nI s)] ∧ S = S1 ∧ s < 11 ∧ RkOk I P n 0 ∧ SayV (rV I) s ∧ Md I L (rV I) P n C s ∧
  ∀ (I' : IM) (L' : LM), Fr [94, 95] I I' → Md I' L' (rV I) P n C (s + 1) → Post (some (.int (C s))) S1 I' L'
set_option maxHeartbeats 4000000 in
set_option maxRecDepth 100000 in
theorem c_R_clearTo : Con mR_clearTo 6 0 0 sp_R_clearTo := by
  refine con_of_X rfl fun G as S I L Post hs => ?_
  obtain ⟨s, n, P, C, rfl, rfl, hs, ⟨hn, hn8, -, hper, -, hT⟩, hsv, hM, h1⟩ := hs
  refine ⟨2, Nat.le_of_ble_eq_true rfl, ?_⟩
  show X mR_clearTo G _ S1 I L 0 [.ref 59, .int (nI s), .null, .null] [] Post
  obtain ⟨f, hf⟩ := hM.bs s
  refine x_iconst (v := 0) dR_clearTo_0 rfl ?_
  refine x_istoren_2 dR_clearTo_1 rfl rfl ?_
  refine x_iconst (v := 0) dR_clearTo_2 rfl ?_
  refine x_istoren_3 dR_clearTo_3 rfl rfl ?_
  -- at 4: .iload_n 3
  have loop : ∀ (k i : Nat) (I' : IM) (L' : LM), i + k = n → Fr [94, 95] I I' → MdP I' L' (rV I) P n C s i → X mR_clearTo G (6, 0, 0) S1 I' L' 4 [.ref 59, .int (nI s), .int (bs i f), .int (nI i)] [] Post := by
    intro k
    induction k with
    | zero =>
      intro i I' L' hi hF hm
      obtain rfl : i = n := by omega
      refine x_iload_n dR_clearTo_4 rfl ?_
      refine x_aload_n dR_clearTo_5 rfl ?_
      refine x_getI fl_R_148 rfl dR_clearTo_6 rfl rfl ?_
      -- at 9: .if_icmp .ge 28
      rw [hF 59 (by decide), hn]
      refine x_icmp_ge (tgt := 37) dR_clearTo_9 (by decide) (fun _ => ?_) (fun h => absurd (Int32.le_refl _) h)
      refine x_iload_n dR_clearTo_37 rfl ?_
      -- at 38: .ireturn
      refine x_ireturn dR_clearTo_38 rfl rfl ?_
      rw [← hf]
      refine h1 I' L' hF ?_
      rcases hm with hm | ⟨b1, a, b2, b3⟩
      · exact Or.inl hm
      · exact Or.inr ⟨b1, a, by rw [b2, Nat.succ_mul], b3⟩
    | succ k ih =>
      intro i I' L' hi hF hm
      have hV : rV I' = rV I := rV_fr (hF.wk (by decide))
      refine x_iload_n dR_clearTo_4 rfl ?_
      refine x_aload_n dR_clearTo_5 rfl ?_
      refine x_getI fl_R_148 rfl dR_clearTo_6 rfl rfl ?_
      -- at 9: .if_icmp .ge 28
      rw [hF 59 (by decide), hn]
      refine x_icmp_ge (tgt := 37) dR_clearTo_9 (by decide) (fun h => absurd h (nI_ge (by omega) (by omega))) (fun _ => ?_)
      refine x_iload_n dR_clearTo_12 rfl ?_
      refine x_aload_n dR_clearTo_13 rfl ?_
      refine x_iload_n dR_clearTo_14 rfl ?_
      refine x_iload_n dR_clearTo_15 rfl ?_
      -- at 16: .invokevirtual 273
      refine x_callV_2 c_R_isClear ok_R_isClear ml_R_273 dR_clearTo_16 rfl rfl rfl rfl rfl ?_
      refine ⟨s, i, n, P, C, rfl, rfl, hs, by omega, hn8, by rw [hV]; exact hsv, by rw [hV]; exact hper i (by omega), hT.fr (hF 59 (by decide)) (hF 79 (by decide)) (hF 80 (by decide)), by rw [hV]; exact hm, fun I2 L2 b hF2 hm2 hb _ => ?_⟩
      rw [hV] at hm2
      have hb := hb f hf
      cases b with
      | true =>
        refine x_if_eq (tgt := 28) dR_clearTo_19 (by decide) (fun h => absurd h (by decide)) (fun _ => ?_)
        refine x_iconst (v := 1) dR_clearTo_22 rfl ?_
        refine x_iload_n dR_clearTo_23 rfl ?_
        refine x_ishl dR_clearTo_24 ?_
        refine x_goto (tgt := 29) dR_clearTo_25 (by decide) ?_
        refine x_ior dR_clearTo_29 ?_
        refine x_istoren_2 dR_clearTo_30 rfl rfl ?_
        refine x_iincp_3 dR_clearTo_31 rfl rfl ?_
        refine x_goto (tgt := 4) dR_clearTo_34 (by decide) ?_
        -- at 4: .iload_n 3
        rw [nI_1]
        have h3 := ih (i + 1) I2 L2 (by omega) (hF.tr hF2) hm2
        rw [bs, if_pos hb.symm] at h3
        exact h3
      | false =>
        refine x_if_eq (tgt := 28) dR_clearTo_19 (by decide) (fun _ => ?_) (fun h => absurd (by decide) h)
        refine x_iconst (v := 0) dR_clearTo_28 rfl ?_
        refine x_ior dR_clearTo_29 ?_
        -- at 30: .istore_n 2
        refine x_eqi (y := bs i f) (by simp) ?_
        refine x_istoren_2 dR_clearTo_30 rfl rfl ?_
        refine x_iincp_3 dR_clearTo_31 rfl rfl ?_
        refine x_goto (tgt := 4) dR_clearTo_34 (by decide) ?_
        -- at 4: .iload_n 3
        rw [nI_1]
        have h3 := ih (i + 1) I2 L2 (by omega) (hF.tr hF2) hm2
        rw [bs, if_neg (by rw [← hb]; decide)] at h3
        exact h3
  refine loop n 0 I L (by omega) Fr.rfl ?_
  rcases hM with hm | ⟨b1, a, b2, b3⟩
  · exact Or.inl hm
  · exact Or.inr ⟨b1, a, b2, b3⟩
theorem r8 (a b : Nat) : (8 : Int32) * nI a + nI b = nI (a * 8 + b) := by
  rw [show (8 : Int32) = nI 8 from rfl, pk_mul, nI_add, Nat.mul_comm]
/-- the reference's rows of what is owed -/
def RowR (I : IM) (n : Nat) (O : Nat → Nat → Int32) : Prop := ∀ p, p < n → ∀ q, q < 8 → I 96 (p * 8 + q) = O p q
theorem RowR.up {I : IM} {n p q : Nat} {O : Nat → Nat → Int32} {x : Int32} (h : RowR I n O) (hp : p < n) (hq : q < 8) : RowR (up2 I 96 (p * 8 + q) x) n (fun i => if i = p then up1 (O p) q x else O i) := by
  intro i hi k hk
  rw [up2_s]
  dsimp only
  by_cases e : i = p
  · subst e
    rw [if_pos rfl]
    by_cases e2 : k = q
    · subst e2
      rw [up1_s, up1_s]
    · rw [up1_n _ _ e2, up1_n _ _ (by omega)]
      exact h i hi k hk
  · rw [if_neg e, up1_n _ _ (by omega)]
    exact h i hi k hk
theorem bnd_nn (x m : Int32) : 0 ≤ bnd x m := by
  unfold bnd imax
  by_cases h : 0 < imin x m
  · rw [if_pos h]; exact Int32.le_of_lt h
  · rw [if_neg h]; exact Int32.le_refl _
theorem share_nn (V : IM) (P : Nat → List Int32) (c : Int32) (s p : Nat) : 0 ≤ shareV V P c s p := by
  unfold shareV
  split
  · exact bnd_nn _ _
  · exact Int32.le_refl _
theorem imax_0 {x : Int32} (h : 0 ≤ x) : imax x 0 = x := by
  unfold imax
  rw [if_neg (Int32.not_lt.mpr h)]
def sp_R_owesBy : SpT := fun as S I L Post => ∃ (s n q : Nat) (P : Nat → List Int32) (C : Nat → Int32) (O : Nat → Nat → Int32), as = [.ref 59, .int (nI s)] ∧ S = S1 ∧ s < 11 ∧ RkOk I P n 0 ∧ SayV (rV I) s ∧ Md I L (rV I) P n C s ∧ rV I 14 s = nI q ∧ q < 8 ∧ RowR I n O ∧ (∀ p, p < n → 0 ≤ O p q) ∧
  ∀ (I' : IM) (L' : LM), Fr [94, 95, 96] I I' → Md I' L' (rV I) P n C (s + 1) → RowR I' n (fun p => up1 (O p) q (imax (O p q) (shareV (rV I) P (C s) s p))) → Post none S1 I' L'
set_option maxHeartbeats 4000000 in
set_option maxRecDepth 100000 in
theorem c_R_owesBy : Con mR_owesBy 7 0 0 sp_R_owesBy := by
  refine con_of_X rfl fun G as S I L Post hs => ?_
  obtain ⟨s, n, q, P, C, O, rfl, rfl, hs, hR, hsv, hM, hq, hq8, hO, hO0, h1⟩ := hs
  obtain ⟨hn, hn8, -, hper, -, hT⟩ := hR
  obtain ⟨f, hf⟩ := hM.bs s
  have hq' : I 74 s = nI q := hq
  refine ⟨5, Nat.le_of_ble_eq_true rfl, ?_⟩
  show X mR_owesBy G _ S1 I L 0 [.ref 59, .int (nI s), .null, .null, .null, .null, .null] [] Post
  refine x_aload_n dR_owesBy_0 rfl ?_
  refine x_iload_n dR_owesBy_1 rfl ?_
  -- at 2: .invokevirtual 277
  refine x_callV_1 c_R_clearTo ok_R_clearTo ml_R_277 dR_owesBy_2 rfl rfl rfl rfl rfl ?_
  refine ⟨s, n, P, C, rfl, rfl, hs, ⟨hn, hn8, by omega, hper, fun s hs => absurd hs (Nat.not_lt_zero s), hT⟩, hsv, hM, fun I1 L1 hF1 hM1 => ?_⟩
  refine x_istoren_2 dR_owesBy_5 rfl rfl ?_
  refine x_iload_n dR_owesBy_6 rfl ?_
  -- at 7: .invokestatic 280
  refine x_callS_1 c_R_ones ok_R_ones ml_R_280 dR_owesBy_7 rfl rfl ?_
  refine ⟨_, rfl, ?_⟩
  refine x_istoren_3 dR_owesBy_10 rfl rfl ?_
  refine x_aload_n dR_owesBy_11 rfl ?_
  refine x_getR fl_R_56 rfl dR_owesBy_12 rfl rfl rfl ?_
  refine x_iload_n dR_owesBy_15 rfl ?_
  refine x_ialdJ (j := s) dR_owesBy_16 rfl rfl (by first | rfl | (simp only [← nI_add, ← pk_mul]; rfl)) (by omega) ?_
  -- at 17: .istore 4
  rw [hF1 74 (by decide), hq']
  refine x_istore_4 dR_owesBy_17 rfl rfl ?_
  refine x_iconst (v := 0) dR_owesBy_19 rfl ?_
  refine x_istore_5 dR_owesBy_20 rfl rfl ?_
  -- at 22: .iload 5
  have loop : ∀ (k i : Nat) (I' : IM) (a6 : Value), i + k = n → Fr [94, 95, 96] I I' → I' 59 = I1 59 → RowR I' n (fun p => if p < i then up1 (O p) q (imax (O p q) (shareV (rV I) P (C s) s p)) else O p) →
      X mR_owesBy G (7, 0, 0) S1 I' L1 22 [.ref 59, .int (nI s), .int (C s), .int (onesR (C s) 8), .int (nI q), .int (nI i), a6] [] Post := by
    intro k
    induction k with
    | zero =>
      intro i I' a6 hi hF h59 hRow
      obtain rfl : i = n := by omega
      refine x_iload dR_owesBy_22 rfl ?_
      refine x_aload_n dR_owesBy_24 rfl ?_
      refine x_getI fl_R_148 rfl dR_owesBy_25 rfl rfl ?_
      -- at 28: .if_icmp .ge 128
      rw [hF 59 (by decide), hn]
      refine x_icmp_ge (tgt := 156) dR_owesBy_28 (by decide) (fun _ => ?_) (fun h => absurd (Int32.le_refl _) h)
      refine x_return dR_owesBy_156 rfl ?_
      refine h1 I' L1 hF (hM1.fr h59) (fun p hp q hq => ?_)
      have := hRow p hp q hq
      dsimp only at this
      rw [if_pos hp] at this
      exact this
    | succ k ih =>
      intro i I' a6 hi hF h59 hRow
      have hV : rV I' = rV I := by
        funext a
        have hw : ∀ k, k ∉ [94, 95, 96] → I' k = I k := hF
        exact congrFun (rV_fr (hF.wk (by decide))) a
      have hT' : RTx I' P := hT.fr (hF 59 (by decide)) (hF 79 (by decide)) (hF 80 (by decide))
      have hrow : ∀ q, q < 8 → I' 96 (i * 8 + q) = O i q := fun q hq => by
        have := hRow i (by omega) q hq
        dsimp only at this
        rw [if_neg (Nat.lt_irrefl i)] at this
        exact this
      have next : ∀ (I2 : IM) (a6 : Value), Fr [94, 95, 96] I I2 → I2 59 = I1 59 → RowR I2 n (fun p => if p < i + 1 then up1 (O p) q (imax (O p q) (shareV (rV I) P (C s) s p)) else O p) →
          X mR_owesBy G (7, 0, 0) S1 I2 L1 150 [.ref 59, .int (nI s), .int (C s), .int (onesR (C s) 8), .int (nI q), .int (nI i), a6] [] Post := by
        intro I2 a6 hF2 h2 hR2
        refine x_iincp_5 dR_owesBy_150 rfl rfl ?_
        refine x_goto (tgt := 22) dR_owesBy_153 (by decide) ?_
        -- at 22: .iload 5
        rw [nI_1]
        exact ih (i + 1) I2 _ (by omega) hF2 h2 hR2
      have none_ : shareV (rV I) P (C s) s i = 0 → X mR_owesBy G (7, 0, 0) S1 I' L1 150 [.ref 59, .int (nI s), .int (C s), .int (onesR (C s) 8), .int (nI q), .int (nI i), a6] [] Post := by
        intro h0
        refine next I' a6 hF h59 (fun p hp k hk => ?_)
        rw [hRow p hp k hk]
        dsimp only
        by_cases e : p = i
        · subst e
          rw [if_neg (Nat.lt_irrefl p), if_pos (Nat.lt_succ_self p), h0, imax_0 (hO0 p hp)]
          by_cases e2 : k = q
          · subst e2; rw [up1_s]
          · rw [up1_n _ _ e2]
        · by_cases e2 : p < i
          · rw [if_pos e2, if_pos (by omega)]
          · rw [if_neg e2, if_neg (by omega)]
      refine x_iload dR_owesBy_22 rfl ?_
      refine x_aload_n dR_owesBy_24 rfl ?_
      refine x_getI fl_R_148 rfl dR_owesBy_25 rfl rfl ?_
      -- at 28: .if_icmp .ge 128
      rw [hF 59 (by decide), hn]
      refine x_icmp_ge (tgt := 156) dR_owesBy_28 (by decide) (fun h => absurd h (nI_ge (by omega) (by omega))) (fun _ => ?_)
      refine x_iload_n dR_owesBy_31 rfl ?_
      refine x_iload dR_owesBy_32 rfl ?_
      refine x_ishr dR_owesBy_34 ?_
      refine x_iconst (v := 1) dR_owesBy_35 rfl ?_
      refine x_iand dR_owesBy_36 ?_
      -- at 37: .iconst 1
      rw [tst_bit (by omega)]
      refine x_iconst (v := 1) dR_owesBy_37 rfl ?_
      -- at 38: .if_icmp .ne 112
      by_cases hb : bt (C s) i = true
      · rw [if_pos hb]
        refine x_icmp_ne (tgt := 150) dR_owesBy_38 (by decide) (fun h => absurd rfl h) (fun _ => ?_)
        refine x_aload_n dR_owesBy_41 rfl ?_
        refine x_getR fl_R_20 rfl dR_owesBy_42 rfl rfl rfl ?_
        refine x_iload dR_owesBy_45 rfl ?_
        refine x_ialdJ (j := i) dR_owesBy_47 rfl rfl (by first | rfl | (simp only [← nI_add, ← pk_mul]; rfl)) (by omega) ?_
        refine x_iconst (v := 4) dR_owesBy_48 rfl ?_
        -- at 49: .if_icmp .eq 101
        rw [hF 62 (by decide)]
        by_cases hk4 : I 62 i = 4
        · refine x_icmp_eq (tgt := 150) dR_owesBy_49 (by decide) (fun _ => ?_) (fun h => absurd hk4 h)
          exact none_ (by unfold shareV; rw [if_neg (fun z => z.2 hk4)])
        · refine x_icmp_eq (tgt := 150) dR_owesBy_49 (by decide) (fun h => absurd h hk4) (fun _ => ?_)
          refine x_aload_n dR_owesBy_52 rfl ?_
          refine x_aload_n dR_owesBy_53 rfl ?_
          refine x_getR fl_R_65 rfl dR_owesBy_54 rfl rfl rfl ?_
          refine x_iload_n dR_owesBy_57 rfl ?_
          refine x_ialdJ (j := s) dR_owesBy_58 rfl rfl (by first | rfl | (simp only [← nI_add, ← pk_mul]; rfl)) (by omega) ?_
          refine x_iconst (v := 0) dR_owesBy_59 rfl ?_
          refine x_iconst (v := 0) dR_owesBy_60 rfl ?_
          refine x_aload_n dR_owesBy_61 rfl ?_
          refine x_getR fl_R_47 rfl dR_owesBy_62 rfl rfl rfl ?_
          refine x_iload dR_owesBy_65 rfl ?_
          refine x_ialdJ (j := q) dR_owesBy_67 rfl rfl (by first | rfl | (simp only [← nI_add, ← pk_mul]; rfl)) (by omega) ?_
          refine x_iload_n dR_owesBy_68 rfl ?_
          refine x_aload_n dR_owesBy_69 rfl ?_
          refine x_iload dR_owesBy_70 rfl ?_
          refine x_iload dR_owesBy_72 rfl ?_
          -- at 74: .invokevirtual 283
          rw [hF 77 (by decide), hF 71 (by decide)]
          refine x_callV_2 c_R_can ok_R_can ml_R_283 dR_owesBy_74 rfl rfl rfl rfl rfl ?_
          have tail : ∀ x : Int32, x = (if canV (rV I) i q then 1 else 0) → X mR_owesBy G (7, 0, 0) S1 I' L1 85 [.ref 59, .int (nI s), .int (C s), .int (onesR (C s) 8), .int (nI q), .int (nI i), a6] [.int x, .int (onesR (C s) 8), .int (I 71 q), .int 0, .int 0, .int (I 77 s), .ref 59] Post := by
            intro x hx
            refine x_callV_6 c_R_names ok_R_names ml_R_246 dR_owesBy_85 rfl rfl rfl rfl rfl ?_
            refine ⟨_, _, _, _, _, _, rfl, rfl, fun I2 hF2 hn2 => ?_⟩
            refine x_aload_n dR_owesBy_88 rfl ?_
            refine x_iconst (v := 1) dR_owesBy_89 rfl ?_
            -- at 90: .invokevirtual 250
            refine x_callV_1 c_R_worthOf ok_R_worthOf ml_R_250 dR_owesBy_90 rfl rfl rfl rfl rfl ?_
            refine ⟨1, P, rfl, rfl, by omega, hT'.fr (hF2 59 (by decide)) (hF2 79 (by decide)) (hF2 80 (by decide)), fun I3 hF3 => ?_⟩
            obtain ⟨t, hr, ht6, htx⟩ := hT
            obtain ⟨a, -, -, -, -, hwf⟩ := htx 1 (by omega)
            have hsh : bnd (valP (I2 95) (P 1)) 99 = shareV (rV I) P (C s) s i := by
              unfold shareV
              rw [if_pos ⟨hb, hk4⟩, hq, cl_nI (by omega)]
              congr 1
              refine valP_congr (h := 0) (o := 1) (fun j hj => ?_) hwf
              rw [hn2 j hj, hx]
              rfl
            refine x_iconst (v := 0) dR_owesBy_93 rfl ?_
            refine x_bipush (v := 99) dR_owesBy_94 rfl ?_
            -- at 96: .invokestatic 253
            refine x_callS_3 c_R_within ok_R_within ml_R_253 dR_owesBy_96 rfl rfl ?_
            refine ⟨_, _, _, rfl, by decide, ?_⟩
            refine x_eqi (y := shareV (rV I) P (C s) s i) hsh ?_
            have hF4 : Fr [94, 95, 96] I I3 := (hF.tr (hF2.wk (by decide))).tr (hF3.wk (by decide))
            have e96 : I3 96 = I' 96 := by rw [hF3 96 (by decide), hF2 96 (by decide)]
            have e59 : I3 59 = I1 59 := by rw [hF3 59 (by decide), hF2 59 (by decide)]; exact h59
            have hRow3 : RowR I3 n (fun p => if p < i then up1 (O p) q (imax (O p q) (shareV (rV I) P (C s) s p)) else O p) := by
              unfold RowR
              rw [e96]
              exact hRow
            generalize hsv2 : shareV (rV I) P (C s) s i = sv
            have fin : ∀ y : Int32, y = imax (O i q) sv → X mR_owesBy G (7, 0, 0) S1 I3 L1 149 [.ref 59, .int (nI s), .int (C s), .int (onesR (C s) 8), .int (nI q), .int (nI i), .int sv] [.int y, .int (8 * nI i + nI q), .ref 96] Post := by
              intro y hy
              refine x_iastJ dR_owesBy_149 rfl rfl (r8 i q) (by omega) ?_
              -- at 150: .iinc 5 1
              refine next _ _ (hF4.up (by decide) _ _) (by rw [up2_n _ _ _ (by decide)]; exact e59) (fun p hp k hk => ?_)
              rw [hRow3.up (by omega) hq8 p hp k hk]
              dsimp only
              by_cases e : p = i
              · subst e
                rw [if_pos rfl, if_neg (Nat.lt_irrefl p), if_pos (Nat.lt_succ_self p), hsv2, hy]
              · rw [if_neg e]
                by_cases e2 : p < i
                · rw [if_pos e2, if_pos (by omega)]
                · rw [if_neg e2, if_neg (by omega)]
            refine x_istore_6 dR_owesBy_99 rfl rfl ?_
            refine x_aload_n dR_owesBy_101 rfl ?_
            refine x_getR fl_R_122 rfl dR_owesBy_102 rfl rfl rfl ?_
            refine x_bipush (v := 8) dR_owesBy_105 rfl ?_
            refine x_iload dR_owesBy_107 rfl ?_
            refine x_imul dR_owesBy_109 ?_
            refine x_iload dR_owesBy_110 rfl ?_
            refine x_iadd dR_owesBy_112 ?_
            refine x_iload dR_owesBy_113 rfl ?_
            refine x_aload_n dR_owesBy_115 rfl ?_
            refine x_getR fl_R_122 rfl dR_owesBy_116 rfl rfl rfl ?_
            refine x_bipush (v := 8) dR_owesBy_119 rfl ?_
            refine x_iload dR_owesBy_121 rfl ?_
            refine x_imul dR_owesBy_123 ?_
            refine x_iload dR_owesBy_124 rfl ?_
            refine x_iadd dR_owesBy_126 ?_
            refine x_ialdJ dR_owesBy_127 rfl rfl (r8 i q) (by omega) ?_
            -- at 128: .if_icmp .le 8
            rw [e96, hrow q hq8]
            refine x_icmp_le (tgt := 136) dR_owesBy_128 (by decide) (fun d1 => ?_) (fun d1 => ?_)
            · refine x_aload_n dR_owesBy_136 rfl ?_
              refine x_getR fl_R_122 rfl dR_owesBy_137 rfl rfl rfl ?_
              refine x_bipush (v := 8) dR_owesBy_140 rfl ?_
              refine x_iload dR_owesBy_142 rfl ?_
              refine x_imul dR_owesBy_144 ?_
              refine x_iload dR_owesBy_145 rfl ?_
              refine x_iadd dR_owesBy_147 ?_
              refine x_ialdJ dR_owesBy_148 rfl rfl (r8 i q) (by omega) ?_
              -- at 149: .iastore
              rw [e96, hrow q hq8]
              exact fin _ (by unfold imax; rw [if_neg (Int32.not_lt.mpr d1)])
            · refine x_iload dR_owesBy_131 rfl ?_
              refine x_goto (tgt := 149) dR_owesBy_133 (by decide) ?_
              -- at 149: .iastore
              exact fin _ (by unfold imax; rw [if_pos (Int32.not_le.mp d1)])
          refine ⟨i, q, rfl, rfl, by omega, hq8, fun g => ?_, fun g => ?_⟩
          · rw [hV] at g
            refine x_if_eq (tgt := 84) dR_owesBy_77 (by decide) (fun h => absurd h (by decide)) (fun _ => ?_)
            refine x_iconst (v := 1) dR_owesBy_80 rfl ?_
            refine x_goto (tgt := 85) dR_owesBy_81 (by decide) ?_
            -- at 85: .invokevirtual 246
            exact tail 1 (by rw [if_pos g])
          · rw [hV] at g
            refine x_if_eq (tgt := 84) dR_owesBy_77 (by decide) (fun _ => ?_) (fun h => absurd (by decide) h)
            refine x_iconst (v := 0) dR_owesBy_84 rfl ?_
            -- at 85: .invokevirtual 246
            exact tail 0 (by rw [if_neg g])
      · rw [if_neg hb]
        refine x_icmp_ne (tgt := 150) dR_owesBy_38 (by decide) (fun _ => ?_) (fun h => absurd h (by decide))
        exact none_ (by unfold shareV; rw [if_neg (fun z => hb z.1)])
  refine loop n 0 I1 _ (by omega) (hF1.wk (by decide)) rfl (fun p hp k hk => ?_)
  rw [hF1 96 (by decide)]
  dsimp only
  rw [if_neg (Nat.not_lt_zero p)]
  exact hO p hp k hk
