/-! the reference's calls: text -/
theorem rt_0 {s : Int32} (hs : srtP s) : rtok s = 0 ↔ s = 0 := srt_all hs (fun s => rtok s = 0 ↔ s = 0) (by decide) (by decide) (by decide) (by decide) (by decide) (by decide) (by decide) (by decide) (by decide) (by decide) (by decide) (by decide) (by decide) (by decide) (by decide) (by decide) (by decide) (by decide)
theorem rt_3 {s : Int32} (hs : srtP s) : rtok s = 3 ↔ (s = 4 ∨ s = 5 ∨ s = 6) := srt_all hs (fun s => rtok s = 3 ↔ (s = 4 ∨ s = 5 ∨ s = 6)) (by decide) (by decide) (by decide) (by decide) (by decide) (by decide) (by decide) (by decide) (by decide) (by decide) (by decide) (by decide) (by decide) (by decide) (by decide) (by decide) (by decide) (by decide)
/-- what a call of text may touch -/
def FrX (t : Nat) (I I' : IM) : Prop := (∀ k, k ∉ [59, 79, 80, 93] → I' k = I k) ∧ (∀ j, j ∉ [23, 26, 44, 45, 46, 47, 50, 51, 52] → I' 59 j = I 59 j) ∧ (∀ i, i < 200 * t → I' 79 i = I 79 i) ∧ ∀ i, i < 4 * t → I' 80 i = I 80 i
theorem mk_0 (f : Nat → Int32) : mk 0 f = fun _ => 0 := by
  funext i
  simp [mk]
/-- what the reference's state is then -/
theorem rE_frx {I I' : IM} {t : Nat} (ht : t = tN (rE I)) (hk : t ≤ 6) (h3 : ∀ q, q < t → cl (I 80 (4 * q + 3)) ≤ 160) (hF : FrX t I I') (h23 : I' 59 23 = 0) :
    (∀ x, x ≠ 29 → x ≠ 30 → x ≠ 31 → rE I' x = clr (rE I) x) ∧ (∀ j, j ≠ 4 → rE I' 29 j = clr (rE I) 29 j) ∧ (∀ j, j < 4 * t → I' 80 j = rE I 30 j) ∧ (∀ j, j / 200 < t → (if j % 200 < cl (I' 80 (4 * (j / 200) + 3)) then I' 79 j else 0) = rE I 31 j) ∧ (∀ j, 4 * t ≤ j → rE I 30 j = 0) ∧ (∀ j, t ≤ j / 200 → rE I 31 j = 0) := by
  obtain ⟨f1, f2, f3, f4⟩ := hF
  have e26 : cl (I 59 26) = t := ht.symm
  have g : ∀ j, j ∉ [23, 26, 44, 45, 46, 47, 50, 51, 52] → I' 59 j = I 59 j := f2
  have cz : cl (0 : Int32) = 0 := rfl
  refine ⟨fun x h29 h30 h31 => ?_, fun j hj => ?_, fun j hj => ?_, fun j hj => ?_, fun j hj => ?_, fun j hj => ?_⟩
  · unfold clr
    by_cases h18 : x = 18
    · subst h18
      rw [upr_s]
      show mk (cl (I' 59 23)) (I' 78) = _
      rw [h23, cz, mk_0]
    · rw [upr_n _ _ h18, up2_n _ _ _ h29]
      unfold rE
      rw [g 3 (by decide), g 17 (by decide), g 28 (by decide), g 30 (by decide), g 31 (by decide), f1 60 (by decide), f1 61 (by decide), f1 62 (by decide), f1 63 (by decide), f1 64 (by decide), f1 65 (by decide), f1 66 (by decide), f1 67 (by decide), f1 68 (by decide), f1 69 (by decide), f1 70 (by decide), f1 71 (by decide), f1 72 (by decide), f1 73 (by decide), f1 74 (by decide), f1 75 (by decide), f1 76 (by decide), f1 77 (by decide), f1 81 (by decide), f1 82 (by decide), f1 83 (by decide), f1 84 (by decide), f1 85 (by decide), f1 86 (by decide), f1 87 (by decide), f1 88 (by decide), f1 89 (by decide), f1 90 (by decide)]
      split <;> first | rfl | (exfalso; omega)
  · unfold clr
    rw [upr_n _ _ (by decide), up2_s]
    show rSc I' j = up1 (rSc I) 6 0 j
    by_cases h6 : j = 6
    · subst h6
      rw [up1_s]
      exact h23
    · rw [up1_n _ _ h6]
      unfold rSc
      rw [g 28 (by decide), g 29 (by decide)]
      split <;> first | exact g _ (by decide) | rfl | (exfalso; omega)
  · rw [f4 j hj]
    exact (mk_lt (by rw [e26]; exact hj)).symm
  · rw [f4 _ (by omega)]
    show _ = if j / 200 < cl (I 59 26) ∧ j % 200 < cl (I 80 (4 * (j / 200) + 3)) then I 79 j else 0
    rw [e26]
    by_cases c : j % 200 < cl (I 80 (4 * (j / 200) + 3))
    · rw [if_pos c, if_pos ⟨hj, c⟩]
      exact f3 j (by omega)
    · rw [if_neg c, if_neg (fun y => c y.2)]
  · show mk (4 * cl (I 59 26)) (I 80) j = 0
    unfold mk
    rw [e26, if_neg (by omega)]
  · show (if j / 200 < cl (I 59 26) ∧ j % 200 < cl (I 80 (4 * (j / 200) + 3)) then I 79 j else 0) = 0
    rw [e26, if_neg (fun y => by omega)]
theorem rE_no {I I' : IM} {t : Nat} (ht : t = tN (rE I)) (hk : t ≤ 6) (h3 : ∀ q, q < t → cl (I 80 (4 * q + 3)) ≤ 160) (hF : FrX t I I') (h23 : I' 59 23 = 0) (h26 : I' 59 26 = nI t) (h4 : rE I 29 4 = nI t) : rE I' = clr (rE I) := by
  obtain ⟨a1, a2, a3, a4, a5, a6⟩ := rE_frx ht hk h3 hF h23
  have e26 : cl (I' 59 26) = t := by rw [h26]; exact cl_nI (by omega)
  have cq : ∀ x, x ≠ 29 → x ≠ 18 → clr (rE I) x = rE I x := fun x h1 h2 => by unfold clr; rw [upr_n _ _ h2, up2_n _ _ _ h1]
  funext x
  by_cases h29 : x = 29
  · subst h29
    funext j
    by_cases h : j = 4
    · subst h
      unfold clr
      rw [upr_n _ _ (by decide), up2_s, up1_n _ _ (by decide), h4]
      exact h26
    · exact a2 j h
  · by_cases h30 : x = 30
    · subst h30
      rw [cq 30 (by decide) (by decide)]
      funext j
      show mk (4 * cl (I' 59 26)) (I' 80) j = _
      rw [e26]
      by_cases h : j < 4 * t
      · rw [mk_lt h]; exact a3 j h
      · unfold mk
        rw [if_neg h, a5 j (by omega)]
    · by_cases h31 : x = 31
      · subst h31
        rw [cq 31 (by decide) (by decide)]
        funext j
        show (if j / 200 < cl (I' 59 26) ∧ j % 200 < cl (I' 80 (4 * (j / 200) + 3)) then I' 79 j else 0) = _
        rw [e26]
        by_cases h : j / 200 < t
        · rw [← a4 j h]
          by_cases c : j % 200 < cl (I' 80 (4 * (j / 200) + 3))
          · rw [if_pos c, if_pos ⟨h, c⟩]
          · rw [if_neg c, if_neg (fun y => c y.2)]
        · rw [if_neg (fun y => h y.1), a6 j (by omega)]
      · exact a1 x h29 h30 h31
theorem rE_yes {I I' : IM} {t : Nat} {a b c : List Int32} (ht : t = tN (rE I)) (hk : t < 6) (h3 : ∀ q, q < t → cl (I 80 (4 * q + 3)) ≤ 160) (hF : FrX t I I') (h23 : I' 59 23 = 0) (h26 : I' 59 26 = nI t + 1) (hs : ∀ r, r < 4 → I' 80 (4 * t + r) = txA a b c r) (hlen : a.length + b.length + c.length ≤ 160) (ho : ∀ i, i < a.length + b.length + c.length → I' 79 (200 * t + i) = (a ++ b ++ c).getD i 0) : rE I' = addT (clr (rE I)) t a b c := by
  obtain ⟨a1, a2, a3, a4, a5, a6⟩ := rE_frx ht (by omega) h3 hF h23
  have e26 : cl (I' 59 26) = t + 1 := by rw [h26, nI_1]; exact cl_nI (by omega)
  have cq : ∀ x, x ≠ 29 → x ≠ 18 → clr (rE I) x = rE I x := fun x h1 h2 => by unfold clr; rw [upr_n _ _ h2, up2_n _ _ _ h1]
  have e3 : cl (I' 80 (4 * t + 3)) = a.length + b.length + c.length := by
    rw [hs 3 (by omega)]
    exact cl_nI (by omega)
  funext x
  unfold addT
  by_cases h29 : x = 29
  · subst h29
    rw [up2_s, upr_n _ _ (by decide), upr_n _ _ (by decide)]
    funext j
    by_cases h : j = 4
    · subst h
      rw [up1_s]
      exact h26
    · rw [up1_n _ _ h]
      exact a2 j h
  · rw [up2_n _ _ _ h29]
    by_cases h31 : x = 31
    · subst h31
      rw [upr_s, cq 31 (by decide) (by decide)]
      funext j
      show (if j / 200 < cl (I' 59 26) ∧ j % 200 < cl (I' 80 (4 * (j / 200) + 3)) then I' 79 j else 0) = _
      rw [e26]
      by_cases h : j / 200 < t
      · rw [if_neg (c := j / 200 = t ∧ j % 200 < a.length + b.length + c.length) (fun y => by omega), ← a4 j h]
        by_cases d : j % 200 < cl (I' 80 (4 * (j / 200) + 3))
        · rw [if_pos d, if_pos ⟨by omega, d⟩]
        · rw [if_neg d, if_neg (fun y => d y.2)]
      · by_cases h2 : j / 200 = t
        · rw [h2, e3]
          by_cases d : j % 200 < a.length + b.length + c.length
          · rw [if_pos ⟨by omega, d⟩, if_pos ⟨rfl, d⟩]
            have := ho (j % 200) d
            rw [show 200 * t + j % 200 = j by omega] at this
            exact this
          · rw [if_neg (fun y => d y.2), if_neg (fun y => d y.2), a6 j (by omega)]
        · rw [if_neg (fun y => by omega), if_neg (fun y => h2 y.1), a6 j (by omega)]
    · rw [upr_n _ _ h31]
      by_cases h30 : x = 30
      · subst h30
        rw [upr_s, cq 30 (by decide) (by decide)]
        funext j
        show mk (4 * cl (I' 59 26)) (I' 80) j = _
        rw [e26]
        by_cases h : j < 4 * t
        · rw [mk_lt (by omega), if_neg (fun y => by omega)]
          exact a3 j h
        · by_cases h2 : j / 4 = t
          · rw [mk_lt (by omega), if_pos h2]
            have := hs (j % 4) (by omega)
            rw [show 4 * t + j % 4 = j by omega] at this
            exact this
          · unfold mk
            rw [if_neg (by omega), if_neg h2, a5 j (by omega)]
      · rw [upr_n _ _ h30]
        exact a1 x h29 h30 h31
/-- what one of the three parts may touch -/
def FrS (t a0 k : Nat) (I I' : IM) : Prop := (∀ x, x ∉ [59, 79, 80, 93] → I' x = I x) ∧ (∀ j, j ∉ [44, 45, 46, 47, 50, 51, 52] → I' 59 j = I 59 j) ∧ (∀ i, i < 200 * t + a0 → I' 79 i = I 79 i) ∧ ∀ i, i ≠ 4 * t + k → I' 80 i = I 80 i
theorem FrS.ofT {t a0 k : Nat} {I I' : IM} (h : FrT t a0 I I') : FrS t a0 k I I' :=
  ⟨fun x hx => h.1 x (by rintro rfl; exact hx (by decide)) (by rintro rfl; exact hx (by decide)) (by rintro rfl; exact hx (by decide)), h.2.1, h.2.2, fun i _ => congrFun (h.1 80 (by decide) (by decide) (by decide)) i⟩
theorem FrS.ofN {t a0 k : Nat} {I I' : IM} (h : FrN [44, 45, 46, 47] I I') : FrS t a0 k I I' := FrS.ofT (FrT.ofN h)
theorem FrS.tr {t a0 k : Nat} {I I' I'' : IM} (h : FrS t a0 k I I') (h2 : FrS t a0 k I' I'') : FrS t a0 k I I'' :=
  ⟨fun x hx => (h2.1 x hx).trans (h.1 x hx), fun j hj => (h2.2.1 j hj).trans (h.2.1 j hj), fun i hi => (h2.2.2.1 i hi).trans (h.2.2.1 i hi), fun i hi => (h2.2.2.2 i hi).trans (h.2.2.2 i hi)⟩
theorem FrS.up80 {t a0 k : Nat} {I I' : IM} (h : FrS t a0 k I I') (x : Int32) : FrS t a0 k I (up2 I' 80 (4 * t + k) x) :=
  ⟨fun y hy => by rw [up2_n _ _ _ (by rintro rfl; exact hy (by decide))]; exact h.1 y hy, fun j hj => by rw [up2_n _ _ _ (by decide)]; exact h.2.1 j hj, fun i hi => by rw [up2_n _ _ _ (by decide)]; exact h.2.2.1 i hi, fun i hi => by rw [up2_s, up1_n _ _ hi]; exact h.2.2.2 i hi⟩
theorem FrX.ofS {t a0 k : Nat} {I I' I'' : IM} (h : FrX t I I') (h2 : FrS t a0 k I' I'') : FrX t I I'' :=
  ⟨fun x hx => (h2.1 x hx).trans (h.1 x hx), fun j hj => (h2.2.1 j (fun z => hj (by simp at z ⊢; omega))).trans (h.2.1 j hj), fun i hi => (h2.2.2.1 i (by omega)).trans (h.2.2.1 i hi), fun i hi => (h2.2.2.2 i (by omega)).trans (h.2.2.2 i hi)⟩
theorem pt_0 {T : List Tok} {x : Nat} (h : ptE 4 T = .inl x) : pt T = .inl x := by
  unfold pt
  rw [h]
theorem pt_1 {T T1 : List Tok} {a : List Int32} {x : Nat} (h : ptE 4 T = .inr (a, T1)) (h2 : ptE 5 T1 = .inl x) : pt T = .inl x := by
  unfold pt
  rw [h]
  dsimp only
  rw [h2]
theorem pt_2 {T T1 T2 : List Tok} {a b : List Int32} {x : Nat} (h : ptE 4 T = .inr (a, T1)) (h2 : ptE 5 T1 = .inr (b, T2)) (h3 : ptE 6 T2 = .inl x) : pt T = .inl x := by
  unfold pt
  rw [h]
  dsimp only
  rw [h2]
  dsimp only
  rw [h3]
theorem pt_3 {T T1 T2 T3 : List Tok} {a b c : List Int32} {t : Tok} (h : ptE 4 T = .inr (a, T1)) (h2 : ptE 5 T1 = .inr (b, T2)) (h3 : ptE 6 T2 = .inr (c, t :: T3)) : pt T = if t.1 = 0 then .inr (a, b, c) else .inl t.2.1 := by
  unfold pt
  rw [h]
  dsimp only
  rw [h2]
  dsimp only
  rw [h3]
theorem Outs3 {f : Nat → Int32} {t : Nat} {a b c : List Int32} (h1 : Outs f t 0 a) (h2 : Outs f t a.length b) (h3 : Outs f t (a.length + b.length) c) : ∀ i, i < a.length + b.length + c.length → f (200 * t + i) = (a ++ b ++ c).getD i 0 := by
  intro i hi
  by_cases c1 : i < a.length + b.length
  · rw [getD_l (by rw [List.length_append]; exact c1)]
    by_cases c2 : i < a.length
    · rw [getD_l c2]
      have := h1 i c2
      rw [Nat.zero_add] at this
      exact this
    · have := h2 (i - a.length) (by omega)
      rw [show a.length + (i - a.length) = i by omega] at this
      rw [this, ← getD_r (a := a), show a.length + (i - a.length) = i by omega]
  · have := h3 (i - (a.length + b.length)) (by omega)
    rw [show a.length + b.length + (i - (a.length + b.length)) = i by omega] at this
    rw [this, ← getD_r (a := a ++ b), List.length_append, show a.length + b.length + (i - (a.length + b.length)) = i by omega]
theorem Outs.keep {f g : Nat → Int32} {t a0 b0 : Nat} {o : List Int32} (h : Outs f t a0 o) (hb : a0 + o.length ≤ b0) (hg : ∀ i, i < 200 * t + b0 → g i = f i) : Outs g t a0 o := fun i hi => (hg _ (by omega)).trans (h i hi)
def kwI (k : Nat) : Int32 := match k with
  | 0 => 4 | 1 => 5 | _ => 6
/-- what text needs of the state -/
def rTx (E : IM) : Prop := E 29 4 = nI (tN E) ∧ tN E ≤ 6 ∧ (∀ t, t < tN E → sA E t 3 ≤ 160) ∧ E 29 6 = nI (zN E) ∧ zN E ≤ 160
theorem rTx.of {E : IM} (h : Inv E) : rTx E := by
  obtain ⟨d1, d2, d3, d4⟩ := h.d
  obtain ⟨z1, z2, z3⟩ := h.g
  refine ⟨d1, d3, fun t ht => ?_, z1, z2⟩
  obtain ⟨-, -, -, -, -, u6, -⟩ := d4 t ht
  exact u6
def sp_R_text : SpT := fun as S I L Post => as = [.ref 59] ∧ S = S1 ∧ rTx (rE I) ∧ rOwn I ∧ ∀ (I' : IM) (L' : LM), (∀ k, k < 59 → I' k = I k) → rOwn I' → rE I' = textU (rE I) → Post (some (.int (textS (rE I)))) S1 I' L'
set_option maxHeartbeats 4000000 in
set_option maxRecDepth 100000 in
theorem c_R_text : Con mR_text 6 0 0 sp_R_text := by
  refine con_of_X rfl fun G as S I L Post hs => ?_
  obtain ⟨rfl, rfl, htp, own, h1⟩ := hs
  refine ⟨2, Nat.le_of_ble_eq_true rfl, ?_⟩
  show X mR_text G _ S1 I L 0 [.ref 59, .null, .null] [] Post
  obtain ⟨d1, d3, d4, z1, z2⟩ := htp
  have htx : I 59 26 = nI (tN (rE I)) := d1
  have htz : I 59 23 = nI (zN (rE I)) := z1
  by_cases c6 : tN (rE I) < 6
  · have c6' : rE I 29 4 < 6 := by rw [d1]; exact (nI_ltI (b := 6) (by omega) (by omega)).mpr c6
    rw [textS, textU, if_neg (not_not_intro c6'), if_neg (not_not_intro c6')] at h1
    have hR : txR (rE I) = pt (tokS (I 78) (zN (rE I)) 0) := by
      unfold txR
      congr 1
      exact tokS_congr (fun i hi => mk_lt hi) 0
    rw [hR] at h1
    have h3 : ∀ q, q < tN (rE I) → cl (I 80 (4 * q + 3)) ≤ 160 := fun q hq => by
      have u6 := d4 q hq
      have e3 : rE I 30 (4 * q + 3) = I 80 (4 * q + 3) := mk_lt (by
        have : tN (rE I) = cl (I 59 26) := rfl
        omega)
      unfold sA at u6
      rw [e3] at u6
      exact u6
    have hT0 := (tokS_good (I 78) (zN (rE I)) (zN (rE I)) 0 (by omega)).2
    generalize ht : tN (rE I) = t at *
    generalize hz : zN (rE I) = z at *
    -- the end of a TEXT with a FAULT
    have bad : ∀ (I' : IM) (x : Nat) (i2 : Int32), FrX t I I' → I' 59 23 = nI z → I' 59 26 = nI t → I' 59 45 = nI x → pt (tokS (I 78) z 0) = .inl x → X mR_text G (6, 0, 0) S1 I' L 122 [.ref 59, .int 0, .int i2] [] Post := by
      intro I' x i2 hF g23 g26 g45 hp
      rw [hp] at h1
      refine x_aload_n dR_text_122 rfl ?_
      refine x_getR fl_R_74 rfl dR_text_123 rfl rfl rfl ?_
      refine x_iconst (v := 4) dR_text_126 rfl ?_
      refine x_aload_n dR_text_127 rfl ?_
      refine x_getI fl_R_161 rfl dR_text_128 rfl rfl ?_
      refine x_imul dR_text_131 ?_
      refine x_iconst (v := 3) dR_text_132 rfl ?_
      -- at 133: .iadd
      rw [g26]
      refine x_iadd dR_text_133 ?_
      refine x_aload_n dR_text_134 rfl ?_
      refine x_getI fl_R_187 rfl dR_text_135 rfl rfl ?_
      refine x_iastJ dR_text_138 rfl rfl (r4 t 3) (by omega) ?_
      -- at 139: .aload_n 0
      refine x_aload_n dR_text_139 rfl ?_
      refine x_iconst (v := 0) dR_text_140 rfl ?_
      refine x_putI fl_R_137 rfl dR_text_141 (by decide) rfl rfl rfl rfl ?_
      refine x_iload_n dR_text_144 rfl ?_
      -- at 145: .ifCond .ne 11
      refine x_if_ne (tgt := 156) dR_text_145 (by decide) (fun h => absurd rfl h) (fun _ => ?_)
      refine x_bipush (v := -100) dR_text_148 rfl ?_
      refine x_aload_n dR_text_150 rfl ?_
      refine x_getI fl_R_174 rfl dR_text_151 rfl rfl ?_
      -- at 154: .isub
      rw [f59_n (by decide), up2_n _ _ _ (by decide), g45]
      refine x_isub dR_text_154 ?_
      -- at 155: .ireturn
      refine x_ireturn dR_text_155 rfl rfl ?_
      have hF2 : FrX t I (up2 (up2 I' 80 (4 * t + 3) (I' 59 52)) 59 23 0) := by
        obtain ⟨f1, f2, f3, f4⟩ := hF
        refine ⟨fun k hk => ?_, fun j hj => ?_, fun i hi => ?_, fun i hi => ?_⟩
        · rw [up2_n _ _ _ (by rintro rfl; exact hk (by decide)), up2_n _ _ _ (by rintro rfl; exact hk (by decide))]
          exact f1 k hk
        · rw [f59_n (by rintro rfl; exact hj (by decide)), up2_n _ _ _ (by decide)]
          exact f2 j hj
        · rw [up2_n _ _ _ (by decide), up2_n _ _ _ (by decide)]
          exact f3 i hi
        · rw [up2_n _ _ _ (by decide), up2_s, up1_n _ _ (by omega)]
          exact f4 i hi
      have e26 : up2 (up2 I' 80 (4 * t + 3) (I' 59 52)) 59 23 0 59 26 = nI t := by
        rw [f59_n (by decide), up2_n _ _ _ (by decide)]
        exact g26
      refine h1 _ L (fun k hk => hF2.1 k (by simp; omega)) ?_ (rE_no ht.symm (by omega) h3 hF2 f59_s e26 d1)
      exact ⟨(hF2.2.1 55 (by decide)).trans own.1, (hF2.2.1 60 (by decide)).trans own.2.1, fun k hk => by rw [hF2.1 92 (by decide)]; exact own.2.2 k hk⟩
    -- one part
    have part : ∀ (k a a0 : Nat) (I1 : IM), k < 3 → FrX t I I1 → I1 59 23 = nI z → I1 59 26 = nI t → I1 59 44 = nI a → a ≤ z → I1 59 52 = nI a0 → a0 + (tokS (I 78) z a).length ≤ z + 1 →
        (∀ (x : Nat), ptE (kwI k) (tokS (I 78) z a) = .inl x → pt (tokS (I 78) z 0) = .inl x) →
        (∀ (I2 : IM) (C : List Int32) (a' : Nat), ptE (kwI k) (tokS (I 78) z a) = .inr (C, tokS (I 78) z a') → FrS t a0 k I1 I2 → I2 59 44 = nI a' → a' ≤ z → I2 59 52 = nI (a0 + C.length) → Outs (I2 79) t a0 C → I2 80 (4 * t + k) = nI a0 → a0 + C.length + (tokS (I 78) z a').length ≤ z + 1 → X mR_text G (6, 0, 0) S1 I2 L 26 [.ref 59, .int 1, .int (nI (k + 1))] [] Post) →
        X mR_text G (6, 0, 0) S1 I1 L 26 [.ref 59, .int 1, .int (nI k)] [] Post := by
      intro k a a0 I1 hk hF g23 g26 g44 haz g52 hlen hno hyes
      have f78 : I1 78 = I 78 := hF.1 78 (by decide)
      refine x_iload_n dR_text_26 rfl ?_
      refine x_iconst (v := 3) dR_text_27 rfl ?_
      -- at 28: .if_icmp .ge 73
      refine x_icmp_ge (tgt := 101) dR_text_28 (by decide) (fun h => absurd h (nI_ge (b := 3) (by omega) (by omega))) (fun _ => ?_)
      refine x_iload_n dR_text_31 rfl ?_
      -- at 32: .ifCond .eq 69
      refine x_if_eq (tgt := 101) dR_text_32 (by decide) (fun h => absurd h (by decide)) (fun _ => ?_)
      refine x_aload_n dR_text_35 rfl ?_
      -- at 36: .invokevirtual 209
      refine x_callV_0 c_R_next ok_R_next ml_R_209 dR_text_36 rfl rfl rfl rfl rfl ?_
      refine ⟨a, z, rfl, rfl, g44, haz, z2, g23, fun j hj => by rw [hF.1 92 (by decide)]; exact own.2.2 j hj, fun I2 a' tk T hT hFN hat2 haz2 htok hTT => ?_⟩
      rw [f78] at hT hTT
      obtain ⟨s1, s2, s3, s4⟩ := tokS_hd (I 78) z (z - a) a (Nat.le_refl _) tk T hT
      obtain ⟨t1, t2, t3, t4, t5, t6⟩ := htok
      rw [hT] at hno hyes hlen
      rw [List.length_cons] at hlen
      have q26 : I2 59 26 = nI t := (hFN.2 26 (by decide)).trans g26
      have q52 : I2 59 52 = nI a0 := (hFN.2 52 (by decide)).trans g52
      have hS2 : FrS t a0 k I1 I2 := FrS.ofN hFN
      -- refused
      have ref : ∀ (I3 : IM) (x : Nat), FrS t a0 k I1 I3 → I3 59 45 = nI x → ptE (kwI k) (tk :: T) = .inl x → X mR_text G (6, 0, 0) S1 I3 L 93 [.ref 59, .int 0, .int (nI k)] [] Post ∧ X mR_text G (6, 0, 0) S1 I3 L 93 [.ref 59, .int 1, .int (nI k)] [] Post := by
        intro I3 x hS3 h45 hx
        have b0 := bad I3 x (nI (k + 1)) (hF.ofS hS3) ((hS3.2.1 23 (by decide)).trans g23) ((hS3.2.1 26 (by decide)).trans g26) h45 (hno x hx)
        have b : X mR_text G (6, 0, 0) S1 I3 L 101 [.ref 59, .int 0, .int (nI (k + 1))] [] Post := by
          refine x_iload_n dR_text_101 rfl ?_
          -- at 102: .ifCond .eq 20
          refine x_if_eq (tgt := 122) dR_text_102 (by decide) (fun _ => ?_) (fun h => absurd rfl h)
          exact b0
        have aft : X mR_text G (6, 0, 0) S1 I3 L 26 [.ref 59, .int 0, .int (nI (k + 1))] [] Post := by
          refine x_iload_n dR_text_26 rfl ?_
          refine x_iconst (v := 3) dR_text_27 rfl ?_
          -- at 28: .if_icmp .ge 73
          by_cases c : k + 1 < 3
          · refine x_icmp_ge (tgt := 101) dR_text_28 (by decide) (fun h => absurd h (nI_ge (b := 3) c (by omega))) (fun _ => ?_)
            refine x_iload_n dR_text_31 rfl ?_
            -- at 32: .ifCond .eq 69
            refine x_if_eq (tgt := 101) dR_text_32 (by decide) (fun _ => ?_) (fun h => absurd rfl h)
            exact b
          · refine x_icmp_ge (tgt := 101) dR_text_28 (by decide) (fun _ => ?_) (fun h => absurd (nI_le (a := 3) (by omega) (by omega)) h)
            exact b
        constructor
        · refine x_iconst (v := 0) dR_text_93 rfl ?_
          refine x_istoren_1 dR_text_94 rfl rfl ?_
          refine x_iincp_2 dR_text_95 rfl rfl ?_
          refine x_goto (tgt := 26) dR_text_98 (by decide) ?_
          -- at 26: .iload_n 2
          rw [nI_1]
          exact aft
        · refine x_iconst (v := 0) dR_text_93 rfl ?_
          refine x_istoren_1 dR_text_94 rfl rfl ?_
          refine x_iincp_2 dR_text_95 rfl rfl ?_
          refine x_goto (tgt := 26) dR_text_98 (by decide) ?_
          -- at 26: .iload_n 2
          rw [nI_1]
          exact aft
      have hdr : tk.1 = kwI k ↔ (rtok tk.1 = 3 ∧ I2 59 47 = nI k) := by
        rcases (show k = 0 ∨ k = 1 ∨ k = 2 by omega) with rfl | rfl | rfl
        · constructor
          · intro e
            have e : tk.1 = 4 := e
            exact ⟨(rt_3 s1).mpr (Or.inl e), t3 e⟩
          · rintro ⟨e1, e2⟩
            rcases (rt_3 s1).mp e1 with e | e | e
            · exact e
            · rw [t4 e] at e2; exact absurd e2 (by decide)
            · rw [t5 e] at e2; exact absurd e2 (by decide)
        · constructor
          · intro e
            have e : tk.1 = 5 := e
            exact ⟨(rt_3 s1).mpr (Or.inr (Or.inl e)), t4 e⟩
          · rintro ⟨e1, e2⟩
            rcases (rt_3 s1).mp e1 with e | e | e
            · rw [t3 e] at e2; exact absurd e2 (by decide)
            · exact e
            · rw [t5 e] at e2; exact absurd e2 (by decide)
        · constructor
          · intro e
            have e : tk.1 = 6 := e
            exact ⟨(rt_3 s1).mpr (Or.inr (Or.inr e)), t5 e⟩
          · rintro ⟨e1, e2⟩
            rcases (rt_3 s1).mp e1 with e | e | e
            · rw [t3 e] at e2; exact absurd e2 (by decide)
            · rw [t4 e] at e2; exact absurd e2 (by decide)
            · exact e
      have no : ¬ tk.1 = kwI k → X mR_text G (6, 0, 0) S1 I2 L 60 [.ref 59, .int 1, .int (nI k)] [.int 0] Post := by
        intro hn
        refine x_istoren_1 dR_text_60 rfl rfl ?_
        refine x_aload_n dR_text_61 rfl ?_
        refine x_getR fl_R_74 rfl dR_text_62 rfl rfl rfl ?_
        refine x_iconst (v := 4) dR_text_65 rfl ?_
        refine x_aload_n dR_text_66 rfl ?_
        refine x_getI fl_R_161 rfl dR_text_67 rfl rfl ?_
        refine x_imul dR_text_70 ?_
        refine x_iload_n dR_text_71 rfl ?_
        -- at 72: .iadd
        rw [q26]
        refine x_iadd dR_text_72 ?_
        refine x_aload_n dR_text_73 rfl ?_
        refine x_getI fl_R_187 rfl dR_text_74 rfl rfl ?_
        refine x_iastJ dR_text_77 rfl rfl (r4 t k) (by omega) ?_
        -- at 78: .iload_n 1
        refine x_iload_n dR_text_78 rfl ?_
        -- at 79: .ifCond .eq 14
        refine x_if_eq (tgt := 93) dR_text_79 (by decide) (fun _ => ?_) (fun h => absurd rfl h)
        exact (ref _ tk.2.1 (hS2.up80 _) (by rw [up2_n _ _ _ (by decide)]; exact t6) (by rw [ptE, if_neg hn])).1
      refine x_aload_n dR_text_39 rfl ?_
      refine x_getI fl_R_177 rfl dR_text_40 rfl rfl ?_
      refine x_iconst (v := 3) dR_text_43 rfl ?_
      -- at 44: .if_icmp .ne 15
      rw [t1]
      by_cases e1 : rtok tk.1 = 3
      · refine x_icmp_ne (tgt := 59) dR_text_44 (by decide) (fun h => absurd e1 h) (fun _ => ?_)
        refine x_aload_n dR_text_47 rfl ?_
        refine x_getI fl_R_180 rfl dR_text_48 rfl rfl ?_
        refine x_iload_n dR_text_51 rfl ?_
        -- at 52: .if_icmp .ne 7
        by_cases e2 : I2 59 47 = nI k
        · have hk1 := hdr.mpr ⟨e1, e2⟩
          have h0 : ¬ tk.1 = 0 := by
            intro y
            rw [y] at e1
            exact absurd e1 (by decide)
          refine x_icmp_ne (tgt := 59) dR_text_52 (by decide) (fun h => absurd e2 h) (fun _ => ?_)
          refine x_iconst (v := 1) dR_text_55 rfl ?_
          refine x_goto (tgt := 60) dR_text_56 (by decide) ?_
          refine x_istoren_1 dR_text_60 rfl rfl ?_
          refine x_aload_n dR_text_61 rfl ?_
          refine x_getR fl_R_74 rfl dR_text_62 rfl rfl rfl ?_
          refine x_iconst (v := 4) dR_text_65 rfl ?_
          refine x_aload_n dR_text_66 rfl ?_
          refine x_getI fl_R_161 rfl dR_text_67 rfl rfl ?_
          refine x_imul dR_text_70 ?_
          refine x_iload_n dR_text_71 rfl ?_
          -- at 72: .iadd
          rw [q26]
          refine x_iadd dR_text_72 ?_
          refine x_aload_n dR_text_73 rfl ?_
          refine x_getI fl_R_187 rfl dR_text_74 rfl rfl ?_
          refine x_iastJ dR_text_77 rfl rfl (r4 t k) (by omega) ?_
          -- at 78: .iload_n 1
          rw [q52]
          refine x_iload_n dR_text_78 rfl ?_
          -- at 79: .ifCond .eq 14
          refine x_if_eq (tgt := 93) dR_text_79 (by decide) (fun h => absurd h (by decide)) (fun _ => ?_)
          refine x_aload_n dR_text_82 rfl ?_
          -- at 83: .invokevirtual 222
          have hS3 : FrS t a0 k I1 (up2 I2 80 (4 * t + k) (nI a0)) := hS2.up80 _
          have w80 : up2 I2 80 (4 * t + k) (nI a0) 80 (4 * t + k) = nI a0 := by rw [up2_s, up1_s]
          have w44 : up2 I2 80 (4 * t + k) (nI a0) 59 44 = nI a' := by rw [up2_n _ _ _ (by decide)]; exact hat2
          have w52 : up2 I2 80 (4 * t + k) (nI a0) 59 52 = nI a0 := by rw [up2_n _ _ _ (by decide)]; exact q52
          generalize up2 I2 80 (4 * t + k) (nI a0) = I3 at hS3 w80 w44 w52
          have hTe := hTT h0
          have v78 : I3 78 = I 78 := (hS3.1 78 (by decide)).trans f78
          have hp : ptE (kwI k) (tk :: T) = sy T true true [] [] := by rw [ptE, if_pos hk1]
          refine x_callV_0 c_R_eRead ok_R_eRead ml_R_222 dR_text_83 rfl rfl rfl rfl rfl ?_
          refine ⟨a', z, t, a0, rfl, rfl, w44, haz2, z2, (hS3.2.1 23 (by decide)).trans g23, fun j hj => by rw [hS3.1 92 (by decide), hF.1 92 (by decide)]; exact own.2.2 j hj, (hS3.2.1 26 (by decide)).trans g26, c6, w52, by rw [v78, ← hTe]; omega, fun x I4 hx hF4 h45 => ?_, fun C I4 a2 hx hF4 h44 haz4 h52 hO hl => ?_⟩
          · rw [v78, ← hTe] at hx
            refine x_if_eq (tgt := 93) dR_text_86 (by decide) (fun _ => ?_) (fun h => absurd rfl h)
            exact (ref I4 x (hS3.tr (FrS.ofT hF4)) h45 (hp.trans hx)).2
          · rw [v78, ← hTe] at hx
            refine x_if_eq (tgt := 93) dR_text_86 (by decide) (fun h => absurd h (by decide)) (fun _ => ?_)
            refine x_iconst (v := 1) dR_text_89 rfl ?_
            refine x_goto (tgt := 94) dR_text_90 (by decide) ?_
            refine x_istoren_1 dR_text_94 rfl rfl ?_
            refine x_iincp_2 dR_text_95 rfl rfl ?_
            refine x_goto (tgt := 26) dR_text_98 (by decide) ?_
            -- at 26: .iload_n 2
            rw [nI_1]
            rw [v78] at hl
            exact hyes I4 C a2 (hp.trans hx) (hS3.tr (FrS.ofT hF4)) h44 haz4 h52 hO (by rw [hF4.1 80 (by decide) (by decide) (by decide)]; exact w80) hl
        · refine x_icmp_ne (tgt := 59) dR_text_52 (by decide) (fun _ => ?_) (fun h => absurd h e2)
          refine x_iconst (v := 0) dR_text_59 rfl ?_
          -- at 60: .istore_n 1
          exact no (fun y => e2 (hdr.mp y).2)
      · refine x_icmp_ne (tgt := 59) dR_text_44 (by decide) (fun _ => ?_) (fun h => absurd h e1)
        refine x_iconst (v := 0) dR_text_59 rfl ?_
        -- at 60: .istore_n 1
        exact no (fun y => e1 (hdr.mp y).1)
    refine x_aload_n dR_text_0 rfl ?_
    refine x_getI fl_R_161 rfl dR_text_1 rfl rfl ?_
    refine x_bipush (v := 6) dR_text_4 rfl ?_
    -- at 6: .if_icmp .ne 6
    refine x_icmp_ne (tgt := 12) dR_text_6 (by decide) (fun _ => ?_) (fun h => absurd h (by rw [htx]; intro y; exact absurd ((nI_eq (b := 6) (by omega) (by omega)).mp y) (by omega)))
    refine x_aload_n dR_text_12 rfl ?_
    refine x_iconst (v := 0) dR_text_13 rfl ?_
    refine x_putI fl_R_171 rfl dR_text_14 (by decide) rfl rfl rfl rfl ?_
    refine x_aload_n dR_text_17 rfl ?_
    refine x_iconst (v := 0) dR_text_18 rfl ?_
    refine x_putI fl_R_187 rfl dR_text_19 (by decide) rfl rfl rfl rfl ?_
    refine x_iconst (v := 1) dR_text_22 rfl ?_
    refine x_istoren_1 dR_text_23 rfl rfl ?_
    refine x_iconst (v := 0) dR_text_24 rfl ?_
    refine x_istoren_2 dR_text_25 rfl rfl ?_
    -- at 26: .iload_n 2
    have hF1 : FrX t I (up2 (up2 I 59 44 0) 59 52 0) := by
      refine ⟨fun x hx => ?_, fun j hj => ?_, fun i hi => ?_, fun i hi => ?_⟩
      · rw [up2_n _ _ _ (by rintro rfl; exact hx (by decide)), up2_n _ _ _ (by rintro rfl; exact hx (by decide))]
      · rw [f59_n (by rintro rfl; exact hj (by decide)), f59_n (by rintro rfl; exact hj (by decide))]
      · rw [up2_n _ _ _ (by decide), up2_n _ _ _ (by decide)]
      · rw [up2_n _ _ _ (by decide), up2_n _ _ _ (by decide)]
    have w44 : up2 (up2 I 59 44 0) 59 52 0 59 44 = nI 0 := by rw [f59_n (by decide), f59_s]; rfl
    have w52 : up2 (up2 I 59 44 0) 59 52 0 59 52 = nI 0 := by rw [f59_s]; rfl
    have w23 : up2 (up2 I 59 44 0) 59 52 0 59 23 = nI z := by rw [f59_n (by decide), f59_n (by decide)]; exact htz
    have w26 : up2 (up2 I 59 44 0) 59 52 0 59 26 = nI t := by rw [f59_n (by decide), f59_n (by decide)]; exact htx
    generalize up2 (up2 I 59 44 0) 59 52 0 = I1 at hF1 w44 w52 w23 w26
    refine part 0 0 0 I1 (by omega) hF1 w23 w26 w44 (by omega) w52 (by omega) (fun x hx => pt_0 hx) (fun I2 A a1 p0 S2 g44 ha1 g52 O2 s2 hl2 => ?_)
    have hF2 := hF1.ofS S2
    have g23 : I2 59 23 = nI z := (S2.2.1 23 (by decide)).trans w23
    have g26 : I2 59 26 = nI t := (S2.2.1 26 (by decide)).trans w26
    rw [Nat.zero_add] at g52 hl2
    refine part 1 a1 A.length I2 (by omega) hF2 g23 g26 g44 ha1 g52 hl2 (fun x hx => pt_1 p0 hx) (fun I3 B a2 p1 S3 k44 ha2 k52 O3 s3 hl3 => ?_)
    have hF3 := hF2.ofS S3
    have k23 : I3 59 23 = nI z := (S3.2.1 23 (by decide)).trans g23
    have k26 : I3 59 26 = nI t := (S3.2.1 26 (by decide)).trans g26
    refine part 2 a2 (A.length + B.length) I3 (by omega) hF3 k23 k26 k44 ha2 k52 hl3 (fun x hx => pt_2 p0 p1 hx) (fun I4 C a3 p2 S4 l44 ha3 l52 O4 s4 hl4 => ?_)
    have hF4 := hF3.ofS S4
    have l23 : I4 59 23 = nI z := (S4.2.1 23 (by decide)).trans k23
    have l26 : I4 59 26 = nI t := (S4.2.1 26 (by decide)).trans k26
    have f78 : I4 78 = I 78 := hF4.1 78 (by decide)
    refine x_iload_n dR_text_26 rfl ?_
    refine x_iconst (v := 3) dR_text_27 rfl ?_
    -- at 28: .if_icmp .ge 73
    refine x_icmp_ge (tgt := 101) dR_text_28 (by decide) (fun _ => ?_) (fun h => absurd (nI_le (a := 3) (by omega) (by omega)) h)
    refine x_iload_n dR_text_101 rfl ?_
    -- at 102: .ifCond .eq 20
    refine x_if_eq (tgt := 122) dR_text_102 (by decide) (fun h => absurd h (by decide)) (fun _ => ?_)
    refine x_aload_n dR_text_105 rfl ?_
    -- at 106: .invokevirtual 209
    refine x_callV_0 c_R_next ok_R_next ml_R_209 dR_text_106 rfl rfl rfl rfl rfl ?_
    refine ⟨a3, z, rfl, rfl, l44, ha3, z2, l23, fun j hj => by rw [hF4.1 92 (by decide)]; exact own.2.2 j hj, fun I5 a4 tk T hT hFN hat4 haz4 htok hTT => ?_⟩
    rw [f78] at hT
    obtain ⟨q1, q2, q3, q4⟩ := tokS_hd (I 78) z (z - a3) a3 (Nat.le_refl _) tk T hT
    obtain ⟨t1, t2, t3, t4, t5, t6⟩ := htok
    rw [hT] at p2 hl4
    rw [List.length_cons] at hl4
    have hp := pt_3 p0 p1 p2
    have S5 : FrS t 0 0 I4 I5 := FrS.ofN hFN
    have hF5 := hF4.ofS S5
    have m23 : I5 59 23 = nI z := (S5.2.1 23 (by decide)).trans l23
    have m26 : I5 59 26 = nI t := (S5.2.1 26 (by decide)).trans l26
    have m52 : I5 59 52 = nI (A.length + B.length + C.length) := (hFN.2 52 (by decide)).trans l52
    refine x_aload_n dR_text_109 rfl ?_
    refine x_getI fl_R_177 rfl dR_text_110 rfl rfl ?_
    -- at 113: .ifCond .ne 7
    rw [t1]
    by_cases e0 : tk.1 = 0
    · rw [if_pos e0] at hp
      rw [hp] at h1
      refine x_if_ne (tgt := 120) dR_text_113 (by decide) (fun h => absurd ((rt_0 q1).mpr e0) h) (fun _ => ?_)
      refine x_iconst (v := 1) dR_text_116 rfl ?_
      refine x_goto (tgt := 121) dR_text_117 (by decide) ?_
      refine x_istoren_1 dR_text_121 rfl rfl ?_
      refine x_aload_n dR_text_122 rfl ?_
      refine x_getR fl_R_74 rfl dR_text_123 rfl rfl rfl ?_
      refine x_iconst (v := 4) dR_text_126 rfl ?_
      refine x_aload_n dR_text_127 rfl ?_
      refine x_getI fl_R_161 rfl dR_text_128 rfl rfl ?_
      refine x_imul dR_text_131 ?_
      refine x_iconst (v := 3) dR_text_132 rfl ?_
      -- at 133: .iadd
      rw [m26]
      refine x_iadd dR_text_133 ?_
      refine x_aload_n dR_text_134 rfl ?_
      refine x_getI fl_R_187 rfl dR_text_135 rfl rfl ?_
      refine x_iastJ dR_text_138 rfl rfl (r4 t 3) (by omega) ?_
      -- at 139: .aload_n 0
      refine x_aload_n dR_text_139 rfl ?_
      refine x_iconst (v := 0) dR_text_140 rfl ?_
      refine x_putI fl_R_137 rfl dR_text_141 (by decide) rfl rfl rfl rfl ?_
      refine x_iload_n dR_text_144 rfl ?_
      -- at 145: .ifCond .ne 11
      refine x_if_ne (tgt := 156) dR_text_145 (by decide) (fun _ => ?_) (fun h => absurd h (by decide))
      refine x_aload_n dR_text_156 rfl ?_
      refine x_dup dR_text_157 rfl ?_
      refine x_getI fl_R_161 rfl dR_text_158 rfl rfl ?_
      -- at 161: .iconst 1
      rw [f59_n (by decide), up2_n _ _ _ (by decide), m26]
      refine x_iconst (v := 1) dR_text_161 rfl ?_
      refine x_iadd dR_text_162 ?_
      refine x_putI fl_R_161 rfl dR_text_163 (by decide) rfl rfl rfl rfl ?_
      refine x_aload_n dR_text_166 rfl ?_
      refine x_getI fl_R_161 rfl dR_text_167 rfl rfl ?_
      refine x_iconst (v := 1) dR_text_170 rfl ?_
      refine x_isub dR_text_171 ?_
      -- at 172: .ireturn
      rw [f59_s]
      have hv : nI t + 1 - 1 = rE I 29 4 := by
        rw [d1, nI_1]
        exact nI_pred t
      have v79 : I5 79 = I4 79 := hFN.1 79 (by decide)
      have v80 : I5 80 = I4 80 := hFN.1 80 (by decide)
      have hsz : ∀ r, r < 4 → up2 (up2 (up2 I5 80 (4 * t + 3) (I5 59 52)) 59 23 0) 59 26 (nI t + 1) 80 (4 * t + r) = txA A B C r := by
        intro r hr
        rw [up2_n _ _ _ (by decide), up2_n _ _ _ (by decide), up2_s]
        rcases (show r = 0 ∨ r = 1 ∨ r = 2 ∨ r = 3 by omega) with rfl | rfl | rfl | rfl
        · rw [up1_n _ _ (by omega), v80, S4.2.2.2 _ (by omega), S3.2.2.2 _ (by omega)]
          exact s2
        · rw [up1_n _ _ (by omega), v80, S4.2.2.2 _ (by omega)]
          exact s3
        · rw [up1_n _ _ (by omega), v80]
          exact s4
        · rw [up1_s]
          exact m52
      have ho : ∀ i, i < A.length + B.length + C.length → up2 (up2 (up2 I5 80 (4 * t + 3) (I5 59 52)) 59 23 0) 59 26 (nI t + 1) 79 (200 * t + i) = (A ++ B ++ C).getD i 0 := by
        rw [up2_n _ _ _ (by decide), up2_n _ _ _ (by decide), up2_n _ _ _ (by decide), v79]
        have o2 : Outs (I3 79) t 0 A := Outs.keep O2 (by omega) (fun i hi => S3.2.2.1 i hi)
        exact Outs3 (Outs.keep o2 (by omega) (fun i hi => S4.2.2.1 i hi)) (Outs.keep O3 (by omega) (fun i hi => S4.2.2.1 i hi)) O4
      have hF6 : FrX t I (up2 (up2 (up2 I5 80 (4 * t + 3) (I5 59 52)) 59 23 0) 59 26 (nI t + 1)) := by
        obtain ⟨f1, f2, f3, f4⟩ := hF5
        refine ⟨fun k hk => ?_, fun j hj => ?_, fun i hi => ?_, fun i hi => ?_⟩
        · rw [up2_n _ _ _ (by rintro rfl; exact hk (by decide)), up2_n _ _ _ (by rintro rfl; exact hk (by decide)), up2_n _ _ _ (by rintro rfl; exact hk (by decide))]
          exact f1 k hk
        · rw [f59_n (by rintro rfl; exact hj (by decide)), f59_n (by rintro rfl; exact hj (by decide)), up2_n _ _ _ (by decide)]
          exact f2 j hj
        · rw [up2_n _ _ _ (by decide), up2_n _ _ _ (by decide), up2_n _ _ _ (by decide)]
          exact f3 i hi
        · rw [up2_n _ _ _ (by decide), up2_n _ _ _ (by decide), up2_s, up1_n _ _ (by omega)]
          exact f4 i hi
      have e23 : up2 (up2 (up2 I5 80 (4 * t + 3) (I5 59 52)) 59 23 0) 59 26 (nI t + 1) 59 23 = 0 := by rw [f59_n (by decide), f59_s]
      have e26 : up2 (up2 (up2 I5 80 (4 * t + 3) (I5 59 52)) 59 23 0) 59 26 (nI t + 1) 59 26 = nI t + 1 := f59_s
      have hfin := rE_yes ht.symm c6 h3 hF6 e23 e26 hsz (by omega) ho
      rw [hv]
      refine x_ireturn dR_text_172 rfl rfl ?_
      refine h1 _ L (fun k hk => hF6.1 k (by simp; omega)) ⟨(hF6.2.1 55 (by decide)).trans own.1, (hF6.2.1 60 (by decide)).trans own.2.1, fun k hk => by rw [hF6.1 92 (by decide)]; exact own.2.2 k hk⟩ ?_
      rw [hfin, ← ht]
      rfl
    · rw [if_neg e0] at hp
      refine x_if_ne (tgt := 120) dR_text_113 (by decide) (fun _ => ?_) (fun h => absurd h (fun y => e0 ((rt_0 q1).mp y)))
      refine x_iconst (v := 0) dR_text_120 rfl ?_
      refine x_istoren_1 dR_text_121 rfl rfl ?_
      -- at 122: .aload_n 0
      exact bad I5 tk.2.1 _ hF5 m23 m26 t6 hp
  · have c6' : ¬ rE I 29 4 < 6 := by rw [d1]; exact fun y => c6 ((nI_ltI (b := 6) (by omega) (by omega)).mp y)
    rw [textS, textU, if_pos c6', if_pos c6'] at h1
    refine x_aload_n dR_text_0 rfl ?_
    refine x_getI fl_R_161 rfl dR_text_1 rfl rfl ?_
    refine x_bipush (v := 6) dR_text_4 rfl ?_
    -- at 6: .if_icmp .ne 6
    refine x_icmp_ne (tgt := 12) dR_text_6 (by decide) (fun h => absurd (by rw [htx, show tN (rE I) = 6 by omega]; rfl) h) (fun _ => ?_)
    refine x_bipush (v := -4) dR_text_9 rfl ?_
    -- at 11: .ireturn
    refine x_ireturn dR_text_11 rfl rfl ?_
    exact h1 I L (fun _ _ => rfl) own rfl
