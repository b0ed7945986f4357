/-! what is owed in all: the class -/
def maxR (V : IM) (D : Nat → Int32) (w : Int32) (m : Nat) : Nat → Int32 := match m with
  | 0 => fun _ => 0
  | k + 1 => if nI k = w then maxR V D w k else up1 (maxR V D w k) (cl (V 14 k)) (imax (maxR V D w k (cl (V 14 k))) (D k))
def strS (V : IM) (j : Nat) (o : (Nat → Int32) × Int32) : (Nat → Int32) × Int32 :=
  if V 13 j = -1 then o else
    let l := imin (o.1 j) (o.1 (cl (V 13 j)))
    let o1 := up1 o.1 j (o.1 j - l)
    (up1 o1 (cl (V 13 j)) (o1 (cl (V 13 j)) - l), o.2 + l)
def strR (V : IM) (o : Nat → Int32) (j : Nat) : (Nat → Int32) × Int32 := match j with
  | 0 => (o, 0)
  | k + 1 => strS V k (strR V o k)
/-- the row, what is left of ROOM, BEYOND -/
def cutS (j : Nat) (o : (Nat → Int32) × Int32 × Int32) : (Nat → Int32) × Int32 × Int32 :=
  let more := imax 0 (o.1 j - o.2.1)
  (up1 o.1 j (o.1 j - more), o.2.1 - (o.1 j - more), o.2.2 + more)
def cutR (room : Int32) (o : Nat → Int32) (j : Nat) : (Nat → Int32) × Int32 × Int32 := match j with
  | 0 => (o, room, 0)
  | k + 1 => cutS k (cutR room o k)
def rowOf (I : IM) (p : Nat) : Nat → Int32 := fun q => I 39 (p * 8 + q)
def eq8 (f g : Nat → Int32) : Prop := ∀ q, q < 8 → f q = g q
/-- PROMISES' rows that striking out rests on -/
def VowOk (I : IM) (nq : Nat) : Prop := I 13 4 = nI nq ∧ nq ≤ 8 ∧ ∀ j, j < nq → rng1 (I 17 j) 8
theorem VowOk.fr {I I' : IM} {nq : Nat} (h : VowOk I nq) (h1 : I' 13 = I 13) (h2 : I' 17 = I 17) : VowOk I' nq := by
  unfold VowOk
  rw [h1, h2]
  exact h
/-- a step of a row keeps what agrees below 8 -/
theorem up1_8 {f g : Nat → Int32} (h : eq8 f g) (j : Nat) {x y : Int32} (hx : x = y) : eq8 (up1 f j x) (up1 g j y) := by
  intro q hq
  unfold up1
  split
  · exact hx
  · exact h q hq
theorem up1_sh (f : Nat → Int32) (p j : Nat) (x : Int32) : (fun q => up1 f (p * 8 + j) x (p * 8 + q)) = up1 (fun q => f (p * 8 + q)) j x := by
  funext q
  unfold up1
  by_cases e : q = j
  · subst e; simp
  · rw [if_neg e, if_neg (by omega)]
/-- rows of others stay -/
def Oth (I I' : IM) (p : Nat) : Prop := ∀ i, (i < p * 8 ∨ p * 8 + 8 ≤ i) → I' 39 i = I 39 i
def sp_Ledger_strikeOut : SpT := fun as S I L Post => ∃ (p nq : Nat) (O : Nat → Int32), as = [.ref 35, .int (nI p)] ∧ S = S1 ∧ p < 8 ∧ VowOk I nq ∧ eq8 (rowOf I p) O ∧
  ∀ I' : IM, Fr [39, 41] I I' → eq8 (rowOf I' p) (strR (cV I) O nq).1 → Oth I I' p → I' 41 = up1 (I 41) p (strR (cV I) O nq).2 → Post none S1 I' L
set_option maxHeartbeats 4000000 in
set_option maxRecDepth 100000 in
theorem c_Ledger_strikeOut : Con mLedger_strikeOut 3 0 0 sp_Ledger_strikeOut := by
  refine con_of_X rfl fun G as S I L Post hs => ?_
  obtain ⟨p, nq, O, rfl, rfl, hp, hv, hO, h1⟩ := hs
  refine ⟨4, Nat.le_of_ble_eq_true rfl, ?_⟩
  show X mLedger_strikeOut G _ S1 I L 0 [.ref 35, .int (nI p), .null, .null, .null, .null] [] Post
  refine x_aload_n dLedger_strikeOut_0 rfl ?_
  refine x_getR fl_Ledger_31 rfl dLedger_strikeOut_1 rfl rfl rfl ?_
  refine x_iload_n dLedger_strikeOut_4 rfl ?_
  refine x_iconst (v := 0) dLedger_strikeOut_5 rfl ?_
  refine x_iastJ dLedger_strikeOut_6 rfl rfl rfl (by omega) ?_
  refine x_iconst (v := 0) dLedger_strikeOut_7 rfl ?_
  refine x_istoren_2 dLedger_strikeOut_8 rfl rfl ?_
  -- at 9: .iload_n 2
  have loop : ∀ (k i : Nat) (I' : IM) (a3 a4 a5 : Value), i + k = nq → (cat1at [a3] 1 = true) → (cat1at [a4] 1 = true) → (cat1at [a5] 1 = true) → Fr [39, 41] I I' → eq8 (rowOf I' p) (strR (cV I) O i).1 → Oth I I' p → I' 41 = up1 (I 41) p (strR (cV I) O i).2 →
      X mLedger_strikeOut G (3, 0, 0) S1 I' L 9 [.ref 35, .int (nI p), .int (nI i), a3, a4, a5] [] Post := by
    intro k
    induction k with
    | zero =>
      intro i I' a3 a4 a5 hi q3 q4 q5 hF hr ho hst
      obtain rfl : i = nq := by omega
      refine x_iload_n dLedger_strikeOut_9 rfl ?_
      refine x_aload_n dLedger_strikeOut_10 rfl ?_
      refine x_getR fl_Ledger_51 rfl dLedger_strikeOut_11 rfl rfl rfl ?_
      refine x_getI fl_Ledger_180 rfl dLedger_strikeOut_14 rfl rfl ?_
      -- at 17: .if_icmp .ge 97
      rw [hF 13 (by decide), hv.1]
      refine x_icmp_ge (tgt := 114) dLedger_strikeOut_17 (by decide) (fun _ => ?_) (fun h => absurd (Int32.le_refl _) h)
      refine x_return dLedger_strikeOut_114 rfl ?_
      exact h1 I' hF hr ho hst
    | succ k ih =>
      intro i I' a3 a4 a5 hi q3 q4 q5 hF hr ho hst
      have hn8 := hv.2.1
      refine x_iload_n dLedger_strikeOut_9 rfl ?_
      refine x_aload_n dLedger_strikeOut_10 rfl ?_
      refine x_getR fl_Ledger_51 rfl dLedger_strikeOut_11 rfl rfl rfl ?_
      refine x_getI fl_Ledger_180 rfl dLedger_strikeOut_14 rfl rfl ?_
      -- at 17: .if_icmp .ge 97
      rw [hF 13 (by decide), hv.1]
      refine x_icmp_ge (tgt := 114) dLedger_strikeOut_17 (by decide) (fun h => absurd h (nI_ge (b := nq) (by omega) (by omega))) (fun _ => ?_)
      refine x_aload_n dLedger_strikeOut_20 rfl ?_
      refine x_getR fl_Ledger_51 rfl dLedger_strikeOut_21 rfl rfl rfl ?_
      refine x_getR fl_Ledger_181 rfl dLedger_strikeOut_24 rfl rfl rfl ?_
      refine x_iload_n dLedger_strikeOut_27 rfl ?_
      refine x_ialdJ dLedger_strikeOut_28 rfl rfl rfl (by omega) ?_
      refine x_iconst (v := -1) dLedger_strikeOut_29 rfl ?_
      -- at 30: .if_icmp .eq 78
      have e17 := hF 17 (by decide)
      rw [e17]
      rcases hv.2.2 i (by omega) with e | ⟨c, hc, e⟩
      · rw [e]
        refine x_icmp_eq (tgt := 108) dLedger_strikeOut_30 (by decide) (fun _ => ?_) (fun h => absurd rfl h)
        refine x_iincp_2 dLedger_strikeOut_108 rfl rfl ?_
        refine x_goto (tgt := 9) dLedger_strikeOut_111 (by decide) ?_
        -- at 9: .iload_n 2
        rw [nI_1]
        have hs : strR (cV I) O (i + 1) = strR (cV I) O i := by
          rw [strR, strS, if_pos (show cV I 13 i = -1 from e)]
        refine ih (i + 1) I' a3 a4 a5 (by omega) q3 q4 q5 hF ?_ ho ?_ <;> rw [hs] <;> assumption
      · rw [e]
        have hne : ¬ nI c = -1 := fun z => by
          have := nI_pos' (n := c) (by omega)
          rw [z] at this
          exact absurd this (by decide)
        refine x_icmp_eq (tgt := 108) dLedger_strikeOut_30 (by decide) (fun h => absurd h hne) (fun _ => ?_)
        have hs : strR (cV I) O (i + 1) = strS (cV I) i (strR (cV I) O i) := rfl
        have ec : cl (cV I 13 i) = c := by rw [show cV I 13 i = nI c from e]; exact cl_nI (by omega)
        rw [strS, if_neg (by rw [show cV I 13 i = nI c from e]; exact hne), ec] at hs
        generalize strR (cV I) O i = st at hr hst hs
        refine x_iload_n dLedger_strikeOut_33 rfl ?_
        refine x_bipush (v := 8) dLedger_strikeOut_34 rfl ?_
        refine x_imul dLedger_strikeOut_36 ?_
        refine x_iload_n dLedger_strikeOut_37 rfl ?_
        refine x_iadd dLedger_strikeOut_38 ?_
        refine x_istoren_3 dLedger_strikeOut_39 rfl rfl ?_
        refine x_iload_n dLedger_strikeOut_40 rfl ?_
        refine x_bipush (v := 8) dLedger_strikeOut_41 rfl ?_
        -- at 43: .imul
        refine x_imul dLedger_strikeOut_43 ?_
        refine x_aload_n dLedger_strikeOut_44 rfl ?_
        refine x_getR fl_Ledger_51 rfl dLedger_strikeOut_45 rfl rfl rfl ?_
        refine x_getR fl_Ledger_181 rfl dLedger_strikeOut_48 rfl rfl rfl ?_
        refine x_iload_n dLedger_strikeOut_51 rfl ?_
        refine x_ialdJ dLedger_strikeOut_52 rfl rfl rfl (by omega) ?_
        -- at 53: .iadd
        rw [e17, e]
        refine x_iadd dLedger_strikeOut_53 ?_
        refine x_istore_4 dLedger_strikeOut_54 rfl rfl ?_
        -- at 56: .aload_n 0
        refine x_aload_n dLedger_strikeOut_56 rfl ?_
        refine x_getR fl_Ledger_25 rfl dLedger_strikeOut_57 rfl rfl rfl ?_
        refine x_iload_n dLedger_strikeOut_60 rfl ?_
        refine x_ialdJ (j := p * 8 + i) dLedger_strikeOut_61 rfl rfl (by first | rfl | (simp only [← nI_add, ← pk_mul]; rfl)) (by omega) ?_
        -- at 62: .aload_n 0
        refine x_aload_n dLedger_strikeOut_62 rfl ?_
        refine x_getR fl_Ledger_25 rfl dLedger_strikeOut_63 rfl rfl rfl ?_
        refine x_iload dLedger_strikeOut_66 rfl ?_
        refine x_ialdJ (j := p * 8 + c) dLedger_strikeOut_68 rfl rfl (by first | rfl | (simp only [← nI_add, ← pk_mul]; rfl)) (by omega) ?_
        -- at 69: .invokestatic 184
        have r1 : I' 39 (p * 8 + i) = st.1 i := hr i (by omega)
        have r2 : I' 39 (p * 8 + c) = st.1 c := hr c hc
        rw [r1, r2]
        refine x_mmin dLedger_strikeOut_69 ml_Ledger_184 st_min it_Math co_min rfl rfl ?_
        refine x_eqi (y := imin (st.1 i) (st.1 c)) rfl ?_
        dsimp only at hs
        generalize imin (st.1 i) (st.1 c) = l at hs ⊢
        refine x_istore_5 dLedger_strikeOut_72 rfl rfl ?_
        refine x_aload_n dLedger_strikeOut_74 rfl ?_
        refine x_getR fl_Ledger_25 rfl dLedger_strikeOut_75 rfl rfl rfl ?_
        refine x_iload_n dLedger_strikeOut_78 rfl ?_
        refine x_dup2 dLedger_strikeOut_79 rfl rfl ?_
        refine x_ialdJ (j := p * 8 + i) dLedger_strikeOut_80 rfl rfl (by first | rfl | (simp only [← nI_add, ← pk_mul]; rfl)) (by omega) ?_
        -- at 81: .iload 5
        rw [r1]
        refine x_iload dLedger_strikeOut_81 rfl ?_
        refine x_isub dLedger_strikeOut_83 ?_
        refine x_iastJ (j := p * 8 + i) dLedger_strikeOut_84 rfl rfl (by first | rfl | (simp only [← nI_add, ← pk_mul]; rfl)) (by omega) ?_
        -- at 85: .aload_n 0
        refine x_aload_n dLedger_strikeOut_85 rfl ?_
        refine x_getR fl_Ledger_25 rfl dLedger_strikeOut_86 rfl rfl rfl ?_
        refine x_iload dLedger_strikeOut_89 rfl ?_
        refine x_dup2 dLedger_strikeOut_91 rfl rfl ?_
        refine x_ialdJ (j := p * 8 + c) dLedger_strikeOut_92 rfl rfl (by first | rfl | (simp only [← nI_add, ← pk_mul]; rfl)) (by omega) ?_
        -- at 93: .iload 5
        refine x_iload dLedger_strikeOut_93 rfl ?_
        refine x_isub dLedger_strikeOut_95 ?_
        refine x_iastJ (j := p * 8 + c) dLedger_strikeOut_96 rfl rfl (by first | rfl | (simp only [← nI_add, ← pk_mul]; rfl)) (by omega) ?_
        -- at 97: .aload_n 0
        refine x_aload_n dLedger_strikeOut_97 rfl ?_
        refine x_getR fl_Ledger_31 rfl dLedger_strikeOut_98 rfl rfl rfl ?_
        refine x_iload_n dLedger_strikeOut_101 rfl ?_
        refine x_dup2 dLedger_strikeOut_102 rfl rfl ?_
        refine x_ialdJ dLedger_strikeOut_103 rfl rfl rfl (by omega) ?_
        -- at 104: .iload 5
        simp only [up2_n, up2_s, ne_eq, Nat.reduceEqDiff, not_false_eq_true, hst]
        refine x_iload dLedger_strikeOut_104 rfl ?_
        refine x_iadd dLedger_strikeOut_106 ?_
        refine x_iastJ dLedger_strikeOut_107 rfl rfl rfl (by omega) ?_
        refine x_iincp_2 dLedger_strikeOut_108 rfl rfl ?_
        refine x_goto (tgt := 9) dLedger_strikeOut_111 (by decide) ?_
        -- at 9: .iload_n 2
        rw [nI_1]
        refine ih (i + 1) _ _ _ _ (by omega) rfl rfl rfl (((hF.up (by decide) _ _).up (by decide) _ _).up (by decide) _ _) ?_ ?_ ?_
        · rw [hs]
          show eq8 (fun q => _) _
          unfold rowOf
          simp only [up2_n, up2_s, ne_eq, Nat.reduceEqDiff, not_false_eq_true]
          rw [up1_sh, up1_sh]
          have r3 : up1 (fun q => I' 39 (p * 8 + q)) i (st.1 i - l) c = up1 st.1 i (st.1 i - l) c := up1_8 hr i rfl c hc
          have r4 : up1 (I' 39) (p * 8 + i) (st.1 i - l) (p * 8 + c) = up1 st.1 i (st.1 i - l) c := by
            rw [← r3, ← up1_sh]
          rw [r4]
          exact up1_8 (up1_8 hr i rfl) c rfl
        · intro j hj
          simp only [up2_n, up2_s, ne_eq, Nat.reduceEqDiff, not_false_eq_true]
          rw [up1, if_neg (by omega), up1, if_neg (by omega)]
          exact ho j hj
        · simp only [up2_n, up2_s, ne_eq, Nat.reduceEqDiff, not_false_eq_true]
          rw [hs, hst]
          funext j
          by_cases z : j = p
          · subst z; simp [up1]
          · simp [up1, z]
  refine loop nq 0 _ _ _ _ (by omega) rfl rfl rfl (Fr.rfl.up (by decide) _ _) ?_ ?_ ?_
  · show eq8 (fun q => _) _
    unfold rowOf
    simp only [up2_n, up2_s, ne_eq, Nat.reduceEqDiff, not_false_eq_true]
    exact hO
  · intro j hj
    simp only [up2_n, up2_s, ne_eq, Nat.reduceEqDiff, not_false_eq_true]
  · simp only [up2_n, up2_s, ne_eq, Nat.reduceEqDiff, not_false_eq_true]
    rfl
