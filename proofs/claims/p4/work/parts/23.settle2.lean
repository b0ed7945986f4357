def sp_Ledger_cutToRoom : SpT := fun as S I L Post => ∃ (p nq : Nat) (O : Nat → Int32), as = [.ref 35, .int (nI p)] ∧ S = S1 ∧ p < 8 ∧ VowOk I nq ∧ eq8 (rowOf I p) O ∧
  ∀ I' : IM, Fr [39, 40, 42] I I' → eq8 (rowOf I' p) (cutR (I 11 p) O nq).1 → Oth I I' p → I' 42 = up1 (I 42) p (cutR (I 11 p) O nq).2.2 → I' 40 = up1 (I 40) p (I 11 p - (cutR (I 11 p) O nq).2.1) → Post none S1 I' L
set_option maxHeartbeats 4000000 in
set_option maxRecDepth 100000 in
theorem c_Ledger_cutToRoom : Con mLedger_cutToRoom 3 0 0 sp_Ledger_cutToRoom := by
  refine con_of_X rfl fun G as S I L Post hs => ?_
  obtain ⟨p, nq, O, rfl, rfl, hp, hv, hO, h1⟩ := hs
  refine ⟨4, Nat.le_of_ble_eq_true rfl, ?_⟩
  show X mLedger_cutToRoom G _ S1 I L 0 [.ref 35, .int (nI p), .null, .null, .null, .null] [] Post
  refine x_aload_n dLedger_cutToRoom_0 rfl ?_
  refine x_getR fl_Ledger_47 rfl dLedger_cutToRoom_1 rfl rfl rfl ?_
  refine x_getR fl_Ledger_187 rfl dLedger_cutToRoom_4 rfl rfl rfl ?_
  refine x_iload_n dLedger_cutToRoom_7 rfl ?_
  refine x_ialdJ dLedger_cutToRoom_8 rfl rfl rfl (by omega) ?_
  refine x_istoren_2 dLedger_cutToRoom_9 rfl rfl ?_
  refine x_aload_n dLedger_cutToRoom_10 rfl ?_
  refine x_getR fl_Ledger_34 rfl dLedger_cutToRoom_11 rfl rfl rfl ?_
  refine x_iload_n dLedger_cutToRoom_14 rfl ?_
  refine x_iconst (v := 0) dLedger_cutToRoom_15 rfl ?_
  refine x_iastJ dLedger_cutToRoom_16 rfl rfl rfl (by omega) ?_
  refine x_iconst (v := 0) dLedger_cutToRoom_17 rfl ?_
  refine x_istoren_3 dLedger_cutToRoom_18 rfl rfl ?_
  -- at 19: .iload_n 3
  have loop : ∀ (k i : Nat) (I' : IM) (lf : Int32) (a4 a5 : Value), i + k = nq → Fr [39, 42] I I' → eq8 (rowOf I' p) (cutR (I 11 p) O i).1 → lf = (cutR (I 11 p) O i).2.1 → Oth I I' p → I' 42 = up1 (I 42) p (cutR (I 11 p) O i).2.2 →
      X mLedger_cutToRoom G (3, 0, 0) S1 I' L 19 [.ref 35, .int (nI p), .int lf, .int (nI i), a4, a5] [] Post := by
    intro k
    induction k with
    | zero =>
      intro i I' lf a4 a5 hi hF hr hl ho hb
      obtain rfl : i = nq := by omega
      refine x_iload_n dLedger_cutToRoom_19 rfl ?_
      refine x_aload_n dLedger_cutToRoom_20 rfl ?_
      refine x_getR fl_Ledger_51 rfl dLedger_cutToRoom_21 rfl rfl rfl ?_
      refine x_getI fl_Ledger_180 rfl dLedger_cutToRoom_24 rfl rfl ?_
      -- at 27: .if_icmp .ge 65
      rw [hF 13 (by decide), hv.1]
      refine x_icmp_ge (tgt := 92) dLedger_cutToRoom_27 (by decide) (fun _ => ?_) (fun h => absurd (Int32.le_refl _) h)
      refine x_aload_n dLedger_cutToRoom_92 rfl ?_
      refine x_getR fl_Ledger_28 rfl dLedger_cutToRoom_93 rfl rfl rfl ?_
      refine x_iload_n dLedger_cutToRoom_96 rfl ?_
      refine x_aload_n dLedger_cutToRoom_97 rfl ?_
      refine x_getR fl_Ledger_47 rfl dLedger_cutToRoom_98 rfl rfl rfl ?_
      refine x_getR fl_Ledger_187 rfl dLedger_cutToRoom_101 rfl rfl rfl ?_
      refine x_iload_n dLedger_cutToRoom_104 rfl ?_
      refine x_ialdJ dLedger_cutToRoom_105 rfl rfl rfl (by omega) ?_
      -- at 106: .iload_n 2
      rw [hF 11 (by decide)]
      refine x_iload_n dLedger_cutToRoom_106 rfl ?_
      refine x_isub dLedger_cutToRoom_107 ?_
      refine x_iastJ dLedger_cutToRoom_108 rfl rfl rfl (by omega) ?_
      -- at 109: .return_
      refine x_return dLedger_cutToRoom_109 rfl ?_
      refine h1 _ ((hF.wk (by decide)).up (by decide) _ _) ?_ ?_ ?_ ?_
      · show eq8 (fun q => _) _
        unfold rowOf
        simp only [up2_n, up2_s, ne_eq, Nat.reduceEqDiff, not_false_eq_true]
        exact hr
      · intro j hj
        simp only [up2_n, up2_s, ne_eq, Nat.reduceEqDiff, not_false_eq_true]
        exact ho j hj
      · simp only [up2_n, up2_s, ne_eq, Nat.reduceEqDiff, not_false_eq_true]
        exact hb
      · simp only [up2_n, up2_s, ne_eq, Nat.reduceEqDiff, not_false_eq_true]
        rw [hF 40 (by decide), hl]
    | succ k ih =>
      intro i I' lf a4 a5 hi hF hr hl ho hb
      have hn8 := hv.2.1
      refine x_iload_n dLedger_cutToRoom_19 rfl ?_
      refine x_aload_n dLedger_cutToRoom_20 rfl ?_
      refine x_getR fl_Ledger_51 rfl dLedger_cutToRoom_21 rfl rfl rfl ?_
      refine x_getI fl_Ledger_180 rfl dLedger_cutToRoom_24 rfl rfl ?_
      -- at 27: .if_icmp .ge 65
      rw [hF 13 (by decide), hv.1]
      refine x_icmp_ge (tgt := 92) dLedger_cutToRoom_27 (by decide) (fun h => absurd h (nI_ge (b := nq) (by omega) (by omega))) (fun _ => ?_)
      have hs : cutR (I 11 p) O (i + 1) = cutS i (cutR (I 11 p) O i) := rfl
      rw [cutS] at hs
      generalize cutR (I 11 p) O i = st at hr hl hb hs
      refine x_iload_n dLedger_cutToRoom_30 rfl ?_
      refine x_bipush (v := 8) dLedger_cutToRoom_31 rfl ?_
      refine x_imul dLedger_cutToRoom_33 ?_
      refine x_iload_n dLedger_cutToRoom_34 rfl ?_
      refine x_iadd dLedger_cutToRoom_35 ?_
      refine x_istore_4 dLedger_cutToRoom_36 rfl rfl ?_
      refine x_iconst (v := 0) dLedger_cutToRoom_38 rfl ?_
      refine x_aload_n dLedger_cutToRoom_39 rfl ?_
      refine x_getR fl_Ledger_25 rfl dLedger_cutToRoom_40 rfl rfl rfl ?_
      refine x_iload dLedger_cutToRoom_43 rfl ?_
      refine x_ialdJ (j := p * 8 + i) dLedger_cutToRoom_45 rfl rfl (by first | rfl | (simp only [← nI_add, ← pk_mul]; rfl)) (by omega) ?_
      refine x_iload_n dLedger_cutToRoom_46 rfl ?_
      refine x_isub dLedger_cutToRoom_47 ?_
      -- at 48: .invokestatic 169
      have r1 : I' 39 (p * 8 + i) = st.1 i := hr i (by omega)
      rw [r1]
      refine x_mmax dLedger_cutToRoom_48 ml_Ledger_169 st_max it_Math co_max rfl rfl ?_
      refine x_eqi (y := imax 0 (st.1 i - lf)) rfl ?_
      rw [← hl] at hs
      generalize imax 0 (st.1 i - lf) = mo at hs ⊢
      refine x_istore_5 dLedger_cutToRoom_51 rfl rfl ?_
      refine x_aload_n dLedger_cutToRoom_53 rfl ?_
      refine x_getR fl_Ledger_25 rfl dLedger_cutToRoom_54 rfl rfl rfl ?_
      refine x_iload dLedger_cutToRoom_57 rfl ?_
      refine x_dup2 dLedger_cutToRoom_59 rfl rfl ?_
      refine x_ialdJ (j := p * 8 + i) dLedger_cutToRoom_60 rfl rfl (by first | rfl | (simp only [← nI_add, ← pk_mul]; rfl)) (by omega) ?_
      -- at 61: .iload 5
      rw [r1]
      refine x_iload dLedger_cutToRoom_61 rfl ?_
      refine x_isub dLedger_cutToRoom_63 ?_
      refine x_iastJ (j := p * 8 + i) dLedger_cutToRoom_64 rfl rfl (by first | rfl | (simp only [← nI_add, ← pk_mul]; rfl)) (by omega) ?_
      refine x_iload_n dLedger_cutToRoom_65 rfl ?_
      refine x_aload_n dLedger_cutToRoom_66 rfl ?_
      refine x_getR fl_Ledger_25 rfl dLedger_cutToRoom_67 rfl rfl rfl ?_
      refine x_iload dLedger_cutToRoom_70 rfl ?_
      refine x_ialdJ (j := p * 8 + i) dLedger_cutToRoom_72 rfl rfl (by first | rfl | (simp only [← nI_add, ← pk_mul]; rfl)) (by omega) ?_
      -- at 73: .isub
      simp only [up2_n, up2_s, ne_eq, Nat.reduceEqDiff, not_false_eq_true, up1, if_true]
      refine x_isub dLedger_cutToRoom_73 ?_
      refine x_istoren_2 dLedger_cutToRoom_74 rfl rfl ?_
      refine x_aload_n dLedger_cutToRoom_75 rfl ?_
      refine x_getR fl_Ledger_34 rfl dLedger_cutToRoom_76 rfl rfl rfl ?_
      refine x_iload_n dLedger_cutToRoom_79 rfl ?_
      refine x_dup2 dLedger_cutToRoom_80 rfl rfl ?_
      refine x_ialdJ dLedger_cutToRoom_81 rfl rfl rfl (by omega) ?_
      -- at 82: .iload 5
      simp only [up2_n, up2_s, ne_eq, Nat.reduceEqDiff, not_false_eq_true, hb]
      refine x_iload dLedger_cutToRoom_82 rfl ?_
      refine x_iadd dLedger_cutToRoom_84 ?_
      refine x_iastJ dLedger_cutToRoom_85 rfl rfl rfl (by omega) ?_
      refine x_iincp_3 dLedger_cutToRoom_86 rfl rfl ?_
      refine x_goto (tgt := 19) dLedger_cutToRoom_89 (by decide) ?_
      -- at 19: .iload_n 3
      rw [nI_1]
      refine ih (i + 1) _ _ _ _ (by omega) ((hF.up (by decide) _ _).up (by decide) _ _) ?_ ?_ ?_ ?_
      · rw [hs]
        show eq8 (fun q => _) _
        unfold rowOf
        simp only [up2_n, up2_s, ne_eq, Nat.reduceEqDiff, not_false_eq_true]
        rw [up1_sh]
        exact up1_8 hr i rfl
      · rw [hs]
      · intro j hj
        simp only [up2_n, up2_s, ne_eq, Nat.reduceEqDiff, not_false_eq_true]
        rw [up1, if_neg (by omega)]
        exact ho j hj
      · simp only [up2_n, up2_s, ne_eq, Nat.reduceEqDiff, not_false_eq_true]
        rw [hs, hb]
        funext j
        by_cases z : j = p
        · subst z; simp [up1]
        · simp [up1, z]
  refine loop nq 0 _ _ _ _ (by omega) (Fr.rfl.up (by decide) _ _) ?_ rfl ?_ ?_
  · show eq8 (fun q => _) _
    unfold rowOf
    simp only [up2_n, up2_s, ne_eq, Nat.reduceEqDiff, not_false_eq_true]
    exact hO
  · intro j hj
    simp only [up2_n, up2_s, ne_eq, Nat.reduceEqDiff, not_false_eq_true]
  · simp only [up2_n, up2_s, ne_eq, Nat.reduceEqDiff, not_false_eq_true]
    rfl
/-- what one has at last: the row, struck, BEYOND, in all -/
def fin1 (V : IM) (D : Nat → Int32) (nq : Nat) (w : Int32) (m p : Nat) : (Nat → Int32) × Int32 × Int32 :=
  cutR (V 8 p) (strR V (maxR V D w m) nq).1 nq
def str1 (V : IM) (D : Nat → Int32) (nq : Nat) (w : Int32) (m : Nat) : Int32 := (strR V (maxR V D w m) nq).2
def tot1 (V : IM) (D : Nat → Int32) (nq : Nat) (w : Int32) (m p : Nat) : Int32 := V 8 p - (fin1 V D nq w m p).2.1
def Owes1 (V : IM) (D : Nat → Int32) (nq : Nat) (w : Int32) (m p : Nat) (I' : IM) : Prop :=
  eq8 (rowOf I' p) (fin1 V D nq w m p).1 ∧ I' 41 p = str1 V D nq w m ∧ I' 42 p = (fin1 V D nq w m p).2.2 ∧ I' 40 p = tot1 V D nq w m p
abbrev sScr : List Nat := [39, 40, 41, 42]
/-- others' rows and numbers stay -/
def Oth4 (I I' : IM) (p : Nat) : Prop := Oth I I' p ∧ ∀ i, i ≠ p → I' 40 i = I 40 i ∧ I' 41 i = I 41 i ∧ I' 42 i = I 42 i
theorem maxR_congr {V : IM} {D D' : Nat → Int32} {w : Int32} : ∀ m : Nat, (∀ s, s < m → D s = D' s) → maxR V D w m = maxR V D' w m := by
  intro m
  induction m with
  | zero => intro _; rfl
  | succ k ih =>
    intro h
    rw [maxR, maxR, ih (fun s hs => h s (by omega)), h k (by omega)]
def sp_Ledger_settleOne : SpT := fun as S I L Post => ∃ (p m nq : Nat) (w : Int32) (D : Nat → Int32), as = [.ref 35, .int (nI p), .int (nI m), .int w] ∧ S = S1 ∧ p < 8 ∧ m ≤ 11 ∧ (∀ s, s < m → rng (I 19 s) 8) ∧ VowOk I nq ∧ (∀ s, s < m → I 38 (s * 8 + p) = D s) ∧
  ∀ I' : IM, Fr sScr I I' → Owes1 (cV I) D nq w m p I' → Oth4 I I' p → Post none S1 I' L
set_option maxHeartbeats 4000000 in
set_option maxRecDepth 100000 in
theorem c_Ledger_settleOne : Con mLedger_settleOne 4 0 0 sp_Ledger_settleOne := by
  refine con_of_X rfl fun G as S I L Post hs => ?_
  obtain ⟨p, m, nq, w, D, rfl, rfl, hp, hm, hsv, hv, hD, h1⟩ := hs
  refine ⟨2, Nat.le_of_ble_eq_true rfl, ?_⟩
  show X mLedger_settleOne G _ S1 I L 0 [.ref 35, .int (nI p), .int (nI m), .int w, .null, .null] [] Post
  refine x_iconst (v := 0) dLedger_settleOne_0 rfl ?_
  refine x_istore_4 dLedger_settleOne_1 rfl rfl ?_
  -- at 3: .iload 4
  have loop2 : ∀ (k i : Nat) (I' : IM) (a5 : Value), i + k = m → Fr [39] I I' → eq8 (rowOf I' p) (maxR (cV I) D w i) → Oth I I' p →
      X mLedger_settleOne G (4, 0, 0) S1 I' L 32 [.ref 35, .int (nI p), .int (nI m), .int w, .int (nI i), a5] [] Post := by
    intro k
    induction k with
    | zero =>
      intro i I' a5 hi hF hr ho
      obtain rfl : i = m := by omega
      refine x_iload dLedger_settleOne_32 rfl ?_
      refine x_iload_n dLedger_settleOne_34 rfl ?_
      -- at 35: .if_icmp .ge 61
      refine x_icmp_ge (tgt := 96) dLedger_settleOne_35 (by decide) (fun _ => ?_) (fun h => absurd (Int32.le_refl _) h)
      have eV : cV I' = cV I := cV_fr (hF.wk (by decide))
      refine x_aload_n dLedger_settleOne_96 rfl ?_
      refine x_iload_n dLedger_settleOne_97 rfl ?_
      -- at 98: .invokevirtual 174
      refine x_callV_1 c_Ledger_strikeOut ok_Ledger_strikeOut ml_Ledger_174 dLedger_settleOne_98 rfl rfl rfl rfl rfl ?_
      refine ⟨p, nq, _, rfl, rfl, hp, hv.fr (hF _ (by decide)) (hF _ (by decide)), hr, fun I2 hF2 hr2 ho2 hs2 => ?_⟩
      rw [eV] at hr2 hs2
      refine x_aload_n dLedger_settleOne_101 rfl ?_
      refine x_iload_n dLedger_settleOne_102 rfl ?_
      -- at 103: .invokevirtual 177
      have e8 : I2 11 p = cV I 8 p := by rw [hF2 11 (by decide), hF 11 (by decide)]; rfl
      refine x_callV_1 c_Ledger_cutToRoom ok_Ledger_cutToRoom ml_Ledger_177 dLedger_settleOne_103 rfl rfl rfl rfl rfl ?_
      refine ⟨p, nq, _, rfl, rfl, hp, hv.fr ((hF2 _ (by decide)).trans (hF _ (by decide))) ((hF2 _ (by decide)).trans (hF _ (by decide))), hr2, fun I3 hF3 hr3 ho3 hb3 ht3 => ?_⟩
      rw [e8] at hr3 hb3 ht3
      refine x_return dLedger_settleOne_106 rfl ?_
      refine h1 I3 (((hF.wk (by decide)).tr (hF2.wk (by decide))).tr (hF3.wk (by decide))) ⟨hr3, ?_, ?_, ?_⟩ ⟨fun j hj => ?_, fun j hj => ⟨?_, ?_, ?_⟩⟩
      · rw [hF3 41 (by decide), hs2]
        simp [up1, str1]
      · rw [hb3]
        simp [up1, fin1]
      · rw [ht3]
        simp [up1, tot1, fin1]
      · rw [ho3 j hj, ho2 j hj, ho j hj]
      · rw [ht3, up1, if_neg hj, hF2 40 (by decide), hF 40 (by decide)]
      · rw [hF3 41 (by decide), hs2, up1, if_neg hj, hF 41 (by decide)]
      · rw [hb3, up1, if_neg hj, hF2 42 (by decide), hF 42 (by decide)]
    | succ k ih =>
      intro i I' a5 hi hF hr ho
      refine x_iload dLedger_settleOne_32 rfl ?_
      refine x_iload_n dLedger_settleOne_34 rfl ?_
      -- at 35: .if_icmp .ge 61
      refine x_icmp_ge (tgt := 96) dLedger_settleOne_35 (by decide) (fun h => absurd h (nI_ge (b := m) (by omega) (by omega))) (fun _ => ?_)
      refine x_iload_n dLedger_settleOne_38 rfl ?_
      refine x_bipush (v := 8) dLedger_settleOne_39 rfl ?_
      refine x_imul dLedger_settleOne_41 ?_
      refine x_aload_n dLedger_settleOne_42 rfl ?_
      refine x_getR fl_Ledger_55 rfl dLedger_settleOne_43 rfl rfl rfl ?_
      refine x_getR fl_Ledger_144 rfl dLedger_settleOne_46 rfl rfl rfl ?_
      refine x_iload dLedger_settleOne_49 rfl ?_
      refine x_ialdJ dLedger_settleOne_51 rfl rfl rfl (by omega) ?_
      -- at 52: .iadd
      obtain ⟨q, hq, eq⟩ := hsv i (by omega)
      have eq2 : cl (cV I 14 i) = q := by rw [show cV I 14 i = nI q from eq]; exact cl_nI (by omega)
      rw [hF 19 (by decide), eq]
      refine x_iadd dLedger_settleOne_52 ?_
      refine x_istore_5 dLedger_settleOne_53 rfl rfl ?_
      refine x_iload dLedger_settleOne_55 rfl ?_
      refine x_iload_n dLedger_settleOne_57 rfl ?_
      -- at 58: .if_icmp .eq 32
      have hs : maxR (cV I) D w (i + 1) = if nI i = w then maxR (cV I) D w i else up1 (maxR (cV I) D w i) q (imax (maxR (cV I) D w i q) (D i)) := by rw [maxR, eq2]
      refine x_icmp_eq (tgt := 90) dLedger_settleOne_58 (by decide) (fun c1 => ?_) (fun c1 => ?_)
      · rw [if_pos c1] at hs
        refine x_iincp_4 dLedger_settleOne_90 rfl rfl ?_
        refine x_goto (tgt := 32) dLedger_settleOne_93 (by decide) ?_
        -- at 32: .iload 4
        rw [nI_1]
        exact ih (i + 1) I' _ (by omega) hF (by rw [hs]; exact hr) ho
      · rw [if_neg c1] at hs
        refine x_aload_n dLedger_settleOne_61 rfl ?_
        refine x_getR fl_Ledger_25 rfl dLedger_settleOne_62 rfl rfl rfl ?_
        refine x_iload dLedger_settleOne_65 rfl ?_
        refine x_aload_n dLedger_settleOne_67 rfl ?_
        refine x_getR fl_Ledger_25 rfl dLedger_settleOne_68 rfl rfl rfl ?_
        refine x_iload dLedger_settleOne_71 rfl ?_
        refine x_ialdJ (j := p * 8 + q) dLedger_settleOne_73 rfl rfl (by first | rfl | (simp only [← nI_add, ← pk_mul]; rfl)) (by omega) ?_
        refine x_aload_n dLedger_settleOne_74 rfl ?_
        refine x_getR fl_Ledger_22 rfl dLedger_settleOne_75 rfl rfl rfl ?_
        refine x_iload dLedger_settleOne_78 rfl ?_
        refine x_bipush (v := 8) dLedger_settleOne_80 rfl ?_
        refine x_imul dLedger_settleOne_82 ?_
        refine x_iload_n dLedger_settleOne_83 rfl ?_
        refine x_iadd dLedger_settleOne_84 ?_
        refine x_ialdJ (j := i * 8 + p) dLedger_settleOne_85 rfl rfl (by first | rfl | (simp only [← nI_add, ← pk_mul]; rfl)) (by omega) ?_
        -- at 86: .invokestatic 169
        have r1 : I' 39 (p * 8 + q) = maxR (cV I) D w i q := hr q hq
        have r2 : I' 38 (i * 8 + p) = D i := by rw [hF 38 (by decide)]; exact hD i (by omega)
        rw [r1, r2]
        refine x_mmax dLedger_settleOne_86 ml_Ledger_169 st_max it_Math co_max rfl rfl ?_
        refine x_eqi (y := imax (maxR (cV I) D w i q) (D i)) rfl ?_
        refine x_iastJ (j := p * 8 + q) dLedger_settleOne_89 rfl rfl (by first | rfl | (simp only [← nI_add, ← pk_mul]; rfl)) (by omega) ?_
        refine x_iincp_4 dLedger_settleOne_90 rfl rfl ?_
        refine x_goto (tgt := 32) dLedger_settleOne_93 (by decide) ?_
        -- at 32: .iload 4
        rw [nI_1]
        refine ih (i + 1) _ _ (by omega) (hF.up (by decide) _ _) ?_ ?_
        · rw [hs]
          show eq8 (fun q => _) _
          unfold rowOf
          simp only [up2_n, up2_s, ne_eq, Nat.reduceEqDiff, not_false_eq_true]
          rw [up1_sh]
          exact up1_8 hr q rfl
        · intro j hj
          simp only [up2_n, up2_s, ne_eq, Nat.reduceEqDiff, not_false_eq_true]
          rw [up1, if_neg (by omega)]
          exact ho j hj
  have loop1 : ∀ (k i : Nat) (I' : IM), i + k = 8 → Fr [39] I I' → (∀ q, q < i → I' 39 (p * 8 + q) = 0) → Oth I I' p →
      X mLedger_settleOne G (4, 0, 0) S1 I' L 3 [.ref 35, .int (nI p), .int (nI m), .int w, .int (nI i), .null] [] Post := by
    intro k
    induction k with
    | zero =>
      intro i I' hi hF hz ho
      obtain rfl : i = 8 := by omega
      refine x_iload dLedger_settleOne_3 rfl ?_
      refine x_bipush (v := 8) dLedger_settleOne_5 rfl ?_
      -- at 7: .if_icmp .ge 22
      refine x_icmp_ge (tgt := 29) dLedger_settleOne_7 (by decide) (fun _ => ?_) (fun h => absurd (by decide) h)
      refine x_iconst (v := 0) dLedger_settleOne_29 rfl ?_
      refine x_istore_4 dLedger_settleOne_30 rfl rfl ?_
      -- at 32: .iload 4
      exact loop2 m 0 I' .null (by omega) hF (fun q hq => hz q hq) ho
    | succ k ih =>
      intro i I' hi hF hz ho
      refine x_iload dLedger_settleOne_3 rfl ?_
      refine x_bipush (v := 8) dLedger_settleOne_5 rfl ?_
      -- at 7: .if_icmp .ge 22
      refine x_icmp_ge (tgt := 29) dLedger_settleOne_7 (by decide) (fun h => absurd h (nI_ge (b := 8) (by omega) (by omega))) (fun _ => ?_)
      refine x_aload_n dLedger_settleOne_10 rfl ?_
      refine x_getR fl_Ledger_25 rfl dLedger_settleOne_11 rfl rfl rfl ?_
      refine x_iload_n dLedger_settleOne_14 rfl ?_
      refine x_bipush (v := 8) dLedger_settleOne_15 rfl ?_
      refine x_imul dLedger_settleOne_17 ?_
      refine x_iload dLedger_settleOne_18 rfl ?_
      refine x_iadd dLedger_settleOne_20 ?_
      refine x_iconst (v := 0) dLedger_settleOne_21 rfl ?_
      refine x_iastJ (j := p * 8 + i) dLedger_settleOne_22 rfl rfl (by first | rfl | (simp only [← nI_add, ← pk_mul]; rfl)) (by omega) ?_
      refine x_iincp_4 dLedger_settleOne_23 rfl rfl ?_
      refine x_goto (tgt := 3) dLedger_settleOne_26 (by decide) ?_
      -- at 3: .iload 4
      rw [nI_1]
      refine ih (i + 1) _ (by omega) (hF.up (by decide) _ _) (fun q hq => ?_) (fun j hj => ?_)
      · simp only [up2_n, up2_s, ne_eq, Nat.reduceEqDiff, not_false_eq_true]
        by_cases e : q = i
        · subst e; simp [up1]
        · rw [up1, if_neg (by omega)]
          exact hz q (by omega)
      · simp only [up2_n, up2_s, ne_eq, Nat.reduceEqDiff, not_false_eq_true]
        rw [up1, if_neg (by omega)]
        exact ho j hj
  exact loop1 8 0 I (by omega) Fr.rfl (fun q hq => absurd hq (Nat.not_lt_zero q)) (fun j _ => rfl)
/-- all are settled -/
def OwesN (V : IM) (D : Nat → Nat → Int32) (n nq : Nat) (w : Int32) (m : Nat) (I' : IM) : Prop := ∀ p, p < n → Owes1 V (D p) nq w m p I'
def sp_Ledger_settle : SpT := fun as S I L Post => ∃ (m n nq : Nat) (w : Int32) (D : Nat → Nat → Int32), as = [.ref 35, .int (nI m), .int w] ∧ S = S1 ∧ I 4 8 = nI n ∧ n ≤ 8 ∧ m ≤ 11 ∧ (∀ s, s < m → rng (I 19 s) 8) ∧ VowOk I nq ∧ (∀ p, p < n → ∀ s, s < m → I 38 (s * 8 + p) = D p s) ∧
  ∀ I' : IM, Fr sScr I I' → OwesN (cV I) D n nq w m I' → Post none S1 I' L
theorem Owes1.keep {V : IM} {D : Nat → Int32} {nq : Nat} {w : Int32} {m p p2 : Nat} {I I' : IM} (h : Owes1 V D nq w m p I) (ho : Oth4 I I' p2) (hne : p ≠ p2) : Owes1 V D nq w m p I' := by
  obtain ⟨h1, h2, h3, h4⟩ := h
  obtain ⟨o1, o2⟩ := ho
  obtain ⟨a1, a2, a3⟩ := o2 p hne
  refine ⟨fun q hq => ?_, a2.trans h2, a3.trans h3, a1.trans h4⟩
  rw [← h1 q hq]
  exact o1 _ (by omega)
set_option maxHeartbeats 4000000 in
set_option maxRecDepth 100000 in
theorem c_Ledger_settle : Con mLedger_settle 5 0 0 sp_Ledger_settle := by
  refine con_of_X rfl fun G as S I L Post hs => ?_
  obtain ⟨m, n, nq, w, D, rfl, rfl, hn, hn8, hm, hsv, hv, hD, h1⟩ := hs
  refine ⟨1, Nat.le_of_ble_eq_true rfl, ?_⟩
  show X mLedger_settle G _ S1 I L 0 [.ref 35, .int (nI m), .int w, .null] [] Post
  refine x_iconst (v := 0) dLedger_settle_0 rfl ?_
  refine x_istoren_3 dLedger_settle_1 rfl rfl ?_
  -- at 2: .iload_n 3
  have loop : ∀ (k i : Nat) (I' : IM), i + k = n → Fr sScr I I' → OwesN (cV I) D i nq w m I' →
      X mLedger_settle G (5, 0, 0) S1 I' L 2 [.ref 35, .int (nI m), .int w, .int (nI i)] [] Post := by
    intro k
    induction k with
    | zero =>
      intro i I' hi hF ho
      obtain rfl : i = n := by omega
      refine x_iload_n dLedger_settle_2 rfl ?_
      refine x_aload_n dLedger_settle_3 rfl ?_
      refine x_getR fl_Ledger_47 rfl dLedger_settle_4 rfl rfl rfl ?_
      refine x_getI fl_Ledger_82 rfl dLedger_settle_7 rfl rfl ?_
      -- at 10: .if_icmp .ge 16
      rw [hF 4 (by decide), hn]
      refine x_icmp_ge (tgt := 26) dLedger_settle_10 (by decide) (fun _ => ?_) (fun h => absurd (Int32.le_refl _) h)
      refine x_return dLedger_settle_26 rfl ?_
      exact h1 I' hF ho
    | succ k ih =>
      intro i I' hi hF ho
      refine x_iload_n dLedger_settle_2 rfl ?_
      refine x_aload_n dLedger_settle_3 rfl ?_
      refine x_getR fl_Ledger_47 rfl dLedger_settle_4 rfl rfl rfl ?_
      refine x_getI fl_Ledger_82 rfl dLedger_settle_7 rfl rfl ?_
      -- at 10: .if_icmp .ge 16
      rw [hF 4 (by decide), hn]
      refine x_icmp_ge (tgt := 26) dLedger_settle_10 (by decide) (fun h => absurd h (nI_ge (b := n) (by omega) (by omega))) (fun _ => ?_)
      refine x_aload_n dLedger_settle_13 rfl ?_
      refine x_iload_n dLedger_settle_14 rfl ?_
      refine x_iload_n dLedger_settle_15 rfl ?_
      refine x_iload_n dLedger_settle_16 rfl ?_
      -- at 17: .invokevirtual 165
      have eV : cV I' = cV I := cV_fr (hF.wk (by decide))
      refine x_callV_3 c_Ledger_settleOne ok_Ledger_settleOne ml_Ledger_165 dLedger_settle_17 rfl rfl rfl rfl rfl ?_
      refine ⟨i, m, nq, w, D i, rfl, rfl, by omega, hm, by rw [hF 19 (by decide)]; exact hsv, hv.fr (hF _ (by decide)) (hF _ (by decide)), by rw [hF 38 (by decide)]; exact hD i (by omega), fun I2 hF2 hw2 ho2 => ?_⟩
      rw [eV] at hw2
      refine x_iincp_3 dLedger_settle_20 rfl rfl ?_
      refine x_goto (tgt := 2) dLedger_settle_23 (by decide) ?_
      -- at 2: .iload_n 3
      rw [nI_1]
      refine ih (i + 1) I2 (by omega) (hF.tr hF2) (fun p hp => ?_)
      by_cases e : p = i
      · subst e; exact hw2
      · exact (ho p (by omega)).keep ho2 e
  exact loop n 0 I (by omega) Fr.rfl (fun p hp => absurd hp (Nat.not_lt_zero p))
