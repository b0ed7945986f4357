/-! who hears how well: the class -/
def sp_Ledger_setClear : SpT := fun as S I L Post => ∃ (s p : Nat) (v : Int32) (b : Bool), as = [.ref 35, .int (nI s), .int (nI p), .int v] ∧ S = S1 ∧ s < 11 ∧ ((v = 1 ∧ b = true) ∨ (v = 0 ∧ b = false)) ∧ Post none S1 (up2 I 37 s (setB (I 37 s) p b)) L
set_option maxHeartbeats 4000000 in
set_option maxRecDepth 100000 in
theorem c_Ledger_setClear : Con mLedger_setClear 2 0 0 sp_Ledger_setClear := by
  refine con_of_X rfl fun G as S I L Post hs => ?_
  obtain ⟨s, p, v, b, rfl, rfl, hs, hb, h1⟩ := hs
  refine ⟨0, Nat.le_of_ble_eq_true rfl, ?_⟩
  show X mLedger_setClear G _ S1 I L 0 [.ref 35, .int (nI s), .int (nI p), .int v] [] Post
  rcases hb with ⟨rfl, rfl⟩ | ⟨rfl, rfl⟩
  · refine x_aload_n dLedger_setClear_0 rfl ?_
    refine x_getR fl_Ledger_19 rfl dLedger_setClear_1 rfl rfl rfl ?_
    refine x_iload_n dLedger_setClear_4 rfl ?_
    refine x_iload_n dLedger_setClear_5 rfl ?_
    -- at 6: .ifCond .eq 16
    refine x_if_eq (tgt := 22) dLedger_setClear_6 (by decide) (fun h => absurd h (by decide)) (fun _ => ?_)
    refine x_aload_n dLedger_setClear_9 rfl ?_
    refine x_getR fl_Ledger_19 rfl dLedger_setClear_10 rfl rfl rfl ?_
    refine x_iload_n dLedger_setClear_13 rfl ?_
    refine x_ialdJ dLedger_setClear_14 rfl rfl rfl (by omega) ?_
    refine x_iconst (v := 1) dLedger_setClear_15 rfl ?_
    refine x_iload_n dLedger_setClear_16 rfl ?_
    refine x_ishl dLedger_setClear_17 ?_
    refine x_ior dLedger_setClear_18 ?_
    refine x_goto (tgt := 34) dLedger_setClear_19 (by decide) ?_
    refine x_iastJ dLedger_setClear_34 rfl rfl rfl (by omega) ?_
    -- at 35: .return_
    refine x_return dLedger_setClear_35 rfl ?_
    exact h1
  · refine x_aload_n dLedger_setClear_0 rfl ?_
    refine x_getR fl_Ledger_19 rfl dLedger_setClear_1 rfl rfl rfl ?_
    refine x_iload_n dLedger_setClear_4 rfl ?_
    refine x_iload_n dLedger_setClear_5 rfl ?_
    -- at 6: .ifCond .eq 16
    refine x_if_eq (tgt := 22) dLedger_setClear_6 (by decide) (fun _ => ?_) (fun h => absurd (by decide) h)
    refine x_aload_n dLedger_setClear_22 rfl ?_
    refine x_getR fl_Ledger_19 rfl dLedger_setClear_23 rfl rfl rfl ?_
    refine x_iload_n dLedger_setClear_26 rfl ?_
    refine x_ialdJ dLedger_setClear_27 rfl rfl rfl (by omega) ?_
    refine x_iconst (v := 1) dLedger_setClear_28 rfl ?_
    refine x_iload_n dLedger_setClear_29 rfl ?_
    refine x_ishl dLedger_setClear_30 ?_
    refine x_iconst (v := -1) dLedger_setClear_31 rfl ?_
    refine x_ixor dLedger_setClear_32 ?_
    refine x_iand dLedger_setClear_33 ?_
    refine x_iastJ dLedger_setClear_34 rfl rfl rfl (by omega) ?_
    -- at 35: .return_
    refine x_return dLedger_setClear_35 rfl ?_
    exact h1
def sp_Ledger_listenOne : SpT := fun as S I L Post => ∃ (s p t : Nat) (P : Nat → List Int32), as = [.ref 35, .int (nI s), .int (nI p)] ∧ S = S1 ∧ s < 11 ∧ p < 8 ∧ SayV (cV I) s ∧ PerV (cV I) p ∧ I 35 5 = nI t ∧ TxtC I P t ∧
  ∀ I' : IM, Fr [33, 34, 36, 37] I I' → I' 36 = up1 (I 36) (s * 8 + p) (hearV (cV I) P s p) → I' 37 = up1 (I 37) s (setB (I 37 s) p (decide (50 ≤ hearV (cV I) P s p))) → Post none S1 I' L
set_option maxHeartbeats 4000000 in
set_option maxRecDepth 100000 in
theorem c_Ledger_listenOne : Con mLedger_listenOne 4 0 0 sp_Ledger_listenOne := by
  refine con_of_X rfl fun G as S I L Post hs => ?_
  obtain ⟨s, p, t, P, rfl, rfl, hs, hp, ⟨hq, ⟨u, hu, eu⟩, ⟨m, hm, em⟩⟩, hper, ht, hT, h1⟩ := hs
  have eu : I 20 s = nI u := eu
  have em : I 21 s = nI m := em
  obtain ⟨w, hw, ew⟩ := where_rng hper hm
  obtain ⟨k, hk, ek⟩ := hper.1
  have ek : I 5 p = nI k := ek
  refine ⟨3, Nat.le_of_ble_eq_true rfl, ?_⟩
  show X mLedger_listenOne G _ S1 I L 0 [.ref 35, .int (nI s), .int (nI p), .null, .null, .null] [] Post
  refine x_aload_n dLedger_listenOne_0 rfl ?_
  refine x_getR fl_Ledger_55 rfl dLedger_listenOne_1 rfl rfl rfl ?_
  refine x_getR fl_Ledger_85 rfl dLedger_listenOne_4 rfl rfl rfl ?_
  refine x_iload_n dLedger_listenOne_7 rfl ?_
  refine x_ialdJ dLedger_listenOne_8 rfl rfl rfl (by omega) ?_
  -- at 9: .istore_n 3
  rw [em]
  refine x_istoren_3 dLedger_listenOne_9 rfl rfl ?_
  refine x_aload_n dLedger_listenOne_10 rfl ?_
  refine x_getR fl_Ledger_59 rfl dLedger_listenOne_11 rfl rfl rfl ?_
  -- at 14: .invokevirtual 88
  refine x_callV_0 c_Texts_giveNothing ok_Texts_giveNothing ml_Ledger_88 dLedger_listenOne_14 rfl rfl rfl rfl rfl ?_
  refine ⟨rfl, rfl, fun I1 hF1 hz => ?_⟩
  refine x_aload_n dLedger_listenOne_17 rfl ?_
  refine x_getR fl_Ledger_59 rfl dLedger_listenOne_18 rfl rfl rfl ?_
  refine x_getR fl_Ledger_93 rfl dLedger_listenOne_21 rfl rfl rfl ?_
  refine x_iconst (v := 0) dLedger_listenOne_24 rfl ?_
  refine x_aload_n dLedger_listenOne_25 rfl ?_
  refine x_getR fl_Ledger_55 rfl dLedger_listenOne_26 rfl rfl rfl ?_
  refine x_getR fl_Ledger_96 rfl dLedger_listenOne_29 rfl rfl rfl ?_
  refine x_iload_n dLedger_listenOne_32 rfl ?_
  -- at 33: .iaload
  refine x_ialdJ dLedger_listenOne_33 rfl rfl rfl (by omega) ?_
  -- at 34: .iastore
  rw [hF1 22 (by decide)]
  refine x_iastJ (j := 0) dLedger_listenOne_34 rfl rfl (by first | rfl | (simp only [← nI_add, ← pk_mul]; rfl)) (by omega) ?_
  -- at 35: .aload_n 0
  have f5 := hF1 5 (by decide)
  have f6 := hF1 6 (by decide)
  have f12 := hF1 12 (by decide)
  have f8 := hF1 8 (by decide)
  have f7 := hF1 7 (by decide)
  have f2 := hF1 2 (by decide)
  have f3 := hF1 3 (by decide)
  have f20 := hF1 20 (by decide)
  have f22 := hF1 22 (by decide)
  have f35 := hF1 35 (by decide)
  have f36 := hF1 36 (by decide)
  have f37 := hF1 37 (by decide)
  refine x_aload_n dLedger_listenOne_35 rfl ?_
  refine x_getR fl_Ledger_59 rfl dLedger_listenOne_36 rfl rfl rfl ?_
  refine x_getR fl_Ledger_93 rfl dLedger_listenOne_39 rfl rfl rfl ?_
  refine x_iconst (v := 1) dLedger_listenOne_42 rfl ?_
  refine x_aload_n dLedger_listenOne_43 rfl ?_
  refine x_getR fl_Ledger_43 rfl dLedger_listenOne_44 rfl rfl rfl ?_
  refine x_aload_n dLedger_listenOne_47 rfl ?_
  refine x_getR fl_Ledger_47 rfl dLedger_listenOne_48 rfl rfl rfl ?_
  refine x_iload_n dLedger_listenOne_51 rfl ?_
  refine x_iload_n dLedger_listenOne_52 rfl ?_
  -- at 53: .invokevirtual 99
  refine x_callV_2 c_Folk_placeOf ok_Folk_placeOf ml_Ledger_99 dLedger_listenOne_53 rfl rfl rfl rfl rfl ?_
  refine ⟨p, k, nI m, rfl, rfl, hp, ?_, hk, ?_⟩
  · simp only [up2_n, up2_s, ne_eq, Nat.reduceEqDiff, not_false_eq_true, f5]
    exact ek
  refine x_eqi (y := nI w) (by rw [← ew]; unfold cStart whereV startV; simp only [up2_n, up2_s, ne_eq, Nat.reduceEqDiff, not_false_eq_true, f5, f6, f12, f8, cV]; rw [ek]) ?_
  refine x_aload_n dLedger_listenOne_56 rfl ?_
  refine x_getR fl_Ledger_55 rfl dLedger_listenOne_57 rfl rfl rfl ?_
  refine x_getR fl_Ledger_103 rfl dLedger_listenOne_60 rfl rfl rfl ?_
  refine x_iload_n dLedger_listenOne_63 rfl ?_
  refine x_ialdJ dLedger_listenOne_64 rfl rfl rfl (by omega) ?_
  -- at 65: .invokevirtual 106
  simp only [up2_n, up2_s, ne_eq, Nat.reduceEqDiff, not_false_eq_true, f20, eu]
  refine x_callV_2 c_Town_between ok_Town_between ml_Ledger_106 dLedger_listenOne_65 rfl rfl rfl rfl rfl ?_
  refine ⟨w, u, rfl, rfl, hw, hu, ?_⟩
  simp only [up2_n, up2_s, ne_eq, Nat.reduceEqDiff, not_false_eq_true, f2]
  refine x_iastJ (j := 1) dLedger_listenOne_68 rfl rfl (by first | rfl | (simp only [← nI_add, ← pk_mul]; rfl)) (by omega) ?_
  -- at 69: .aload_n 0
  refine x_aload_n dLedger_listenOne_69 rfl ?_
  refine x_getR fl_Ledger_59 rfl dLedger_listenOne_70 rfl rfl rfl ?_
  refine x_getR fl_Ledger_93 rfl dLedger_listenOne_73 rfl rfl rfl ?_
  refine x_iconst (v := 2) dLedger_listenOne_76 rfl ?_
  refine x_aload_n dLedger_listenOne_77 rfl ?_
  refine x_getR fl_Ledger_47 rfl dLedger_listenOne_78 rfl rfl rfl ?_
  refine x_getR fl_Ledger_111 rfl dLedger_listenOne_81 rfl rfl rfl ?_
  refine x_iload_n dLedger_listenOne_84 rfl ?_
  refine x_ialdJ dLedger_listenOne_85 rfl rfl rfl (by omega) ?_
  -- at 86: .iastore
  simp only [up2_n, up2_s, ne_eq, Nat.reduceEqDiff, not_false_eq_true, f7]
  refine x_iastJ (j := 2) dLedger_listenOne_86 rfl rfl (by first | rfl | (simp only [← nI_add, ← pk_mul]; rfl)) (by omega) ?_
  -- at 87: .aload_n 0
  refine x_aload_n dLedger_listenOne_87 rfl ?_
  refine x_getR fl_Ledger_59 rfl dLedger_listenOne_88 rfl rfl rfl ?_
  refine x_getR fl_Ledger_93 rfl dLedger_listenOne_91 rfl rfl rfl ?_
  refine x_iconst (v := 5) dLedger_listenOne_94 rfl ?_
  refine x_aload_n dLedger_listenOne_95 rfl ?_
  refine x_getR fl_Ledger_43 rfl dLedger_listenOne_96 rfl rfl rfl ?_
  refine x_getR fl_Ledger_114 rfl dLedger_listenOne_99 rfl rfl rfl ?_
  refine x_iload_n dLedger_listenOne_102 rfl ?_
  refine x_ialdJ dLedger_listenOne_103 rfl rfl rfl (by omega) ?_
  -- at 104: .iastore
  simp only [up2_n, up2_s, ne_eq, Nat.reduceEqDiff, not_false_eq_true, f3]
  refine x_iastJ (j := 5) dLedger_listenOne_104 rfl rfl (by first | rfl | (simp only [← nI_add, ← pk_mul]; rfl)) (by omega) ?_
  -- at 105: .aload_n 0
  refine x_aload_n dLedger_listenOne_105 rfl ?_
  refine x_getR fl_Ledger_59 rfl dLedger_listenOne_106 rfl rfl rfl ?_
  refine x_aload_n dLedger_listenOne_109 rfl ?_
  refine x_getI fl_Ledger_9 rfl dLedger_listenOne_110 rfl rfl ?_
  refine x_iconst (v := 0) dLedger_listenOne_113 rfl ?_
  -- at 114: .invokevirtual 117
  simp only [up2_n, up2_s, ne_eq, Nat.reduceEqDiff, not_false_eq_true, f35]
  rw [ht]
  have hT2 := hT.fr (I' := up2 (up2 (up2 (up2 I1 33 0 (I 22 s)) 33 1 (I 2 (w * 6 + u))) 33 2 (I 7 p)) 33 5 (I 3 m)) (by simp only [up2_n, up2_s, ne_eq, Nat.reduceEqDiff, not_false_eq_true, hF1 32 (by decide)]) (by simp only [up2_n, up2_s, ne_eq, Nat.reduceEqDiff, not_false_eq_true, hF1 31 (by decide)])
  obtain ⟨a, ha, hb, hab, hc, hwf⟩ := hT2.2 0 (by omega)
  have eV : valP (up2 (up2 (up2 (up2 I1 33 0 (I 22 s)) 33 1 (I 2 (w * 6 + u))) 33 2 (I 7 p)) 33 5 (I 3 m) 33) (P 0) = valP (nm6 (cV I 17 s) (farV (cV I) s p) (cV I 4 p) 0 0 (cV I 1 (cl (cV I 16 s)))) (P 0) := by
    refine valP_congr (h := 0) (o := 1) (fun j hj => ?_) hwf
    simp only [up2_n, up2_s, ne_eq, Nat.reduceEqDiff, not_false_eq_true]
    have e16 : cV I 16 s = nI m := em
    have e15 : cV I 15 s = nI u := eu
    have efar : farV (cV I) s p = I 2 (w * 6 + u) := by
      unfold farV
      rw [e16, e15, ew, cl_nI (by omega), cl_nI (by omega)]
      rfl
    rw [e16, cl_nI (by omega), efar]
    rcases (show j = 0 ∨ j = 1 ∨ j = 2 ∨ j = 3 ∨ j = 4 ∨ j = 5 by omega) with rfl | rfl | rfl | rfl | rfl | rfl <;> simp [up1, nm6, cV, hz]
  refine x_callV_2 c_Texts_value ok_Texts_value ml_Ledger_117 dLedger_listenOne_114 rfl rfl rfl rfl rfl ?_
  refine ⟨t, 0, a, P 0, rfl, rfl, hT.1, by omega, ha, hb, hab, hc, hwf, fun I2 hF2 => ?_⟩
  rw [eV]
  refine x_bipush (v := 100) dLedger_listenOne_117 rfl ?_
  -- at 119: .invokestatic 120
  refine x_callSN_2 c_W_bounded ok_W_bounded nw_Ledger_120 dLedger_listenOne_119 rfl rfl ?_
  refine ⟨_, _, rfl, ?_⟩
  refine x_istore_4 dLedger_listenOne_122 rfl rfl ?_
  refine x_aload_n dLedger_listenOne_124 rfl ?_
  refine x_getR fl_Ledger_47 rfl dLedger_listenOne_125 rfl rfl rfl ?_
  refine x_iload_n dLedger_listenOne_128 rfl ?_
  refine x_iload dLedger_listenOne_129 rfl ?_
  refine x_aload_n dLedger_listenOne_131 rfl ?_
  refine x_getR fl_Ledger_55 rfl dLedger_listenOne_132 rfl rfl rfl ?_
  refine x_getR fl_Ledger_96 rfl dLedger_listenOne_135 rfl rfl rfl ?_
  refine x_iload_n dLedger_listenOne_138 rfl ?_
  refine x_ialdJ dLedger_listenOne_139 rfl rfl rfl (by omega) ?_
  -- at 140: .invokevirtual 123
  have g22 : I2 22 s = I 22 s := by rw [hF2 22 (by decide)]; simp only [up2_n, up2_s, ne_eq, Nat.reduceEqDiff, not_false_eq_true, f22]
  rw [g22]
  refine x_callV_3 c_Folk_hearingOf ok_Folk_hearingOf ml_Ledger_123 dLedger_listenOne_140 rfl rfl rfl rfl rfl ?_
  refine ⟨p, _, _, rfl, rfl, hp, ?_⟩
  have g5 : I2 5 p = I 5 p := by rw [hF2 5 (by decide)]; simp only [up2_n, up2_s, ne_eq, Nat.reduceEqDiff, not_false_eq_true, f5]
  have g8 : I2 8 p = I 8 p := by rw [hF2 8 (by decide)]; simp only [up2_n, up2_s, ne_eq, Nat.reduceEqDiff, not_false_eq_true, f8]
  rw [g5, g8]
  refine x_eqi (y := hearV (cV I) P s p) rfl ?_
  generalize hH : hearV (cV I) P s p = hv at h1 ⊢
  refine x_istore_5 dLedger_listenOne_143 rfl rfl ?_
  refine x_aload_n dLedger_listenOne_145 rfl ?_
  refine x_getR fl_Ledger_15 rfl dLedger_listenOne_146 rfl rfl rfl ?_
  refine x_iload_n dLedger_listenOne_149 rfl ?_
  refine x_bipush (v := 8) dLedger_listenOne_150 rfl ?_
  refine x_imul dLedger_listenOne_152 ?_
  refine x_iload_n dLedger_listenOne_153 rfl ?_
  refine x_iadd dLedger_listenOne_154 ?_
  refine x_iload dLedger_listenOne_155 rfl ?_
  refine x_iastJ (j := s * 8 + p) dLedger_listenOne_157 rfl rfl (by first | rfl | (simp only [← nI_add, ← pk_mul]; rfl)) (by omega) ?_
  refine x_aload_n dLedger_listenOne_158 rfl ?_
  refine x_iload_n dLedger_listenOne_159 rfl ?_
  refine x_iload_n dLedger_listenOne_160 rfl ?_
  refine x_iload dLedger_listenOne_161 rfl ?_
  refine x_bipush (v := 50) dLedger_listenOne_163 rfl ?_
  -- at 165: .if_icmp .lt 7
  have fin : ∀ (v : Int32) (b : Bool), ((v = 1 ∧ b = true) ∨ (v = 0 ∧ b = false)) → b = decide (50 ≤ hv) → X mLedger_listenOne G (4, 0, 0) S1 (up2 I2 36 (s * 8 + p) hv) L 173 [.ref 35, .int (nI s), .int (nI p), .int (nI m), .int (bnd (valP (nm6 (cV I 17 s) (farV (cV I) s p) (cV I 4 p) 0 0 (cV I 1 (cl (cV I 16 s)))) (P 0)) 100), .int hv] [.int v, .int (nI p), .int (nI s), .ref 35] Post := by
    intro v b hvb hb
    refine x_callV_3 c_Ledger_setClear ok_Ledger_setClear ml_Ledger_127 dLedger_listenOne_173 rfl rfl rfl rfl rfl ?_
    refine ⟨s, p, v, b, rfl, rfl, hs, hvb, ?_⟩
    refine x_return dLedger_listenOne_176 rfl ?_
    refine h1 _ ?_ ?_ ?_
    · intro i hi
      simp only [List.mem_cons, List.not_mem_nil, or_false, not_or] at hi
      rw [up2_n _ _ _ (by omega), up2_n _ _ _ (by omega), hF2 i (by simp; omega), up2_n _ _ _ (by omega), up2_n _ _ _ (by omega), up2_n _ _ _ (by omega), up2_n _ _ _ (by omega), hF1 i (by simp; omega)]
    · simp only [up2_n, up2_s, ne_eq, Nat.reduceEqDiff, not_false_eq_true]
      rw [hF2 36 (by decide)]
      simp only [up2_n, up2_s, ne_eq, Nat.reduceEqDiff, not_false_eq_true, f36]
    · simp only [up2_n, up2_s, ne_eq, Nat.reduceEqDiff, not_false_eq_true]
      rw [hF2 37 (by decide)]
      simp only [up2_n, up2_s, ne_eq, Nat.reduceEqDiff, not_false_eq_true, f37]
      rw [hb]
  refine x_icmp_lt (tgt := 172) dLedger_listenOne_165 (by decide) (fun c1 => ?_) (fun c1 => ?_)
  · refine x_iconst (v := 0) dLedger_listenOne_172 rfl ?_
    -- at 173: .invokevirtual 127
    exact fin 0 false (Or.inr ⟨rfl, rfl⟩) (by simpa using c1)
  · refine x_iconst (v := 1) dLedger_listenOne_168 rfl ?_
    refine x_goto (tgt := 173) dLedger_listenOne_169 (by decide) ?_
    -- at 173: .invokevirtual 127
    exact fin 1 true (Or.inl ⟨rfl, rfl⟩) (by simpa using c1)
