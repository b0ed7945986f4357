/-! the law's loop, and its start -/
theorem sub7 (n : Nat) (h : n < 7) : nI n - 7 < 0 := (show ∀ n, n < 7 → nI n - 7 < 0 by decide) n h
theorem law_end {G : WG} {I : IM} {L : LM} {Post : PostT} {i : Nat} (hi : gL G < i + 7) (hL : gL G ≤ 448) (h1 : ∀ S I L, Post (some (.int 1)) S I L) : X mLaw_law G (83, 0, 0) S1 I L 1725 (lc i) [] Post := by
  refine x_iconst (v := 1) dLaw_law_1725 rfl ?_
  exact x_ireturn dLaw_law_1726 rfl rfl (h1 _ _ _)
set_option maxHeartbeats 4000000 in
set_option maxRecDepth 100000 in
theorem law_head {G : WG} {I : IM} {L : LM} {Post : PostT} {i : Nat} (hi8 : i ≤ 1000) (hL : gL G ≤ 448) (h1 : ∀ S I L, Post (some (.int 1)) S I L) (h : i + 7 ≤ gL G → X mLaw_law G (83, 0, 0) S1 I L 27 (lc i) [] Post) : X mLaw_law G (83, 0, 0) S1 I L 18 (lc i) [] Post := by
  refine x_iload_n dLaw_law_18 rfl ?_
  refine x_aload_n dLaw_law_19 rfl ?_
  refine x_alenS dLaw_law_20 rfl ?_
  refine x_bipush (v := 7) dLaw_law_21 rfl ?_
  refine x_isub dLaw_law_23 ?_
  by_cases c7 : gL G < 7
  · have e := sub7 (gL G) c7
    refine x_icmp_gt (tgt := 1725) dLaw_law_24 (by decide) (fun _ => ?_) (fun y => absurd (Int32.lt_of_lt_of_le e (nI_pos' (n := i) (by omega))) y)
    exact law_end (by omega) hL h1
  · obtain ⟨q, hq⟩ : ∃ q, gL G = q + 7 := ⟨gL G - 7, by omega⟩
    have e : nI (gL G) - 7 = nI q := by
      rw [hq, ← nI_add]
      exact Int32.add_sub_cancel (nI q) (nI 7)
    rw [e]
    by_cases c : q < i
    · refine x_icmp_gt (tgt := 1725) dLaw_law_24 (by decide) (fun _ => ?_) (fun y => absurd (nI_lt c (by omega)) y)
      exact law_end (by omega) hL h1
    · refine x_icmp_gt (tgt := 1725) dLaw_law_24 (by decide) (fun y => absurd y (nI_nlt (by omega) (by omega))) (fun _ => ?_)
      exact h (by omega)
set_option maxHeartbeats 4000000 in
set_option maxRecDepth 100000 in
theorem law_call {G : WG} {I : IM} {L : LM} {Post : PostT} {i : Nat} (hi : i + 7 ≤ gL G) (hL : gL G ≤ 448) (hR : Rel I) (h : ∀ (I' : IM) (L' : LM), Rel I' → X mLaw_law G (83, 0, 0) S1 I' L' 18 (lc (i + 7)) [] Post) : X mLaw_law G (83, 0, 0) S1 I L 27 (lc i) [] Post := by
  have hT : ∀ (I' : IM) (L' : LM), Rel I' → X mLaw_law G (83, 0, 0) S1 I' L' 1719 (lc i) [] Post := by
    intro I' L' hR'
    refine x_iinc_3 (v := nI i + 7) dLaw_law_1719 rfl rfl rfl ?_
    refine x_goto (tgt := 18) dLaw_law_1722 (by decide) ?_
    rw [show nI i + 7 = nI (i + 7) from nI_add i 7]
    exact h I' L' hR'
  refine x_aload_n dLaw_law_27 rfl ?_
  refine x_iload_n dLaw_law_28 rfl ?_
  refine x_ialdS dLaw_law_29 (vp_in_nI (by omega) (by omega)) ?_
  refine x_bipush (v := 63) dLaw_law_30 rfl ?_
  refine x_iand dLaw_law_32 ?_
  obtain ⟨n, hn, e⟩ := and63 (gx G (nI i).toNatClampNeg)
  rw [e]
  rcases (show n = 0 ∨ n = 1 ∨ n = 2 ∨ n = 3 ∨ n = 4 ∨ n = 5 ∨ n = 6 ∨ n = 7 ∨ n = 8 ∨ n = 9 ∨ n = 10 ∨ n = 11 ∨ n = 12 ∨ n = 13 ∨ n = 14 ∨ n = 15 ∨ n = 16 ∨ n = 17 ∨ n = 18 ∨ n = 19 ∨ n = 20 ∨ n = 21 ∨ n = 22 ∨ n = 23 ∨ n = 24 ∨ n = 25 ∨ n = 26 ∨ n = 27 ∨ n = 28 ∨ n = 29 ∨ n = 30 ∨ n = 31 ∨ n = 32 ∨ n = 33 ∨ n = 34 ∨ n = 35 ∨ n = 36 ∨ n = 37 ∨ n = 38 ∨ n = 39 ∨ n = 40 ∨ n = 41 ∨ n = 42 ∨ n = 43 ∨ n = 44 ∨ n = 45 ∨ n = 46 ∨ 47 ≤ n by omega) with rfl | rfl | rfl | rfl | rfl | rfl | rfl | rfl | rfl | rfl | rfl | rfl | rfl | rfl | rfl | rfl | rfl | rfl | rfl | rfl | rfl | rfl | rfl | rfl | rfl | rfl | rfl | rfl | rfl | rfl | rfl | rfl | rfl | rfl | rfl | rfl | rfl | rfl | rfl | rfl | rfl | rfl | rfl | rfl | rfl | rfl | rfl | hn47
  · refine x_tableIn (tgt := 236) dLaw_law_33 (by decide) (by decide) rfl (by decide) ?_
    exact law_far hi hL hR hT
  · refine x_tableIn (tgt := 279) dLaw_law_33 (by decide) (by decide) rfl (by decide) ?_
    exact law_hush hi hL hR hT
  · refine x_tableIn (tgt := 312) dLaw_law_33 (by decide) (by decide) rfl (by decide) ?_
    exact law_stride hi hL hR hT
  · refine x_tableIn (tgt := 335) dLaw_law_33 (by decide) (by decide) rfl (by decide) ?_
    exact law_count hi hL hR hT
  · refine x_tableIn (tgt := 358) dLaw_law_33 (by decide) (by decide) rfl (by decide) ?_
    exact law_feed hi hL hR hT
  · refine x_tableIn (tgt := 433) dLaw_law_33 (by decide) (by decide) rfl (by decide) ?_
    exact law_text hi hL hR hT
  · refine x_tableIn (tgt := 446) dLaw_law_33 (by decide) (by decide) rfl (by decide) ?_
    exact law_force hi hL hR hT
  · refine x_tableIn (tgt := 469) dLaw_law_33 (by decide) (by decide) rfl (by decide) ?_
    exact law_person hi hL hR hT
  · refine x_tableIn (tgt := 522) dLaw_law_33 (by decide) (by decide) rfl (by decide) ?_
    exact law_move hi hL hR hT
  · refine x_tableIn (tgt := 555) dLaw_law_33 (by decide) (by decide) rfl (by decide) ?_
    exact law_told hi hL hR hT
  · refine x_tableIn (tgt := 588) dLaw_law_33 (by decide) (by decide) rfl (by decide) ?_
    exact law_promise hi hL hR hT
  · refine x_tableIn (tgt := 641) dLaw_law_33 (by decide) (by decide) rfl (by decide) ?_
    exact law_promised hi hL hR hT
  · refine x_tableIn (tgt := 674) dLaw_law_33 (by decide) (by decide) rfl (by decide) ?_
    exact law_say hi hL hR hT
  · refine x_tableIn (tgt := 707) dLaw_law_33 (by decide) (by decide) rfl (by decide) ?_
    exact law_unsay hi hL hR hT
  · refine x_tableIn (tgt := 720) dLaw_law_33 (by decide) (by decide) rfl (by decide) ?_
    exact law_said hi hL hR hT
  · refine x_tableIn (tgt := 753) dLaw_law_33 (by decide) (by decide) rfl (by decide) ?_
    exact law_hears hi hL hR hT
  · refine x_tableIn (tgt := 786) dLaw_law_33 (by decide) (by decide) rfl (by decide) ?_
    exact law_heard hi hL hR hT
  · refine x_tableIn (tgt := 809) dLaw_law_33 (by decide) (by decide) rfl (by decide) ?_
    exact law_nobody hi hL hR hT
  · refine x_tableIn (tgt := 822) dLaw_law_33 (by decide) (by decide) rfl (by decide) ?_
    exact law_owe hi hL hR hT
  · refine x_tableIn (tgt := 855) dLaw_law_33 (by decide) (by decide) rfl (by decide) ?_
    exact law_load hi hL hR hT
  · refine x_tableIn (tgt := 888) dLaw_law_33 (by decide) (by decide) rfl (by decide) ?_
    exact law_done hi hL hR hT
  · refine x_tableIn (tgt := 911) dLaw_law_33 (by decide) (by decide) rfl (by decide) ?_
    exact law_sum hi hL hR hT
  · refine x_tableIn (tgt := 934) dLaw_law_33 (by decide) (by decide) rfl (by decide) ?_
    exact law_judge hi hL hR hT
  · refine x_tableIn (tgt := 947) dLaw_law_33 (by decide) (by decide) rfl (by decide) ?_
    exact law_walk hi hL hR hT
  · refine x_tableIn (tgt := 960) dLaw_law_33 (by decide) (by decide) rfl (by decide) ?_
    exact law_best hi hL hR hT
  · refine x_tableIn (tgt := 993) dLaw_law_33 (by decide) (by decide) rfl (by decide) ?_
    exact law_foe hi hL hR hT
  · refine x_tableIn (tgt := 1036) dLaw_law_33 (by decide) (by decide) rfl (by decide) ?_
    exact law_loud hi hL hR hT
  · refine x_tableIn (tgt := 1079) dLaw_law_33 (by decide) (by decide) rfl (by decide) ?_
    exact law_spare hi hL hR hT
  · refine x_tableIn (tgt := 1092) dLaw_law_33 (by decide) (by decide) rfl (by decide) ?_
    exact law_even hi hL hR hT
  · refine x_tableIn (tgt := 1125) dLaw_law_33 (by decide) (by decide) rfl (by decide) ?_
    exact law_hardest hi hL hR hT
  · refine x_tableIn (tgt := 1148) dLaw_law_33 (by decide) (by decide) rfl (by decide) ?_
    exact law_flee hi hL hR hT
  · refine x_tableIn (tgt := 1181) dLaw_law_33 (by decide) (by decide) rfl (by decide) ?_
    exact law_send hi hL hR hT
  · refine x_tableIn (tgt := 1214) dLaw_law_33 (by decide) (by decide) rfl (by decide) ?_
    exact law_rest hi hL hR hT
  · refine x_tableIn (tgt := 1237) dLaw_law_33 (by decide) (by decide) rfl (by decide) ?_
    exact law_chance hi hL hR hT
  · refine x_tableIn (tgt := 1270) dLaw_law_33 (by decide) (by decide) rfl (by decide) ?_
    exact law_lost hi hL hR hT
  · refine x_tableIn (tgt := 1293) dLaw_law_33 (by decide) (by decide) rfl (by decide) ?_
    exact law_laws hi hL hR hT
  · refine x_tableIn (tgt := 1316) dLaw_law_33 (by decide) (by decide) rfl (by decide) ?_
    exact law_witness hi hL hR hT
  · refine x_tableIn (tgt := 1339) dLaw_law_33 (by decide) (by decide) rfl (by decide) ?_
    exact law_alibi hi hL hR hT
  · refine x_tableIn (tgt := 1372) dLaw_law_33 (by decide) (by decide) rfl (by decide) ?_
    exact law_drawn hi hL hR hT
  · refine x_tableIn (tgt := 1405) dLaw_law_33 (by decide) (by decide) rfl (by decide) ?_
    exact law_odds hi hL hR hT
  · refine x_tableIn (tgt := 1458) dLaw_law_33 (by decide) (by decide) rfl (by decide) ?_
    exact law_image hi hL hR hT
  · refine x_tableIn (tgt := 1471) dLaw_law_33 (by decide) (by decide) rfl (by decide) ?_
    exact law_back hi hL hR hT
  · refine x_tableIn (tgt := 1484) dLaw_law_33 (by decide) (by decide) rfl (by decide) ?_
    exact law_sheet hi hL hR hT
  · refine x_tableIn (tgt := 1527) dLaw_law_33 (by decide) (by decide) rfl (by decide) ?_
    exact law_cell hi hL hR hT
  · refine x_tableIn (tgt := 1570) dLaw_law_33 (by decide) (by decide) rfl (by decide) ?_
    exact law_copy hi hL hR hT
  · refine x_tableIn (tgt := 1633) dLaw_law_33 (by decide) (by decide) rfl (by decide) ?_
    exact law_promisesBy hi hL hR hT
  · refine x_tableIn (tgt := 1686) dLaw_law_33 (by decide) (by decide) rfl (by decide) ?_
    exact law_taken hi hL hR hT
  · refine x_tableOut (tgt := 1719) dLaw_law_33 (Or.inr (by rw [nI_toInt (by omega)]; omega)) (by decide) ?_
    exact hT I L hR
theorem law_go {G : WG} {Post : PostT} (hL : gL G ≤ 448) (h1 : ∀ S I L, Post (some (.int 1)) S I L) : ∀ (n i : Nat) (I : IM) (L : LM), gL G ≤ i + 7 * n → i ≤ gL G + 7 → Rel I → X mLaw_law G (83, 0, 0) S1 I L 18 (lc i) [] Post := by
  intro n
  induction n with
  | zero =>
    intro i I L hn hi hR
    exact law_head (by omega) (by omega) h1 (fun hi2 => absurd hi2 (by omega))
  | succ n ih =>
    intro i I L hn hi hR
    exact law_head (by omega) (by omega) h1 (fun hi2 => law_call hi2 (by omega) hR (fun I' L' hR' => ih (i + 7) I' L' (by omega) (by omega) hR'))
theorem law_loop {G : WG} {I : IM} {L : LM} {Post : PostT} (hL : gL G ≤ 448) (hR : Rel I) (h0 : cE I = E0) (h1 : ∀ S I L, Post (some (.int 1)) S I L) : X mLaw_law G (83, 0, 0) S1 I L 18 (lc 0) [] Post :=
  law_go hL h1 64 0 I L (by omega) (by omega) hR
set_option maxHeartbeats 4000000 in
set_option maxRecDepth 100000 in
theorem law_start {G : WG} {I : IM} {L : LM} {Post : PostT} (hL : gL G ≤ 448) (h1 : ∀ S I L, Post (some (.int 1)) S I L) : X mLaw_law G (83, 100, 5325) (SP 0 []) I L 0 [.ref (1000000 + 200), .null, .null, .null] [] Post := by
  refine x_newOb (ci := 9) (nq := 9) (n := 0) dLaw_law_0 (q := _) rfl cl_Law_7 in_W it_W rfl rfl rfl ?_
  refine x_dup dLaw_law_3 rfl ?_
  refine x_callI_0 c_W_init ok_W_init rfl ml_Law_9 dLaw_law_4 rfl rfl rfl rfl rfl ?_
  refine ⟨rfl, rfl, upr_s _ _ _, fun I1 L1 e1 => ?_⟩
  refine x_astoren_1 dLaw_law_7 rfl rfl ?_
  rw [← SP_59]
  refine x_newOb (ci := 10) (nq := 62) (n := 59) dLaw_law_8 (q := _) rfl cl_Law_10 in_R it_R rfl rfl rfl ?_
  refine x_dup dLaw_law_11 rfl ?_
  refine x_callI_0 c_R_init ok_R_init rfl ml_Law_12 dLaw_law_12 rfl rfl rfl rfl rfl ?_
  refine ⟨rfl, rfl, upr_s _ _ _, fun I2 L2 k2 own e2 => ?_⟩
  refine x_astoren_2 dLaw_law_15 rfl rfl ?_
  refine x_iconst (v := 0) dLaw_law_16 rfl ?_
  refine x_istoren_3 dLaw_law_17 rfl rfl ?_
  have e3 : cE I2 = E0 := by
    rw [cE_lo (I := I1) (fun k hk => ?_)]
    · exact e1
    · rw [k2 k hk, upr_n _ _ (by omega)]
  exact law_loop hL ⟨by rw [e3, e2], by rw [e2]; exact Inv_E0, own⟩ e3 h1
