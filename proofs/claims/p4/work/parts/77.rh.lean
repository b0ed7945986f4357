/-! the reference's calls: feed -/
def sp_R_feed : SpT := fun as S I L Post => ∃ n a b c d e : Int32, rSp [.int n, .int a, .int b, .int c, .int d, .int e] (fun E => .int (feedS E n a b c d e)) (fun E => feedU E n a b c d e) as S I L Post
set_option maxHeartbeats 4000000 in
set_option maxRecDepth 100000 in
theorem c_R_feed : Con mR_feed 4 0 0 sp_R_feed := by
  refine con_of_X rfl fun G as S I0 L Post hs => ?_
  obtain ⟨n, a, b, c, d, e, rfl, rfl, ⟨hok, own⟩, h1⟩ := hs
  dsimp only at h1
  refine ⟨1, Nat.le_of_ble_eq_true rfl, ?_⟩
  show X mR_feed G _ S1 I0 L 0 [.ref 59, .int n, .int a, .int b, .int c, .int d, .int e, .null] [] Post
  have hz : I0 59 23 = nI (zN (rE I0)) := hok.2.2.2.2.2.1.1
  have hz2 : zN (rE I0) ≤ 160 := hok.2.2.2.2.2.1.2.1
  have bad : ¬ feC n a b c d e → X mR_feed G (4, 0, 0) S1 I0 L 47 [.ref 59, .int n, .int a, .int b, .int c, .int d, .int e, .null] [] Post := by
    intro hc
    rw [feedS, feedU, if_pos hc, if_pos hc] at h1
    refine x_bipush (v := -2) dR_feed_47 rfl ?_
    -- at 49: .ireturn
    refine x_ireturn dR_feed_49 rfl rfl ?_
    exact h1 I0 L (fun _ _ => rfl) own rfl
  refine x_iload_n dR_feed_0 rfl ?_
  refine x_iconst (v := 1) dR_feed_1 rfl ?_
  refine x_iconst (v := 5) dR_feed_2 rfl ?_
  -- at 3: .invokestatic 151
  refine x_callS_3 c_R_in ok_R_in ml_R_151 dR_feed_3 rfl rfl ?_
  refine ⟨_, _, _, rfl, fun g0 => ?_, fun g0 => ?_⟩
  · refine x_if_eq (tgt := 47) dR_feed_6 (by decide) (fun h => absurd h (by decide)) (fun _ => ?_)
    refine x_iload_n dR_feed_9 rfl ?_
    -- at 10: .invokestatic 167
    refine x_callS_1 c_R_isByte ok_R_isByte ml_R_167 dR_feed_10 rfl rfl ?_
    refine ⟨_, rfl, fun g1 => ?_, fun g1 => ?_⟩
    · refine x_if_eq (tgt := 47) dR_feed_13 (by decide) (fun h => absurd h (by decide)) (fun _ => ?_)
      refine x_iload_n dR_feed_16 rfl ?_
      -- at 17: .invokestatic 167
      refine x_callS_1 c_R_isByte ok_R_isByte ml_R_167 dR_feed_17 rfl rfl ?_
      refine ⟨_, rfl, fun g2 => ?_, fun g2 => ?_⟩
      · refine x_if_eq (tgt := 47) dR_feed_20 (by decide) (fun h => absurd h (by decide)) (fun _ => ?_)
        refine x_iload dR_feed_23 rfl ?_
        -- at 25: .invokestatic 167
        refine x_callS_1 c_R_isByte ok_R_isByte ml_R_167 dR_feed_25 rfl rfl ?_
        refine ⟨_, rfl, fun g3 => ?_, fun g3 => ?_⟩
        · refine x_if_eq (tgt := 47) dR_feed_28 (by decide) (fun h => absurd h (by decide)) (fun _ => ?_)
          refine x_iload dR_feed_31 rfl ?_
          -- at 33: .invokestatic 167
          refine x_callS_1 c_R_isByte ok_R_isByte ml_R_167 dR_feed_33 rfl rfl ?_
          refine ⟨_, rfl, fun g4 => ?_, fun g4 => ?_⟩
          · refine x_if_eq (tgt := 47) dR_feed_36 (by decide) (fun h => absurd h (by decide)) (fun _ => ?_)
            refine x_iload dR_feed_39 rfl ?_
            -- at 41: .invokestatic 167
            refine x_callS_1 c_R_isByte ok_R_isByte ml_R_167 dR_feed_41 rfl rfl ?_
            refine ⟨_, rfl, fun g5 => ?_, fun g5 => ?_⟩
            · refine x_if_ne (tgt := 50) dR_feed_44 (by decide) (fun _ => ?_) (fun h => absurd h (by decide))
              have hc : feC n a b c d e := ⟨g0, g1, g2, g3, g4, g5⟩
              rw [feedS, feedU, if_neg (not_not_intro hc), if_neg (not_not_intro hc)] at h1
              obtain ⟨k, hk1, hk5, rfl⟩ := n15 g0
              rw [show rE I0 29 6 = nI (zN (rE I0)) from hz, nI_add, cl_nI (by omega)] at h1
              refine x_aload_n dR_feed_50 rfl ?_
              refine x_getI fl_R_137 rfl dR_feed_51 rfl rfl ?_
              refine x_iload_n dR_feed_54 rfl ?_
              refine x_iadd dR_feed_55 ?_
              -- at 56: .sipush 160
              rw [hz]
              refine x_eqi (y := nI (zN (rE I0) + k)) (nI_add _ _) ?_
              refine x_sipush (v := 160) dR_feed_56 rfl ?_
              -- at 59: .if_icmp .le 6
              by_cases h160 : zN (rE I0) + k ≤ 160
              · have hl : ¬ (160 : Int32) < nI (zN (rE I0) + k) := Int32.not_lt.mpr (nI_le (b := 160) h160 (by omega))
                rw [if_neg hl, if_neg hl] at h1
                refine x_icmp_le (tgt := 65) dR_feed_59 (by decide) (fun _ => ?_) (fun h => absurd (nI_le (b := 160) h160 (by omega)) h)
                refine x_iconst (v := 0) dR_feed_65 rfl ?_
                refine x_istore_7 dR_feed_66 rfl rfl ?_
                -- at 68: .iload 7
                have loop : ∀ (m i : Nat) (I : IM), i + m = k → Fr [59, 78] I0 I → (∀ q, q ≠ 23 → I 59 q = I0 59 q) → I 59 23 = nI (zN (rE I0) + i) → (∀ j, I 78 j = if zN (rE I0) ≤ j ∧ j < zN (rE I0) + i then fePk a b c d e (j - zN (rE I0)) else I0 78 j) →
                    X mR_feed G (4, 0, 0) S1 I L 68 [.ref 59, .int (nI k), .int a, .int b, .int c, .int d, .int e, .int (nI i)] [] Post := by
                  intro m
                  induction m with
                  | zero =>
                    intro i I hi hF hs hsz ht
                    obtain rfl : i = k := by omega
                    refine x_iload dR_feed_68 rfl ?_
                    refine x_iload_n dR_feed_70 rfl ?_
                    -- at 71: .if_icmp .ge 71
                    refine x_icmp_ge (tgt := 142) dR_feed_71 (by decide) (fun _ => ?_) (fun h => absurd (Int32.le_refl _) h)
                    refine x_aload_n dR_feed_142 rfl ?_
                    refine x_getI fl_R_137 rfl dR_feed_143 rfl rfl ?_
                    -- at 146: .ireturn
                    rw [hsz]
                    refine x_ireturn dR_feed_146 rfl rfl ?_
                    refine h1 I L (fun j hj => hF j (by simp; omega)) ?_ ?_
                    · obtain ⟨o1, o2, o3⟩ := own
                      exact ⟨(hs 55 (by decide)).trans o1, (hs 60 (by decide)).trans o2, fun j hj => (congrFun (hF 92 (by decide)) j).trans (o3 j hj)⟩
                    have e1 : rE I = rE (up2 (upr I0 78 (I 78)) 59 23 (nI (zN (rE I0) + i))) := by
                      congr 1
                      funext q
                      by_cases y : q = 59
                      · subst y
                        rw [up2_s, upr_n _ _ (by decide)]
                        funext j
                        by_cases y2 : j = 23
                        · subst y2; rw [up1_s, hsz]
                        · rw [up1_n _ _ y2, hs j y2]
                      · rw [up2_n _ _ _ y]
                        by_cases y2 : q = 78
                        · subst y2; rw [upr_s]
                        · rw [upr_n _ _ y2]
                          exact hF q (by simp [y, y2])
                    rw [e1, rE_n6, rE_18, upr_s, cl_nI (by omega)]
                    unfold feA
                    funext q
                    by_cases y : q = 18
                    · subst y
                      rw [upr_s, upr_s]
                      funext j
                      unfold mk
                      rw [ht]
                      by_cases y2 : j < zN (rE I0) + i
                      · rw [if_pos y2]
                        by_cases y3 : zN (rE I0) ≤ j
                        · rw [if_pos ⟨y3, y2⟩, if_pos ⟨y3, y2⟩]
                        · rw [if_neg (fun z => y3 z.1), if_neg (fun z => y3 z.1)]
                          exact (mk_lt (show j < cl (I0 59 23) by rw [hz, cl_nI (by omega)]; omega)).symm
                      · rw [if_neg y2, if_neg (fun z => y2 z.2)]
                        show 0 = mk (cl (I0 59 23)) (I0 78) j
                        rw [hz, cl_nI (by omega)]
                        unfold mk
                        rw [if_neg (by omega)]
                    · rw [upr_n _ _ y, upr_n _ _ y]
                      by_cases y2 : q = 29
                      · subst y2
                        rw [up2_s, up2_s, upr_n _ _ (by decide)]
                      · rw [up2_n _ _ _ y2, up2_n _ _ _ y2, upr_n _ _ y]
                  | succ m ih =>
                    intro i I hi hF hs hsz ht
                    have put : ∀ x : Int32, x = fePk a b c d e i → X mR_feed G (4, 0, 0) S1 I L 125 [.ref 59, .int (nI k), .int a, .int b, .int c, .int d, .int e, .int (nI i)] [.int x, .int (nI (zN (rE I0) + i)), .ref 78] Post := by
                      intro x hx
                      refine x_iastJ dR_feed_125 rfl rfl rfl (by omega) ?_
                      refine x_aload_n dR_feed_126 rfl ?_
                      refine x_dup dR_feed_127 rfl ?_
                      refine x_getI fl_R_137 rfl dR_feed_128 rfl rfl ?_
                      -- at 131: .iconst 1
                      rw [show up2 I 78 (zN (rE I0) + i) x 59 23 = nI (zN (rE I0) + i) by rw [up2_n _ _ _ (by decide)]; exact hsz]
                      refine x_iconst (v := 1) dR_feed_131 rfl ?_
                      refine x_iadd dR_feed_132 ?_
                      refine x_putI fl_R_137 rfl dR_feed_133 (by decide) rfl rfl rfl rfl ?_
                      refine x_iincp_7 dR_feed_136 rfl rfl ?_
                      refine x_goto (tgt := 68) dR_feed_139 (by decide) ?_
                      -- at 68: .iload 7
                      rw [nI_1, nI_1]
                      refine ih (i + 1) _ (by omega) ((hF.up (by decide) _ _).up (by decide) _ _) (fun q hq => ?_) ?_ (fun j => ?_)
                      · rw [up2_s, up1_n _ _ hq, up2_n _ _ _ (by decide)]
                        exact hs q hq
                      · rw [up2_s, up1_s]
                        rfl
                      · rw [up2_n _ _ _ (by decide), up2_s]
                        by_cases y : j = zN (rE I0) + i
                        · subst y
                          rw [up1_s, if_pos ⟨by omega, by omega⟩, hx]
                          congr 1
                          omega
                        · rw [up1_n _ _ y, ht]
                          by_cases y2 : zN (rE I0) ≤ j ∧ j < zN (rE I0) + i
                          · rw [if_pos y2, if_pos ⟨y2.1, by omega⟩]
                          · rw [if_neg y2, if_neg (fun z => y2 ⟨z.1, by omega⟩)]
                    refine x_iload dR_feed_68 rfl ?_
                    refine x_iload_n dR_feed_70 rfl ?_
                    -- at 71: .if_icmp .ge 71
                    refine x_icmp_ge (tgt := 142) dR_feed_71 (by decide) (fun h => absurd h (nI_ge (by omega) (by omega))) (fun _ => ?_)
                    refine x_aload_n dR_feed_74 rfl ?_
                    refine x_getR fl_R_68 rfl dR_feed_75 rfl rfl rfl ?_
                    refine x_aload_n dR_feed_78 rfl ?_
                    refine x_getI fl_R_137 rfl dR_feed_79 rfl rfl ?_
                    refine x_iload dR_feed_82 rfl ?_
                    -- at 84: .ifCond .ne 7
                    rw [hsz]
                    rcases (show i = 0 ∨ i = 1 ∨ i = 2 ∨ i = 3 ∨ i = 4 by omega) with rfl | rfl | rfl | rfl | rfl
                    · refine x_if_ne (tgt := 91) dR_feed_84 (by decide) (fun h => absurd rfl h) (fun _ => ?_)
                      refine x_iload_n dR_feed_87 rfl ?_
                      refine x_goto (tgt := 125) dR_feed_88 (by decide) ?_
                      -- at 125: .iastore
                      exact put a rfl
                    · refine x_if_ne (tgt := 91) dR_feed_84 (by decide) (fun _ => ?_) (fun h => absurd h (by decide))
                      refine x_iload dR_feed_91 rfl ?_
                      refine x_iconst (v := 1) dR_feed_93 rfl ?_
                      -- at 94: .if_icmp .ne 7
                      refine x_icmp_ne (tgt := 101) dR_feed_94 (by decide) (fun h => absurd rfl h) (fun _ => ?_)
                      refine x_iload_n dR_feed_97 rfl ?_
                      refine x_goto (tgt := 125) dR_feed_98 (by decide) ?_
                      -- at 125: .iastore
                      exact put b rfl
                    · refine x_if_ne (tgt := 91) dR_feed_84 (by decide) (fun _ => ?_) (fun h => absurd h (by decide))
                      refine x_iload dR_feed_91 rfl ?_
                      refine x_iconst (v := 1) dR_feed_93 rfl ?_
                      -- at 94: .if_icmp .ne 7
                      refine x_icmp_ne (tgt := 101) dR_feed_94 (by decide) (fun _ => ?_) (fun h => absurd h (by decide))
                      refine x_iload dR_feed_101 rfl ?_
                      refine x_iconst (v := 2) dR_feed_103 rfl ?_
                      -- at 104: .if_icmp .ne 8
                      refine x_icmp_ne (tgt := 112) dR_feed_104 (by decide) (fun h => absurd rfl h) (fun _ => ?_)
                      refine x_iload dR_feed_107 rfl ?_
                      refine x_goto (tgt := 125) dR_feed_109 (by decide) ?_
                      -- at 125: .iastore
                      exact put c rfl
                    · refine x_if_ne (tgt := 91) dR_feed_84 (by decide) (fun _ => ?_) (fun h => absurd h (by decide))
                      refine x_iload dR_feed_91 rfl ?_
                      refine x_iconst (v := 1) dR_feed_93 rfl ?_
                      -- at 94: .if_icmp .ne 7
                      refine x_icmp_ne (tgt := 101) dR_feed_94 (by decide) (fun _ => ?_) (fun h => absurd h (by decide))
                      refine x_iload dR_feed_101 rfl ?_
                      refine x_iconst (v := 2) dR_feed_103 rfl ?_
                      -- at 104: .if_icmp .ne 8
                      refine x_icmp_ne (tgt := 112) dR_feed_104 (by decide) (fun _ => ?_) (fun h => absurd h (by decide))
                      refine x_iload dR_feed_112 rfl ?_
                      refine x_iconst (v := 3) dR_feed_114 rfl ?_
                      -- at 115: .if_icmp .ne 8
                      refine x_icmp_ne (tgt := 123) dR_feed_115 (by decide) (fun h => absurd rfl h) (fun _ => ?_)
                      refine x_iload dR_feed_118 rfl ?_
                      refine x_goto (tgt := 125) dR_feed_120 (by decide) ?_
                      -- at 125: .iastore
                      exact put d rfl
                    · refine x_if_ne (tgt := 91) dR_feed_84 (by decide) (fun _ => ?_) (fun h => absurd h (by decide))
                      refine x_iload dR_feed_91 rfl ?_
                      refine x_iconst (v := 1) dR_feed_93 rfl ?_
                      -- at 94: .if_icmp .ne 7
                      refine x_icmp_ne (tgt := 101) dR_feed_94 (by decide) (fun _ => ?_) (fun h => absurd h (by decide))
                      refine x_iload dR_feed_101 rfl ?_
                      refine x_iconst (v := 2) dR_feed_103 rfl ?_
                      -- at 104: .if_icmp .ne 8
                      refine x_icmp_ne (tgt := 112) dR_feed_104 (by decide) (fun _ => ?_) (fun h => absurd h (by decide))
                      refine x_iload dR_feed_112 rfl ?_
                      refine x_iconst (v := 3) dR_feed_114 rfl ?_
                      -- at 115: .if_icmp .ne 8
                      refine x_icmp_ne (tgt := 123) dR_feed_115 (by decide) (fun _ => ?_) (fun h => absurd h (by decide))
                      refine x_iload dR_feed_123 rfl ?_
                      -- at 125: .iastore
                      exact put e rfl
                exact loop k 0 I0 (by omega) Fr.rfl (fun _ _ => rfl) hz (fun j => by rw [if_neg (fun z => by omega)])
              · have hl : (160 : Int32) < nI (zN (rE I0) + k) := (nI_ltI (a := 160) (by omega) (by omega)).mpr (by omega)
                rw [if_pos hl, if_pos hl] at h1
                refine x_icmp_le (tgt := 65) dR_feed_59 (by decide) (fun h => absurd h (Int32.not_le.mpr hl)) (fun _ => ?_)
                refine x_bipush (v := -4) dR_feed_62 rfl ?_
                -- at 64: .ireturn
                refine x_ireturn dR_feed_64 rfl rfl ?_
                exact h1 I0 L (fun _ _ => rfl) own rfl
            · refine x_if_ne (tgt := 50) dR_feed_44 (by decide) (fun h => absurd (by decide) h) (fun _ => ?_)
              exact bad (fun z => g5 z.2.2.2.2.2)
          · refine x_if_eq (tgt := 47) dR_feed_36 (by decide) (fun _ => ?_) (fun h => absurd (by decide) h)
            exact bad (fun z => g4 z.2.2.2.2.1)
        · refine x_if_eq (tgt := 47) dR_feed_28 (by decide) (fun _ => ?_) (fun h => absurd (by decide) h)
          exact bad (fun z => g3 z.2.2.2.1)
      · refine x_if_eq (tgt := 47) dR_feed_20 (by decide) (fun _ => ?_) (fun h => absurd (by decide) h)
        exact bad (fun z => g2 z.2.2.1)
    · refine x_if_eq (tgt := 47) dR_feed_13 (by decide) (fun _ => ?_) (fun h => absurd (by decide) h)
      exact bad (fun z => g1 z.2.1)
  · refine x_if_eq (tgt := 47) dR_feed_6 (by decide) (fun _ => ?_) (fun h => absurd (by decide) h)
    exact bad (fun z => g0 z.1)
