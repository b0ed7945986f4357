section
-- 77.rh
/-! the reference's calls: feed -/
def sp_R_feed : SpT := fun as S I L Post => ∃ n a b c d e : Int32, rSp [.int n, .int a, .int b, .int c, .int d, .int e] (fun E => .int (feedS E n a b c d e)) (fun E => feedU E n a b c d e) as S I L Post
set_option maxHeartbeats 4000000 in
set_option maxRecDepth 100000 in
theorem c_R_feed : Con mR_feed 4 0 0 sp_R_feed := by
  refine con_of_X rfl fun G as S I0 L Post hs => ?_
  obtain ⟨n, a, b, c, d, e, rfl, rfl, ⟨hok, own⟩, h1⟩ := hs
  dsimp only at h1
  refine ⟨1, Nat.le_of_ble_eq_true rfl, ?_⟩
  show X mR_feed G _ S1 I0 L 0 [.ref 59, .int n, .int a, .int b, .int c, .int d, .int e, .null] [] Post
  have hz : I0 59 23 = nI (zN (rE I0)) := hok.2.2.2.2.2.1.1
  have hz2 : zN (rE I0) ≤ 160 := hok.2.2.2.2.2.1.2.1
  have bad : ¬ feC n a b c d e → X mR_feed G (4, 0, 0) S1 I0 L 47 [.ref 59, .int n, .int a, .int b, .int c, .int d, .int e, .null] [] Post := by
    intro hc
    rw [feedS, feedU, if_pos hc, if_pos hc] at h1
    refine x_bipush (v := -2) dR_feed_47 rfl ?_
    -- at 49: .ireturn
    refine x_ireturn dR_feed_49 rfl rfl ?_
    exact h1 I0 L (fun _ _ => rfl) own rfl
  refine x_iload_n dR_feed_0 rfl ?_
  refine x_iconst (v := 1) dR_feed_1 rfl ?_
  refine x_iconst (v := 5) dR_feed_2 rfl ?_
  -- at 3: .invokestatic 151
  refine x_callS_3 c_R_in ok_R_in ml_R_151 dR_feed_3 rfl rfl ?_
  refine ⟨_, _, _, rfl, fun g0 => ?_, fun g0 => ?_⟩
  · refine x_if_eq (tgt := 47) dR_feed_6 (by decide) (fun h => absurd h (by decide)) (fun _ => ?_)
    refine x_iload_n dR_feed_9 rfl ?_
    -- at 10: .invokestatic 167
    refine x_callS_1 c_R_isByte ok_R_isByte ml_R_167 dR_feed_10 rfl rfl ?_
    refine ⟨_, rfl, fun g1 => ?_, fun g1 => ?_⟩
    · refine x_if_eq (tgt := 47) dR_feed_13 (by decide) (fun h => absurd h (by decide)) (fun _ => ?_)
      refine x_iload_n dR_feed_16 rfl ?_
      -- at 17: .invokestatic 167
      refine x_callS_1 c_R_isByte ok_R_isByte ml_R_167 dR_feed_17 rfl rfl ?_
      refine ⟨_, rfl, fun g2 => ?_, fun g2 => ?_⟩
      · refine x_if_eq (tgt := 47) dR_feed_20 (by decide) (fun h => absurd h (by decide)) (fun _ => ?_)
        refine x_iload dR_feed_23 rfl ?_
        -- at 25: .invokestatic 167
        refine x_callS_1 c_R_isByte ok_R_isByte ml_R_167 dR_feed_25 rfl rfl ?_
        refine ⟨_, rfl, fun g3 => ?_, fun g3 => ?_⟩
        · refine x_if_eq (tgt := 47) dR_feed_28 (by decide) (fun h => absurd h (by decide)) (fun _ => ?_)
          refine x_iload dR_feed_31 rfl ?_
          -- at 33: .invokestatic 167
          refine x_callS_1 c_R_isByte ok_R_isByte ml_R_167 dR_feed_33 rfl rfl ?_
          refine ⟨_, rfl, fun g4 => ?_, fun g4 => ?_⟩
          · refine x_if_eq (tgt := 47) dR_feed_36 (by decide) (fun h => absurd h (by decide)) (fun _ => ?_)
            refine x_iload dR_feed_39 rfl ?_
            -- at 41: .invokestatic 167
            refine x_callS_1 c_R_isByte ok_R_isByte ml_R_167 dR_feed_41 rfl rfl ?_
            refine ⟨_, rfl, fun g5 => ?_, fun g5 => ?_⟩
            · refine x_if_ne (tgt := 50) dR_feed_44 (by decide) (fun _ => ?_) (fun h => absurd h (by decide))
              have hc : feC n a b c d e := ⟨g0, g1, g2, g3, g4, g5⟩
              rw [feedS, feedU, if_neg (not_not_intro hc), if_neg (not_not_intro hc)] at h1
              obtain ⟨k, hk1, hk5, rfl⟩ := n15 g0
              rw [show rE I0 29 6 = nI (zN (rE I0)) from hz, nI_add, cl_nI (by omega)] at h1
              refine x_aload_n dR_feed_50 rfl ?_
              refine x_getI fl_R_137 rfl dR_feed_51 rfl rfl ?_
              refine x_iload_n dR_feed_54 rfl ?_
              refine x_iadd dR_feed_55 ?_
              -- at 56: .sipush 160
              rw [hz]
              refine x_eqi (y := nI (zN (rE I0) + k)) (nI_add _ _) ?_
              refine x_sipush (v := 160) dR_feed_56 rfl ?_
              -- at 59: .if_icmp .le 6
              by_cases h160 : zN (rE I0) + k ≤ 160
              · have hl : ¬ (160 : Int32) < nI (zN (rE I0) + k) := Int32.not_lt.mpr (nI_le (b := 160) h160 (by omega))
                rw [if_neg hl, if_neg hl] at h1
                refine x_icmp_le (tgt := 65) dR_feed_59 (by decide) (fun _ => ?_) (fun h => absurd (nI_le (b := 160) h160 (by omega)) h)
                refine x_iconst (v := 0) dR_feed_65 rfl ?_
                refine x_istore_7 dR_feed_66 rfl rfl ?_
                -- at 68: .iload 7
                have loop : ∀ (m i : Nat) (I : IM), i + m = k → Fr [59, 78] I0 I → (∀ q, q ≠ 23 → I 59 q = I0 59 q) → I 59 23 = nI (zN (rE I0) + i) → (∀ j, I 78 j = if zN (rE I0) ≤ j ∧ j < zN (rE I0) + i then fePk a b c d e (j - zN (rE I0)) else I0 78 j) →
                    X mR_feed G (4, 0, 0) S1 I L 68 [.ref 59, .int (nI k), .int a, .int b, .int c, .int d, .int e, .int (nI i)] [] Post := by
                  intro m
                  induction m with
                  | zero =>
                    intro i I hi hF hs hsz ht
                    obtain rfl : i = k := by omega
                    refine x_iload dR_feed_68 rfl ?_
                    refine x_iload_n dR_feed_70 rfl ?_
                    -- at 71: .if_icmp .ge 71
                    refine x_icmp_ge (tgt := 142) dR_feed_71 (by decide) (fun _ => ?_) (fun h => absurd (Int32.le_refl _) h)
                    refine x_aload_n dR_feed_142 rfl ?_
                    refine x_getI fl_R_137 rfl dR_feed_143 rfl rfl ?_
                    -- at 146: .ireturn
                    rw [hsz]
                    refine x_ireturn dR_feed_146 rfl rfl ?_
                    refine h1 I L (fun j hj => hF j (by simp; omega)) ?_ ?_
                    · obtain ⟨o1, o2, o3⟩ := own
                      exact ⟨(hs 55 (by decide)).trans o1, (hs 60 (by decide)).trans o2, fun j hj => (congrFun (hF 92 (by decide)) j).trans (o3 j hj)⟩
                    have e1 : rE I = rE (up2 (upr I0 78 (I 78)) 59 23 (nI (zN (rE I0) + i))) := by
                      congr 1
                      funext q
                      by_cases y : q = 59
                      · subst y
                        rw [up2_s, upr_n _ _ (by decide)]
                        funext j
                        by_cases y2 : j = 23
                        · subst y2; rw [up1_s, hsz]
                        · rw [up1_n _ _ y2, hs j y2]
                      · rw [up2_n _ _ _ y]
                        by_cases y2 : q = 78
                        · subst y2; rw [upr_s]
                        · rw [upr_n _ _ y2]
                          exact hF q (by simp [y, y2])
                    rw [e1, rE_n6, rE_18, upr_s, cl_nI (by omega)]
                    unfold feA
                    funext q
                    by_cases y : q = 18
                    · subst y
                      rw [upr_s, upr_s]
                      funext j
                      unfold mk
                      rw [ht]
                      by_cases y2 : j < zN (rE I0) + i
                      · rw [if_pos y2]
                        by_cases y3 : zN (rE I0) ≤ j
                        · rw [if_pos ⟨y3, y2⟩, if_pos ⟨y3, y2⟩]
                        · rw [if_neg (fun z => y3 z.1), if_neg (fun z => y3 z.1)]
                          exact (mk_lt (show j < cl (I0 59 23) by rw [hz, cl_nI (by omega)]; omega)).symm
                      · rw [if_neg y2, if_neg (fun z => y2 z.2)]
                        show 0 = mk (cl (I0 59 23)) (I0 78) j
                        rw [hz, cl_nI (by omega)]
                        unfold mk
                        rw [if_neg (by omega)]
                    · rw [upr_n _ _ y, upr_n _ _ y]
                      by_cases y2 : q = 29
                      · subst y2
                        rw [up2_s, up2_s, upr_n _ _ (by decide)]
                      · rw [up2_n _ _ _ y2, up2_n _ _ _ y2, upr_n _ _ y]
                  | succ m ih =>
                    intro i I hi hF hs hsz ht
                    have put : ∀ x : Int32, x = fePk a b c d e i → X mR_feed G (4, 0, 0) S1 I L 125 [.ref 59, .int (nI k), .int a, .int b, .int c, .int d, .int e, .int (nI i)] [.int x, .int (nI (zN (rE I0) + i)), .ref 78] Post := by
                      intro x hx
                      refine x_iastJ dR_feed_125 rfl rfl rfl (by omega) ?_
                      refine x_aload_n dR_feed_126 rfl ?_
                      refine x_dup dR_feed_127 rfl ?_
                      refine x_getI fl_R_137 rfl dR_feed_128 rfl rfl ?_
                      -- at 131: .iconst 1
                      rw [show up2 I 78 (zN (rE I0) + i) x 59 23 = nI (zN (rE I0) + i) by rw [up2_n _ _ _ (by decide)]; exact hsz]
                      refine x_iconst (v := 1) dR_feed_131 rfl ?_
                      refine x_iadd dR_feed_132 ?_
                      refine x_putI fl_R_137 rfl dR_feed_133 (by decide) rfl rfl rfl rfl ?_
                      refine x_iincp_7 dR_feed_136 rfl rfl ?_
                      refine x_goto (tgt := 68) dR_feed_139 (by decide) ?_
                      -- at 68: .iload 7
                      rw [nI_1, nI_1]
                      refine ih (i + 1) _ (by omega) ((hF.up (by decide) _ _).up (by decide) _ _) (fun q hq => ?_) ?_ (fun j => ?_)
                      · rw [up2_s, up1_n _ _ hq, up2_n _ _ _ (by decide)]
                        exact hs q hq
                      · rw [up2_s, up1_s]
                        rfl
                      · rw [up2_n _ _ _ (by decide), up2_s]
                        by_cases y : j = zN (rE I0) + i
                        · subst y
                          rw [up1_s, if_pos ⟨by omega, by omega⟩, hx]
                          congr 1
                          omega
                        · rw [up1_n _ _ y, ht]
                          by_cases y2 : zN (rE I0) ≤ j ∧ j < zN (rE I0) + i
                          · rw [if_pos y2, if_pos ⟨y2.1, by omega⟩]
                          · rw [if_neg y2, if_neg (fun z => y2 ⟨z.1, by omega⟩)]
                    refine x_iload dR_feed_68 rfl ?_
                    refine x_iload_n dR_feed_70 rfl ?_
                    -- at 71: .if_icmp .ge 71
                    refine x_icmp_ge (tgt := 142) dR_feed_71 (by decide) (fun h => absurd h (nI_ge (by omega) (by omega))) (fun _ => ?_)
                    refine x_aload_n dR_feed_74 rfl ?_
                    refine x_getR fl_R_68 rfl dR_feed_75 rfl rfl rfl ?_
                    refine x_aload_n dR_feed_78 rfl ?_
                    refine x_getI fl_R_137 rfl dR_feed_79 rfl rfl ?_
                    refine x_iload dR_feed_82 rfl ?_
                    -- at 84: .ifCond .ne 7
                    rw [hsz]
                    rcases (show i = 0 ∨ i = 1 ∨ i = 2 ∨ i = 3 ∨ i = 4 by omega) with rfl | rfl | rfl | rfl | rfl
                    · refine x_if_ne (tgt := 91) dR_feed_84 (by decide) (fun h => absurd rfl h) (fun _ => ?_)
                      refine x_iload_n dR_feed_87 rfl ?_
                      refine x_goto (tgt := 125) dR_feed_88 (by decide) ?_
                      -- at 125: .iastore
                      exact put a rfl
                    · refine x_if_ne (tgt := 91) dR_feed_84 (by decide) (fun _ => ?_) (fun h => absurd h (by decide))
                      refine x_iload dR_feed_91 rfl ?_
                      refine x_iconst (v := 1) dR_feed_93 rfl ?_
                      -- at 94: .if_icmp .ne 7
                      refine x_icmp_ne (tgt := 101) dR_feed_94 (by decide) (fun h => absurd rfl h) (fun _ => ?_)
                      refine x_iload_n dR_feed_97 rfl ?_
                      refine x_goto (tgt := 125) dR_feed_98 (by decide) ?_
                      -- at 125: .iastore
                      exact put b rfl
                    · refine x_if_ne (tgt := 91) dR_feed_84 (by decide) (fun _ => ?_) (fun h => absurd h (by decide))
                      refine x_iload dR_feed_91 rfl ?_
                      refine x_iconst (v := 1) dR_feed_93 rfl ?_
                      -- at 94: .if_icmp .ne 7
                      refine x_icmp_ne (tgt := 101) dR_feed_94 (by decide) (fun _ => ?_) (fun h => absurd h (by decide))
                      refine x_iload dR_feed_101 rfl ?_
                      refine x_iconst (v := 2) dR_feed_103 rfl ?_
                      -- at 104: .if_icmp .ne 8
                      refine x_icmp_ne (tgt := 112) dR_feed_104 (by decide) (fun h => absurd rfl h) (fun _ => ?_)
                      refine x_iload dR_feed_107 rfl ?_
                      refine x_goto (tgt := 125) dR_feed_109 (by decide) ?_
                      -- at 125: .iastore
                      exact put c rfl
                    · refine x_if_ne (tgt := 91) dR_feed_84 (by decide) (fun _ => ?_) (fun h => absurd h (by decide))
                      refine x_iload dR_feed_91 rfl ?_
                      refine x_iconst (v := 1) dR_feed_93 rfl ?_
                      -- at 94: .if_icmp .ne 7
                      refine x_icmp_ne (tgt := 101) dR_feed_94 (by decide) (fun _ => ?_) (fun h => absurd h (by decide))
                      refine x_iload dR_feed_101 rfl ?_
                      refine x_iconst (v := 2) dR_feed_103 rfl ?_
                      -- at 104: .if_icmp .ne 8
                      refine x_icmp_ne (tgt := 112) dR_feed_104 (by decide) (fun _ => ?_) (fun h => absurd h (by decide))
                      refine x_iload dR_feed_112 rfl ?_
                      refine x_iconst (v := 3) dR_feed_114 rfl ?_
                      -- at 115: .if_icmp .ne 8
                      refine x_icmp_ne (tgt := 123) dR_feed_115 (by decide) (fun h => absurd rfl h) (fun _ => ?_)
                      refine x_iload dR_feed_118 rfl ?_
                      refine x_goto (tgt := 125) dR_feed_120 (by decide) ?_
                      -- at 125: .iastore
                      exact put d rfl
                    · refine x_if_ne (tgt := 91) dR_feed_84 (by decide) (fun _ => ?_) (fun h => absurd h (by decide))
                      refine x_iload dR_feed_91 rfl ?_
                      refine x_iconst (v := 1) dR_feed_93 rfl ?_
                      -- at 94: .if_icmp .ne 7
                      refine x_icmp_ne (tgt := 101) dR_feed_94 (by decide) (fun _ => ?_) (fun h => absurd h (by decide))
                      refine x_iload dR_feed_101 rfl ?_
                      refine x_iconst (v := 2) dR_feed_103 rfl ?_
                      -- at 104: .if_icmp .ne 8
                      refine x_icmp_ne (tgt := 112) dR_feed_104 (by decide) (fun _ => ?_) (fun h => absurd h (by decide))
                      refine x_iload dR_feed_112 rfl ?_
                      refine x_iconst (v := 3) dR_feed_114 rfl ?_
                      -- at 115: .if_icmp .ne 8
                      refine x_icmp_ne (tgt := 123) dR_feed_115 (by decide) (fun _ => ?_) (fun h => absurd h (by decide))
                      refine x_iload dR_feed_123 rfl ?_
                      -- at 125: .iastore
                      exact put e rfl
                exact loop k 0 I0 (by omega) Fr.rfl (fun _ _ => rfl) hz (fun j => by rw [if_neg (fun z => by omega)])
              · have hl : (160 : Int32) < nI (zN (rE I0) + k) := (nI_ltI (a := 160) (by omega) (by omega)).mpr (by omega)
                rw [if_pos hl, if_pos hl] at h1
                refine x_icmp_le (tgt := 65) dR_feed_59 (by decide) (fun h => absurd h (Int32.not_le.mpr hl)) (fun _ => ?_)
                refine x_bipush (v := -4) dR_feed_62 rfl ?_
                -- at 64: .ireturn
                refine x_ireturn dR_feed_64 rfl rfl ?_
                exact h1 I0 L (fun _ _ => rfl) own rfl
            · refine x_if_ne (tgt := 50) dR_feed_44 (by decide) (fun h => absurd (by decide) h) (fun _ => ?_)
              exact bad (fun z => g5 z.2.2.2.2.2)
          · refine x_if_eq (tgt := 47) dR_feed_36 (by decide) (fun _ => ?_) (fun h => absurd (by decide) h)
            exact bad (fun z => g4 z.2.2.2.2.1)
        · refine x_if_eq (tgt := 47) dR_feed_28 (by decide) (fun _ => ?_) (fun h => absurd (by decide) h)
          exact bad (fun z => g3 z.2.2.2.1)
      · refine x_if_eq (tgt := 47) dR_feed_20 (by decide) (fun _ => ?_) (fun h => absurd (by decide) h)
        exact bad (fun z => g2 z.2.2.1)
    · refine x_if_eq (tgt := 47) dR_feed_13 (by decide) (fun _ => ?_) (fun h => absurd (by decide) h)
      exact bad (fun z => g1 z.2.1)
  · refine x_if_eq (tgt := 47) dR_feed_6 (by decide) (fun _ => ?_) (fun h => absurd (by decide) h)
    exact bad (fun z => g0 z.1)
end
section
-- 78.ri
/-! the reference: which word, which token -/
def Wd (i : Nat) : List Int32 := match i with
  | 0 => [104, 101, 97, 114, 100] | 1 => [115, 104, 97, 114, 101] | 2 => [112, 97, 105, 110] | 3 => [108, 111, 117, 100] | 4 => [102, 97, 114] | 5 => [101, 97, 114]
  | 6 => [110, 101, 101, 100] | 7 => [109, 97, 110, 121] | 8 => [98, 97, 115, 101] | 9 => [111, 114] | 10 => [97, 110, 100] | _ => [110, 111, 116]
def kdW (i : Nat) : Int32 × Int32 := match i with
  | 0 => (4, 0) | 1 => (5, 0) | 2 => (6, 0) | 3 => (3, 0) | 4 => (3, 1) | 5 => (3, 2) | 6 => (3, 3) | 7 => (3, 4) | 8 => (3, 5) | 9 => (7, 0) | 10 => (8, 0) | 11 => (9, 0) | _ => (1, 0)
theorem Wd_words : ∀ i, i < 12 → ∀ j, j < 8 → wordsL.getD (8 * i + j) 0 = (Wd i).getD j 32 := by decide +kernel
theorem Wd_let : ∀ i, i < 12 → (Wd i).length ≤ 8 ∧ ∀ j, j < (Wd i).length → ¬ (Wd i).getD j 32 = 32 := by decide +kernel
theorem kindW_i : ∀ i, i < 12 → kindW (Wd i) = kdW i := by decide +kernel
theorem kindW_no {w : List Int32} (h : ∀ i, i < 12 → ¬ w = Wd i) : kindW w = (1, 0) := by
  unfold kindW
  rw [if_neg (show ¬ w = [108, 111, 117, 100] from h 3 (by omega)), if_neg (show ¬ w = [102, 97, 114] from h 4 (by omega)), if_neg (show ¬ w = [101, 97, 114] from h 5 (by omega)), if_neg (show ¬ w = [110, 101, 101, 100] from h 6 (by omega)), if_neg (show ¬ w = [109, 97, 110, 121] from h 7 (by omega)), if_neg (show ¬ w = [98, 97, 115, 101] from h 8 (by omega)), if_neg (show ¬ w = [104, 101, 97, 114, 100] from h 0 (by omega)), if_neg (show ¬ w = [115, 104, 97, 114, 101] from h 1 (by omega)), if_neg (show ¬ w = [112, 97, 105, 110] from h 2 (by omega)), if_neg (show ¬ w = [111, 114] from h 9 (by omega)), if_neg (show ¬ w = [97, 110, 100] from h 10 (by omega)), if_neg (show ¬ w = [110, 111, 116] from h 11 (by omega))]
theorem pad_eq {w W : List Int32} (hw : w.length ≤ 8) (hW : W.length ≤ 8) (h1 : ∀ j, j < w.length → ¬ w.getD j 32 = 32) (h2 : ∀ j, j < W.length → ¬ W.getD j 32 = 32) (h : ∀ j, j < 8 → W.getD j 32 = w.getD j 32) : w = W := by
  have out : ∀ (l : List Int32) (j : Nat), l.length ≤ j → l.getD j 32 = 32 := fun l j hj => by
    rw [List.getD_eq_getElem?_getD, List.getElem?_eq_none hj]
    rfl
  have hl : w.length = W.length := by
    refine Classical.byContradiction fun hne => ?_
    by_cases c : w.length < W.length
    · exact h2 w.length c (by rw [h _ (by omega)]; exact out w _ (Nat.le_refl _))
    · exact h1 W.length (by omega) (by rw [← h _ (by omega)]; exact out W _ (Nat.le_refl _))
  refine List.ext_getElem hl fun j j1 j2 => ?_
  have := h j (by omega)
  rw [List.getD_eq_getElem?_getD, List.getD_eq_getElem?_getD, List.getElem?_eq_getElem j1, List.getElem?_eq_getElem j2] at this
  exact this.symm
/-- a byte of a word, with blanks behind it -/
def padW (f : Nat → Int32) (b e j : Nat) : Int32 := if b + j < e then f (b + j) else 32
theorem padW_at (f : Nat → Int32) (b e j : Nat) : padW f b e j = (wordAt f b e).getD j 32 := by
  unfold padW wordAt
  by_cases h : b + j < e
  · rw [if_pos h, List.getD_eq_getElem?_getD, List.getElem?_map, List.getElem?_range (by omega)]
    rfl
  · rw [if_neg h, List.getD_eq_getElem?_getD, List.getElem?_eq_none (by simp; omega)]
    rfl
def matW (f : Nat → Int32) (b e i : Nat) : Prop := e - b ≤ 8 ∧ ∀ j, j < 8 → wordsL.getD (8 * i + j) 0 = padW f b e j
theorem matW_iff {f : Nat → Int32} {b e i : Nat} (hi : i < 12) (hl : ∀ j, b ≤ j → j < e → isLet (f j)) : matW f b e i ↔ wordAt f b e = Wd i := by
  obtain ⟨w1, w2⟩ := Wd_let i hi
  have hlen : (wordAt f b e).length = e - b := by simp [wordAt]
  constructor
  · rintro ⟨h1, h2⟩
    refine pad_eq (by omega) w1 (fun j hj => ?_) w2 (fun j hj => ?_)
    · rw [← padW_at]
      unfold padW
      rw [if_pos (by omega)]
      intro z
      have := hl (b + j) (by omega) (by omega)
      rw [z] at this
      exact absurd this (by decide)
    · rw [← Wd_words i hi j hj, h2 j hj, padW_at]
  · intro h
    refine ⟨by rw [← hlen, h]; exact w1, fun j hj => ?_⟩
    rw [Wd_words i hi j hj, padW_at, h]
def sp_R_wordFrom : SpT := fun as S I L Post => ∃ b e : Nat, as = [.ref 59, .int (nI b), .int (nI e)] ∧ S = S1 ∧ b ≤ e ∧ e ≤ 160 ∧ (∀ k, k < 96 → I 92 k = wordsL.getD k 0) ∧ ∀ i, i ≤ 12 → (i < 12 → matW (I 78) b e i) → (i = 12 → ∀ k, k < 12 → ¬ matW (I 78) b e k) → Post (some (.int (nI i))) S1 I L
set_option maxHeartbeats 4000000 in
set_option maxRecDepth 100000 in
theorem c_R_wordFrom : Con mR_wordFrom 2 0 0 sp_R_wordFrom := by
  refine con_of_X rfl fun G as S I L Post hs => ?_
  obtain ⟨b, e, rfl, rfl, hbe, he, hw, h1⟩ := hs
  refine ⟨3, Nat.le_of_ble_eq_true rfl, ?_⟩
  show X mR_wordFrom G _ S1 I L 0 [.ref 59, .int (nI b), .int (nI e), .null, .null, .null] [] Post
  have inner : ∀ (i : Nat) (ok : Bool) (k j : Nat), i < 12 → j + k = 8 → (ok = true → e - b ≤ 8 ∧ ∀ x, x < j → wordsL.getD (8 * i + x) 0 = padW (I 78) b e x) → (ok = false → ¬ matW (I 78) b e i) →
      ((matW (I 78) b e i → ∀ a5 : Int32, X mR_wordFrom G (2, 0, 0) S1 I L 88 [.ref 59, .int (nI b), .int (nI e), .int (nI i), .int 1, .int a5] [] Post) ∧ (¬ matW (I 78) b e i → ∀ a5 : Int32, X mR_wordFrom G (2, 0, 0) S1 I L 88 [.ref 59, .int (nI b), .int (nI e), .int (nI i), .int 0, .int a5] [] Post)) →
      X mR_wordFrom G (2, 0, 0) S1 I L 26 [.ref 59, .int (nI b), .int (nI e), .int (nI i), .int (if ok then 1 else 0), .int (nI j)] [] Post := by
    intro i ok k
    induction k generalizing ok with
    | zero =>
      intro j hi hj h2 h3 h4
      obtain rfl : j = 8 := by omega
      refine x_iload dR_wordFrom_26 rfl ?_
      refine x_bipush (v := 8) dR_wordFrom_28 rfl ?_
      -- at 30: .if_icmp .ge 58
      refine x_icmp_ge (tgt := 88) dR_wordFrom_30 (by decide) (fun _ => ?_) (fun h => absurd (by decide) h)
      cases ok with
      | true => exact h4.1 (h2 rfl) _
      | false => exact h4.2 (h3 rfl) _
    | succ k ih =>
      intro j hi hj h2 h3 h4
      refine x_iload dR_wordFrom_26 rfl ?_
      refine x_bipush (v := 8) dR_wordFrom_28 rfl ?_
      -- at 30: .if_icmp .ge 58
      refine x_icmp_ge (tgt := 88) dR_wordFrom_30 (by decide) (fun h => absurd h (nI_ge (b := 8) (by omega) (by omega))) (fun _ => ?_)
      refine x_iload dR_wordFrom_33 rfl ?_
      -- at 35: .ifCond .eq 53
      cases ok with
      | false =>
        refine x_if_eq (tgt := 88) dR_wordFrom_35 (by decide) (fun _ => ?_) (fun h => absurd rfl h)
        exact h4.2 (h3 rfl) _
      | true =>
        obtain ⟨g1, g2⟩ := h2 rfl
        refine x_if_eq (tgt := 88) dR_wordFrom_35 (by decide) (fun h => absurd h (by decide)) (fun _ => ?_)
        have e8 : (8 : Int32) * nI i + nI j = nI (8 * i + j) := by
          rw [show (8 : Int32) = nI 8 from rfl, pk_mul, nI_add]
        refine x_aload_n dR_wordFrom_38 rfl ?_
        refine x_getR fl_R_110 rfl dR_wordFrom_39 rfl rfl rfl ?_
        refine x_bipush (v := 8) dR_wordFrom_42 rfl ?_
        refine x_iload_n dR_wordFrom_44 rfl ?_
        refine x_imul dR_wordFrom_45 ?_
        refine x_iload dR_wordFrom_46 rfl ?_
        refine x_iadd dR_wordFrom_48 ?_
        refine x_ialdJ dR_wordFrom_49 rfl rfl e8 (by omega) ?_
        refine x_iload_n dR_wordFrom_50 rfl ?_
        refine x_iload dR_wordFrom_51 rfl ?_
        refine x_iadd dR_wordFrom_53 ?_
        -- at 54: .iload_n 2
        rw [hw _ (by omega)]
        have tail : ∀ x : Int32, x = padW (I 78) b e j → X mR_wordFrom G (2, 0, 0) S1 I L 72 [.ref 59, .int (nI b), .int (nI e), .int (nI i), .int 1, .int (nI j)] [.int x, .int (wordsL.getD (8 * i + j) 0)] Post := by
          intro x hx
          refine x_icmp_ne (tgt := 79) dR_wordFrom_72 (by decide) (fun c2 => ?_) (fun c2 => ?_)
          · refine x_iconst (v := 0) dR_wordFrom_79 rfl ?_
            refine x_istore_4 dR_wordFrom_80 rfl rfl ?_
            refine x_iincp_5 dR_wordFrom_82 rfl rfl ?_
            refine x_goto (tgt := 26) dR_wordFrom_85 (by decide) ?_
            -- at 26: .iload 5
            rw [nI_1]
            exact ih false (j + 1) hi (by omega) (fun z => absurd z (by decide)) (fun _ z => c2 ((z.2 j (by omega)).trans hx.symm)) h4
          · refine x_iconst (v := 1) dR_wordFrom_75 rfl ?_
            refine x_goto (tgt := 80) dR_wordFrom_76 (by decide) ?_
            refine x_istore_4 dR_wordFrom_80 rfl rfl ?_
            refine x_iincp_5 dR_wordFrom_82 rfl rfl ?_
            refine x_goto (tgt := 26) dR_wordFrom_85 (by decide) ?_
            -- at 26: .iload 5
            rw [nI_1]
            refine ih true (j + 1) hi (by omega) (fun _ => ⟨g1, fun x2 hx2 => ?_⟩) (fun z => absurd z (by decide)) h4
            by_cases e2 : x2 = j
            · rw [e2]; exact c2.trans hx
            · exact g2 x2 (by omega)
        refine x_eqi (y := nI (b + j)) (nI_add b j) ?_
        refine x_iload_n dR_wordFrom_54 rfl ?_
        -- at 55: .if_icmp .ge 15
        by_cases c1 : b + j < e
        · refine x_icmp_ge (tgt := 70) dR_wordFrom_55 (by decide) (fun h => absurd h (nI_ge c1 (by omega))) (fun _ => ?_)
          refine x_aload_n dR_wordFrom_58 rfl ?_
          refine x_getR fl_R_68 rfl dR_wordFrom_59 rfl rfl rfl ?_
          refine x_iload_n dR_wordFrom_62 rfl ?_
          refine x_iload dR_wordFrom_63 rfl ?_
          refine x_iadd dR_wordFrom_65 ?_
          refine x_ialdJ dR_wordFrom_66 rfl rfl (nI_add b j) (by omega) ?_
          refine x_goto (tgt := 72) dR_wordFrom_67 (by decide) ?_
          -- at 72: .if_icmp .ne 7
          exact tail _ (by unfold padW; rw [if_pos c1])
        · refine x_icmp_ge (tgt := 70) dR_wordFrom_55 (by decide) (fun _ => ?_) (fun h => absurd (nI_le (by omega) (by omega)) h)
          refine x_bipush (v := 32) dR_wordFrom_70 rfl ?_
          -- at 72: .if_icmp .ne 7
          exact tail _ (by unfold padW; rw [if_neg c1])
  have loop : ∀ (k i : Nat) (a4 a5 : Value), i + k = 12 → cat1at [a4] 1 = true → cat1at [a5] 1 = true → (∀ x, x < i → ¬ matW (I 78) b e x) → X mR_wordFrom G (2, 0, 0) S1 I L 2 [.ref 59, .int (nI b), .int (nI e), .int (nI i), a4, a5] [] Post := by
    intro k
    induction k with
    | zero =>
      intro i a4 a5 hi q4 q5 hno
      obtain rfl : i = 12 := by omega
      refine x_iload_n dR_wordFrom_2 rfl ?_
      refine x_bipush (v := 12) dR_wordFrom_3 rfl ?_
      -- at 5: .if_icmp .ge 96
      refine x_icmp_ge (tgt := 101) dR_wordFrom_5 (by decide) (fun _ => ?_) (fun h => absurd (by decide) h)
      refine x_bipush (v := 12) dR_wordFrom_101 rfl ?_
      -- at 103: .ireturn
      refine x_ireturn dR_wordFrom_103 rfl rfl ?_
      exact h1 12 (Nat.le_refl _) (fun z => absurd z (by omega)) (fun _ => hno)
    | succ k ih =>
      intro i a4 a5 hi q4 q5 hno
      have out : ((matW (I 78) b e i → ∀ a5 : Int32, X mR_wordFrom G (2, 0, 0) S1 I L 88 [.ref 59, .int (nI b), .int (nI e), .int (nI i), .int 1, .int a5] [] Post) ∧ (¬ matW (I 78) b e i → ∀ a5 : Int32, X mR_wordFrom G (2, 0, 0) S1 I L 88 [.ref 59, .int (nI b), .int (nI e), .int (nI i), .int 0, .int a5] [] Post)) := by
        constructor
        · intro hm a5
          refine x_iload dR_wordFrom_88 rfl ?_
          -- at 90: .ifCond .eq 5
          refine x_if_eq (tgt := 95) dR_wordFrom_90 (by decide) (fun h => absurd h (by decide)) (fun _ => ?_)
          refine x_iload_n dR_wordFrom_93 rfl ?_
          -- at 94: .ireturn
          refine x_ireturn dR_wordFrom_94 rfl rfl ?_
          exact h1 i (by omega) (fun _ => hm) (fun z => absurd z (by omega))
        · intro hm a5
          refine x_iload dR_wordFrom_88 rfl ?_
          -- at 90: .ifCond .eq 5
          refine x_if_eq (tgt := 95) dR_wordFrom_90 (by decide) (fun _ => ?_) (fun h => absurd rfl h)
          refine x_iincp_3 dR_wordFrom_95 rfl rfl ?_
          refine x_goto (tgt := 2) dR_wordFrom_98 (by decide) ?_
          -- at 2: .iload_n 3
          rw [nI_1]
          refine ih (i + 1) _ _ (by omega) rfl rfl (fun x hx => ?_)
          by_cases e2 : x = i
          · rw [e2]; exact hm
          · exact hno x (by omega)
      refine x_iload_n dR_wordFrom_2 rfl ?_
      refine x_bipush (v := 12) dR_wordFrom_3 rfl ?_
      -- at 5: .if_icmp .ge 96
      refine x_icmp_ge (tgt := 101) dR_wordFrom_5 (by decide) (fun h => absurd h (nI_ge (b := 12) (by omega) (by omega))) (fun _ => ?_)
      refine x_iload_n dR_wordFrom_8 rfl ?_
      refine x_iload_n dR_wordFrom_9 rfl ?_
      refine x_isub dR_wordFrom_10 ?_
      -- at 11: .bipush 8
      refine x_eqi (y := nI (e - b)) (pk_sub hbe) ?_
      refine x_bipush (v := 8) dR_wordFrom_11 rfl ?_
      -- at 13: .if_icmp .gt 7
      by_cases c1 : e - b ≤ 8
      · refine x_icmp_gt (tgt := 20) dR_wordFrom_13 (by decide) (fun h => absurd h (Int32.not_lt.mpr (nI_le (b := 8) c1 (by omega)))) (fun _ => ?_)
        refine x_iconst (v := 1) dR_wordFrom_16 rfl ?_
        refine x_goto (tgt := 21) dR_wordFrom_17 (by decide) ?_
        refine x_istore_4 dR_wordFrom_21 rfl rfl ?_
        refine x_iconst (v := 0) dR_wordFrom_23 rfl ?_
        refine x_istore_5 dR_wordFrom_24 rfl rfl ?_
        -- at 26: .iload 5
        exact inner i true 8 0 (by omega) rfl (fun _ => ⟨c1, fun x hx => absurd hx (Nat.not_lt_zero x)⟩) (fun z => absurd z (by decide)) out
      · refine x_icmp_gt (tgt := 20) dR_wordFrom_13 (by decide) (fun _ => ?_) (fun h => absurd ((nI_ltI (a := 8) (by omega) (by omega)).mpr (by omega)) h)
        refine x_iconst (v := 0) dR_wordFrom_20 rfl ?_
        refine x_istore_4 dR_wordFrom_21 rfl rfl ?_
        refine x_iconst (v := 0) dR_wordFrom_23 rfl ?_
        refine x_istore_5 dR_wordFrom_24 rfl rfl ?_
        -- at 26: .iload 5
        exact inner i false 8 0 (by omega) rfl (fun z => absurd z (by decide)) (fun _ z => c1 z.1) out
  refine x_iconst (v := 0) dR_wordFrom_0 rfl ?_
  refine x_istoren_3 dR_wordFrom_1 rfl rfl ?_
  -- at 2: .iload_n 3
  exact loop 12 0 _ _ rfl rfl rfl (fun x hx => absurd hx (Nat.not_lt_zero x))

/-- the reference's name of a token -/
def rtok (s : Int32) : Int32 := if s = 2 then 1 else if s = 3 then 2 else if s = 4 ∨ s = 5 ∨ s = 6 then 3 else if s = 7 then 4 else if s = 8 then 5 else if s = 9 then 6 else if s = 1 then -1 else s
def RTok (I : IM) (t : Tok) : Prop := I 59 46 = rtok t.1 ∧ (t.1 = 2 ∨ t.1 = 3 → I 59 47 = t.2.2) ∧ (t.1 = 4 → I 59 47 = 0) ∧ (t.1 = 5 → I 59 47 = 1) ∧ (t.1 = 6 → I 59 47 = 2) ∧ I 59 45 = nI t.2.1
/-- only these fields of the reference may differ -/
def FrN (js : List Nat) (I I' : IM) : Prop := (∀ k, k ≠ 59 → I' k = I k) ∧ ∀ j, j ∉ js → I' 59 j = I 59 j
theorem FrN.rfl {js : List Nat} {I : IM} : FrN js I I := ⟨fun _ _ => Eq.refl _, fun _ _ => Eq.refl _⟩
theorem FrN.up {js : List Nat} {I I' : IM} (h : FrN js I I') {j : Nat} (hj : j ∈ js) (x : Int32) : FrN js I (up2 I' 59 j x) := by
  refine ⟨fun k hk => by rw [up2_n _ _ _ hk]; exact h.1 k hk, fun i hi => ?_⟩
  rw [up2_s, up1_n]
  · exact h.2 i hi
  · rintro rfl
    exact hi hj
theorem FrN.tr {js : List Nat} {I I' I'' : IM} (h : FrN js I I') (h2 : FrN js I' I'') : FrN js I I'' := ⟨fun k hk => (h2.1 k hk).trans (h.1 k hk), fun j hj => (h2.2 j hj).trans (h.2 j hj)⟩
theorem FrN.wk {js ks : List Nat} {I I' : IM} (h : FrN js I I') (hs : ∀ k ∈ js, k ∈ ks) : FrN ks I I' := ⟨h.1, fun j hj => h.2 j (fun q => hj (hs j q))⟩
theorem f59_s {I : IM} {j : Nat} {x : Int32} : up2 I 59 j x 59 j = x := by rw [up2_s, up1_s]
theorem f59_n {I : IM} {i j : Nat} {x : Int32} (h : i ≠ j) : up2 I 59 j x 59 i = I 59 i := by rw [up2_s, up1_n _ _ h]
theorem RTok_of {I : IM} {s v : Int32} {b : Nat} (h1 : I 59 46 = rtok s) (h2 : s = 2 ∨ s = 3 → I 59 47 = v) (h3 : s = 4 → I 59 47 = 0) (h4 : s = 5 → I 59 47 = 1) (h5 : s = 6 → I 59 47 = 2) (h6 : I 59 45 = nI b) : RTok I (s, b, v) := ⟨h1, h2, h3, h4, h5, h6⟩
theorem RTok_w {I : IM} {k b : Nat} {tok val : Int32} (hk : k ≤ 12) (h1 : I 59 46 = tok) (h2 : I 59 47 = val) (h3 : I 59 45 = nI b) (ht : tok = if k < 3 then 3 else if k < 9 then 2 else if k = 12 then -1 else 4 + nI k - 9) (hv : val = if k < 3 then nI k else nI k - 3) : RTok I ((kdW k).1, b, (kdW k).2) := by
  rcases (show k = 0 ∨ k = 1 ∨ k = 2 ∨ k = 3 ∨ k = 4 ∨ k = 5 ∨ k = 6 ∨ k = 7 ∨ k = 8 ∨ k = 9 ∨ k = 10 ∨ k = 11 ∨ k = 12 by omega) with rfl | rfl | rfl | rfl | rfl | rfl | rfl | rfl | rfl | rfl | rfl | rfl | rfl <;>
    exact RTok_of (by rw [h1, ht]; decide) (by rw [h2, hv]; decide) (by rw [h2, hv]; decide) (by rw [h2, hv]; decide) (by rw [h2, hv]; decide) h3
theorem RTok_n {I : IM} {s : Int32} {b : Nat} (h1 : I 59 46 = rtok s) (h2 : s = 0 ∨ s = 1 ∨ isSig s) (h3 : I 59 45 = nI b) : RTok I (s, b, 0) := by
  have no : ∀ x : Int32, x = 2 ∨ x = 3 ∨ x = 4 ∨ x = 5 ∨ x = 6 → ¬ s = x := by
    rintro x hx rfl
    rcases hx with rfl | rfl | rfl | rfl | rfl <;> exact absurd h2 (by decide)
  exact RTok_of h1 (fun z => z.elim (fun y => absurd y (no 2 (by decide))) (fun y => absurd y (no 3 (by decide)))) (fun y => absurd y (no 4 (by decide))) (fun y => absurd y (no 5 (by decide))) (fun y => absurd y (no 6 (by decide))) h3
theorem rtok_sig {s : Int32} (h : isSig s) : rtok s = s := by
  rcases h with rfl | rfl | rfl | rfl | rfl | rfl | rfl | rfl <;> decide
def sp_R_next : SpT := fun as S I L Post => ∃ a z : Nat, as = [.ref 59] ∧ S = S1 ∧ I 59 44 = nI a ∧ a ≤ z ∧ z ≤ 160 ∧ I 59 23 = nI z ∧ (∀ k, k < 96 → I 92 k = wordsL.getD k 0) ∧
  ∀ (I' : IM) (a' : Nat) (t : Tok) (T : List Tok), tokS (I 78) z a = t :: T → FrN [44, 45, 46, 47] I I' → I' 59 44 = nI a' → a' ≤ z → RTok I' t → (¬ t.1 = 0 → T = tokS (I 78) z a') → Post none S1 I' L
set_option maxHeartbeats 4000000 in
set_option maxRecDepth 100000 in
theorem c_R_next : Con mR_next 3 0 0 sp_R_next := by
  refine con_of_X rfl fun G as S I L Post hs => ?_
  obtain ⟨a, z, rfl, rfl, ha, haz, hz, htz, hw, h1⟩ := hs
  refine ⟨2, Nat.le_of_ble_eq_true rfl, ?_⟩
  show X mR_next G _ S1 I L 0 [.ref 59, .null, .null] [] Post
  have tape : ∀ {I' : IM}, FrN [44, 45, 46, 47] I I' → I' 78 = I 78 := fun h => h.1 78 (by decide)
  have size : ∀ {I' : IM}, FrN [44, 45, 46, 47] I I' → I' 59 23 = nI z := fun h => (h.2 23 (by decide)).trans htz
  have words : ∀ {I' : IM}, FrN [44, 45, 46, 47] I I' → ∀ k, k < 96 → I' 92 k = wordsL.getD k 0 := fun h k hk => by rw [h.1 92 (by decide)]; exact hw k hk
  -- letters
  have letters : ∀ (k i : Nat) (I' : IM) (a1 a2 : Value), z - i ≤ k → i ≤ z → FrN [44, 45, 46, 47] I I' → I' 59 44 = nI i →
      (∀ I2 : IM, FrN [44, 45, 46, 47] I I2 → I2 59 44 = nI (letE (I 78) z (z - i) i) → I2 59 45 = I' 59 45 → X mR_next G (3, 0, 0) S1 I2 L 146 [.ref 59, a1, a2] [] Post) →
      X mR_next G (3, 0, 0) S1 I' L 103 [.ref 59, a1, a2] [] Post := by
    intro k
    induction k with
    | zero =>
      intro i I' a1 a2 hk hi hF hat hend
      obtain rfl : i = z := by omega
      refine x_aload_n dR_next_103 rfl ?_
      refine x_getI fl_R_171 rfl dR_next_104 rfl rfl ?_
      refine x_aload_n dR_next_107 rfl ?_
      refine x_getI fl_R_137 rfl dR_next_108 rfl rfl ?_
      -- at 111: .if_icmp .ge 35
      rw [hat, size hF]
      refine x_icmp_ge (tgt := 146) dR_next_111 (by decide) (fun _ => ?_) (fun h => absurd (Int32.le_refl _) h)
      refine hend I' hF ?_ rfl
      rw [hat, Nat.sub_self]
      rfl
    | succ k ih =>
      intro i I' a1 a2 hk hi hF hat hend
      by_cases c0 : i = z
      · subst c0
        refine x_aload_n dR_next_103 rfl ?_
        refine x_getI fl_R_171 rfl dR_next_104 rfl rfl ?_
        refine x_aload_n dR_next_107 rfl ?_
        refine x_getI fl_R_137 rfl dR_next_108 rfl rfl ?_
        -- at 111: .if_icmp .ge 35
        rw [hat, size hF]
        refine x_icmp_ge (tgt := 146) dR_next_111 (by decide) (fun _ => ?_) (fun h => absurd (Int32.le_refl _) h)
        refine hend I' hF ?_ rfl
        rw [hat, Nat.sub_self]
        rfl
      obtain ⟨m, hm⟩ : ∃ m, z - i = m + 1 := ⟨z - i - 1, by omega⟩
      refine x_aload_n dR_next_103 rfl ?_
      refine x_getI fl_R_171 rfl dR_next_104 rfl rfl ?_
      refine x_aload_n dR_next_107 rfl ?_
      refine x_getI fl_R_137 rfl dR_next_108 rfl rfl ?_
      -- at 111: .if_icmp .ge 35
      rw [hat, size hF]
      refine x_icmp_ge (tgt := 146) dR_next_111 (by decide) (fun h => absurd h (nI_ge (by omega) (by omega))) (fun _ => ?_)
      refine x_aload_n dR_next_114 rfl ?_
      refine x_getR fl_R_68 rfl dR_next_115 rfl rfl rfl ?_
      refine x_aload_n dR_next_118 rfl ?_
      refine x_getI fl_R_171 rfl dR_next_119 rfl rfl ?_
      -- at 122: .iaload
      rw [hat]
      refine x_ialdJ (j := i) dR_next_122 rfl rfl (by first | rfl | (simp only [← nI_add, ← pk_mul]; rfl)) (by omega) ?_
      refine x_bipush (v := 97) dR_next_123 rfl ?_
      refine x_bipush (v := 122) dR_next_125 rfl ?_
      -- at 127: .invokestatic 151
      rw [tape hF]
      refine x_callS_3 c_R_in ok_R_in ml_R_151 dR_next_127 rfl rfl ?_
      refine ⟨_, _, _, rfl, fun c1 => ?_, fun c1 => ?_⟩
      · have c1 : isLet (I 78 i) := c1
        refine x_if_eq (tgt := 146) dR_next_130 (by decide) (fun h => absurd h (by decide)) (fun _ => ?_)
        refine x_aload_n dR_next_133 rfl ?_
        refine x_dup dR_next_134 rfl ?_
        refine x_getI fl_R_171 rfl dR_next_135 rfl rfl ?_
        -- at 138: .iconst 1
        rw [hat]
        refine x_iconst (v := 1) dR_next_138 rfl ?_
        refine x_iadd dR_next_139 ?_
        refine x_putI fl_R_171 rfl dR_next_140 (by decide) rfl rfl rfl rfl ?_
        refine x_goto (tgt := 103) dR_next_143 (by decide) ?_
        -- at 103: .aload_n 0
        rw [nI_1]
        refine ih (i + 1) _ a1 a2 (by omega) (by omega) (hF.up (by decide) _) f59_s (fun I2 hF2 h2 h3 => ?_)
        refine hend I2 hF2 ?_ (h3.trans (f59_n (by decide)))
        rw [h2, hm, letE, if_pos ⟨by omega, c1⟩, show z - (i + 1) = m by omega]
      · have c1 : ¬ isLet (I 78 i) := c1
        refine x_if_eq (tgt := 146) dR_next_130 (by decide) (fun _ => ?_) (fun h => absurd (by decide) h)
        refine hend I' hF ?_ rfl
        rw [hat, hm, letE, if_neg (fun y => c1 y.2)]
  -- digits
  have digits : ∀ (b : Nat) (k i : Nat) (I' : IM) (a1 : Int32), z - i ≤ k → b ≤ i → i ≤ z → FrN [44, 45, 46, 47] I I' → I' 59 44 = nI i → (i - b ≤ 4 → I' 59 47 = numV (I 78) (i - b) b) →
      (∀ (I2 : IM) (e : Nat), FrN [44, 45, 46, 47] I I2 → e = digE (I 78) z (z - i) i → I2 59 44 = nI e → I2 59 45 = I' 59 45 → (e - b ≤ 4 → I2 59 47 = numV (I 78) (e - b) b) → X mR_next G (3, 0, 0) S1 I2 L 309 [.ref 59, .int a1, .int (nI (e - b))] [] Post) →
      X mR_next G (3, 0, 0) S1 I' L 230 [.ref 59, .int a1, .int (nI (i - b))] [] Post := by
    intro b k
    induction k with
    | zero =>
      intro i I' a1 hk hb hi hF hat hv hend
      obtain rfl : i = z := by omega
      refine x_aload_n dR_next_230 rfl ?_
      refine x_getI fl_R_171 rfl dR_next_231 rfl rfl ?_
      refine x_aload_n dR_next_234 rfl ?_
      refine x_getI fl_R_137 rfl dR_next_235 rfl rfl ?_
      -- at 238: .if_icmp .ge 71
      rw [hat, size hF]
      refine x_icmp_ge (tgt := 309) dR_next_238 (by decide) (fun _ => ?_) (fun h => absurd (Int32.le_refl _) h)
      exact hend I' i hF (by rw [Nat.sub_self]; rfl) hat rfl hv
    | succ k ih =>
      intro i I' a1 hk hb hi hF hat hv hend
      by_cases c0 : i = z
      · subst c0
        refine x_aload_n dR_next_230 rfl ?_
        refine x_getI fl_R_171 rfl dR_next_231 rfl rfl ?_
        refine x_aload_n dR_next_234 rfl ?_
        refine x_getI fl_R_137 rfl dR_next_235 rfl rfl ?_
        -- at 238: .if_icmp .ge 71
        rw [hat, size hF]
        refine x_icmp_ge (tgt := 309) dR_next_238 (by decide) (fun _ => ?_) (fun h => absurd (Int32.le_refl _) h)
        exact hend I' i hF (by rw [Nat.sub_self]; rfl) hat rfl hv
      obtain ⟨m, hm⟩ : ∃ m, z - i = m + 1 := ⟨z - i - 1, by omega⟩
      refine x_aload_n dR_next_230 rfl ?_
      refine x_getI fl_R_171 rfl dR_next_231 rfl rfl ?_
      refine x_aload_n dR_next_234 rfl ?_
      refine x_getI fl_R_137 rfl dR_next_235 rfl rfl ?_
      -- at 238: .if_icmp .ge 71
      rw [hat, size hF]
      refine x_icmp_ge (tgt := 309) dR_next_238 (by decide) (fun h => absurd h (nI_ge (by omega) (by omega))) (fun _ => ?_)
      refine x_aload_n dR_next_241 rfl ?_
      refine x_getR fl_R_68 rfl dR_next_242 rfl rfl rfl ?_
      refine x_aload_n dR_next_245 rfl ?_
      refine x_getI fl_R_171 rfl dR_next_246 rfl rfl ?_
      -- at 249: .iaload
      rw [hat]
      refine x_ialdJ (j := i) dR_next_249 rfl rfl (by first | rfl | (simp only [← nI_add, ← pk_mul]; rfl)) (by omega) ?_
      refine x_bipush (v := 48) dR_next_250 rfl ?_
      refine x_bipush (v := 57) dR_next_252 rfl ?_
      -- at 254: .invokestatic 151
      rw [tape hF]
      refine x_callS_3 c_R_in ok_R_in ml_R_151 dR_next_254 rfl rfl ?_
      refine ⟨_, _, _, rfl, fun c1 => ?_, fun c1 => ?_⟩
      · have c1 : isDig (I 78 i) := c1
        have go : ∀ x : Int32, (i - b < 4 → x = numV (I 78) (i - b + 1) b) → X mR_next G (3, 0, 0) S1 I' L 290 [.ref 59, .int a1, .int (nI (i - b))] [.int x, .ref 59] Post := by
          intro x hx
          refine x_putI fl_R_180 rfl dR_next_290 (by decide) rfl rfl rfl rfl ?_
          refine x_iincp_2 dR_next_293 rfl rfl ?_
          refine x_aload_n dR_next_296 rfl ?_
          refine x_dup dR_next_297 rfl ?_
          refine x_getI fl_R_171 rfl dR_next_298 rfl rfl ?_
          -- at 301: .iconst 1
          rw [f59_n (by decide), hat]
          refine x_iconst (v := 1) dR_next_301 rfl ?_
          refine x_iadd dR_next_302 ?_
          refine x_putI fl_R_171 rfl dR_next_303 (by decide) rfl rfl rfl rfl ?_
          refine x_goto (tgt := 230) dR_next_306 (by decide) ?_
          -- at 230: .aload_n 0
          rw [nI_1, nI_1, show i - b + 1 = i + 1 - b by omega]
          refine ih (i + 1) _ a1 (by omega) (by omega) (by omega) ((hF.up (by decide) _).up (by decide) _) f59_s (fun h4 => ?_) (fun I2 e hF2 he h2 h3 h4 => ?_)
          · rw [f59_n (by decide), f59_s, hx (by omega), show i - b + 1 = i + 1 - b by omega]
          · refine hend I2 e hF2 ?_ h2 (h3.trans ((f59_n (by decide)).trans (f59_n (by decide)))) h4
            rw [he, hm, digE, if_pos ⟨by omega, c1⟩, show z - (i + 1) = m by omega]
        refine x_if_eq (tgt := 309) dR_next_257 (by decide) (fun h => absurd h (by decide)) (fun _ => ?_)
        refine x_aload_n dR_next_260 rfl ?_
        refine x_iload_n dR_next_261 rfl ?_
        refine x_iconst (v := 4) dR_next_262 rfl ?_
        -- at 263: .if_icmp .ge 26
        by_cases c2 : i - b < 4
        · refine x_icmp_ge (tgt := 289) dR_next_263 (by decide) (fun h => absurd h (nI_ge (b := 4) c2 (by omega))) (fun _ => ?_)
          refine x_bipush (v := 10) dR_next_266 rfl ?_
          refine x_aload_n dR_next_268 rfl ?_
          refine x_getI fl_R_180 rfl dR_next_269 rfl rfl ?_
          refine x_imul dR_next_272 ?_
          refine x_aload_n dR_next_273 rfl ?_
          refine x_getR fl_R_68 rfl dR_next_274 rfl rfl rfl ?_
          refine x_aload_n dR_next_277 rfl ?_
          refine x_getI fl_R_171 rfl dR_next_278 rfl rfl ?_
          -- at 281: .iaload
          rw [hat]
          refine x_ialdJ (j := i) dR_next_281 rfl rfl (by first | rfl | (simp only [← nI_add, ← pk_mul]; rfl)) (by omega) ?_
          -- at 282: .iadd
          rw [tape hF, hv (by omega)]
          refine x_iadd dR_next_282 ?_
          refine x_bipush (v := 48) dR_next_283 rfl ?_
          refine x_isub dR_next_285 ?_
          refine x_goto (tgt := 290) dR_next_286 (by decide) ?_
          -- at 290: .putfield 180
          refine go _ (fun _ => ?_)
          rw [numV, Int32.mul_comm, show b + (i - b) = i by omega]
        · refine x_icmp_ge (tgt := 289) dR_next_263 (by decide) (fun _ => ?_) (fun h => absurd (nI_le (a := 4) (by omega) (by omega)) h)
          refine x_iconst (v := 0) dR_next_289 rfl ?_
          -- at 290: .putfield 180
          exact go _ (fun y => absurd y c2)
      · have c1 : ¬ isDig (I 78 i) := c1
        refine x_if_eq (tgt := 309) dR_next_257 (by decide) (fun _ => ?_) (fun h => absurd (by decide) h)
        exact hend I' i hF (by rw [hm, digE, if_neg (fun y => c1 y.2)]) hat rfl hv
  -- what begins
  have main : ∀ (i : Nat) (I' : IM), i ≤ z → FrN [44, 45, 46, 47] I I' → I' 59 44 = nI i → tokS (I 78) z i = tokS (I 78) z a → (i < z → ¬ isBla (I 78 i)) → X mR_next G (3, 0, 0) S1 I' L 52 [.ref 59, .null, .null] [] Post := by
    intro i I' hi hF hat hT hb
    refine x_aload_n dR_next_52 rfl ?_
    refine x_aload_n dR_next_53 rfl ?_
    refine x_getI fl_R_171 rfl dR_next_54 rfl rfl ?_
    -- at 57: .putfield 174
    rw [hat]
    refine x_putI fl_R_174 rfl dR_next_57 (by decide) rfl rfl rfl rfl ?_
    refine x_aload_n dR_next_60 rfl ?_
    refine x_iconst (v := 0) dR_next_61 rfl ?_
    refine x_putI fl_R_177 rfl dR_next_62 (by decide) rfl rfl rfl rfl ?_
    refine x_aload_n dR_next_65 rfl ?_
    refine x_iconst (v := 0) dR_next_66 rfl ?_
    refine x_putI fl_R_180 rfl dR_next_67 (by decide) rfl rfl rfl rfl ?_
    refine x_aload_n dR_next_70 rfl ?_
    refine x_getI fl_R_171 rfl dR_next_71 rfl rfl ?_
    refine x_aload_n dR_next_74 rfl ?_
    refine x_getI fl_R_137 rfl dR_next_75 rfl rfl ?_
    -- at 78: .if_icmp .ne 4
    have hF1 : FrN [44, 45, 46, 47] I (up2 (up2 (up2 I' 59 45 (nI i)) 59 46 0) 59 47 0) := ((hF.up (by decide) _).up (by decide) _).up (by decide) _
    have q44 : up2 (up2 (up2 I' 59 45 (nI i)) 59 46 0) 59 47 0 59 44 = nI i := by rw [f59_n (by decide), f59_n (by decide), f59_n (by decide)]; exact hat
    have q45 : up2 (up2 (up2 I' 59 45 (nI i)) 59 46 0) 59 47 0 59 45 = nI i := by rw [f59_n (by decide), f59_n (by decide), f59_s]
    have q46 : up2 (up2 (up2 I' 59 45 (nI i)) 59 46 0) 59 47 0 59 46 = 0 := by rw [f59_n (by decide), f59_s]
    have q47 : up2 (up2 (up2 I' 59 45 (nI i)) 59 46 0) 59 47 0 59 47 = 0 := f59_s
    generalize up2 (up2 (up2 I' 59 45 (nI i)) 59 46 0) 59 47 0 = I1 at hF1 q44 q45 q46 q47
    rw [q44, size hF1]
    by_cases c0 : i < z
    · have htok := tokS_tok c0 (hb c0)
      rw [hT] at htok
      have hend2 := tokAt_end (f := I 78) c0
      refine x_icmp_ne (tgt := 82) dR_next_78 (by decide) (fun _ => ?_) (fun h => absurd h (fun y => absurd ((nI_eq (by omega) (by omega)).mp y) (by omega)))
      refine x_aload_n dR_next_82 rfl ?_
      refine x_getR fl_R_68 rfl dR_next_83 rfl rfl rfl ?_
      refine x_aload_n dR_next_86 rfl ?_
      refine x_getI fl_R_171 rfl dR_next_87 rfl rfl ?_
      -- at 90: .iaload
      rw [q44]
      refine x_ialdJ (j := i) dR_next_90 rfl rfl (by first | rfl | (simp only [← nI_add, ← pk_mul]; rfl)) (by omega) ?_
      refine x_istoren_1 dR_next_91 rfl rfl ?_
      refine x_iload_n dR_next_92 rfl ?_
      refine x_bipush (v := 97) dR_next_93 rfl ?_
      refine x_bipush (v := 122) dR_next_95 rfl ?_
      -- at 97: .invokestatic 151
      rw [tape hF1]
      refine x_callS_3 c_R_in ok_R_in ml_R_151 dR_next_97 rfl rfl ?_
      refine ⟨_, _, _, rfl, fun c1 => ?_, fun c1 => ?_⟩
      · have c1 : isLet (I 78 i) := c1
        refine x_if_eq (tgt := 217) dR_next_100 (by decide) (fun h => absurd h (by decide)) (fun _ => ?_)
        refine letters (z - i) i I1 _ _ (Nat.le_refl _) hi hF1 q44 (fun I2 hF2 h2 h3 => ?_)
        have eT : tokAt (I 78) z i = (((kindW (wordAt (I 78) i (letE (I 78) z (z - i) i))).1, i, (kindW (wordAt (I 78) i (letE (I 78) z (z - i) i))).2), letE (I 78) z (z - i) i) := by
          rw [tokAt, if_pos c1]
        rw [eT] at htok hend2
        have hlet := letE_all (I 78) z (z - i) i
        generalize letE (I 78) z (z - i) i = e at h2 htok hend2 hlet
        refine x_aload_n dR_next_146 rfl ?_
        refine x_aload_n dR_next_147 rfl ?_
        refine x_getI fl_R_174 rfl dR_next_148 rfl rfl ?_
        refine x_aload_n dR_next_151 rfl ?_
        refine x_getI fl_R_171 rfl dR_next_152 rfl rfl ?_
        -- at 155: .invokevirtual 183
        rw [h2, h3, q45]
        refine x_callV_2 c_R_wordFrom ok_R_wordFrom ml_R_183 dR_next_155 rfl rfl rfl rfl rfl ?_
        refine ⟨i, e, rfl, rfl, by have := hend2.1; dsimp only at this; omega, by have := hend2.2; dsimp only at this; omega, words hF2, fun k hk hk1 hk2 => ?_⟩
        rw [tape hF2] at hk1 hk2
        have ek : kindW (wordAt (I 78) i e) = kdW k := by
          by_cases c2 : k < 12
          · rw [(matW_iff c2 hlet).mp (hk1 c2)]
            exact kindW_i k c2
          · obtain rfl : k = 12 := by omega
            exact kindW_no (fun x hx y => hk2 rfl x hx ((matW_iff hx hlet).mpr y))
        rw [ek] at htok
        have fin : ∀ tok val : Int32, (tok = if k < 3 then 3 else if k < 9 then 2 else if k = 12 then -1 else 4 + nI k - 9) → (val = if k < 3 then nI k else nI k - 3) → X mR_next G (3, 0, 0) S1 (up2 I2 59 46 tok) L 211 [.ref 59, .int (I 78 i), .int (nI k)] [.int val, .ref 59] Post := by
          intro tok val htok2 hval
          refine x_putI fl_R_180 rfl dR_next_211 (by decide) rfl rfl rfl rfl ?_
          refine x_goto (tgt := 403) dR_next_214 (by decide) ?_
          -- at 403: .return_
          refine x_return dR_next_403 rfl ?_
          refine h1 _ e _ _ htok ((hF2.up (by decide) _).up (by decide) _) ?_ hend2.2 ?_ (fun _ => rfl)
          · rw [f59_n (by decide), f59_n (by decide)]; exact h2
          · refine RTok_w hk ?_ f59_s ?_ htok2 hval
            · rw [f59_n (by decide), f59_s]
            · rw [f59_n (by decide), f59_n (by decide), h3, q45]
        have mid : ∀ tok : Int32, (tok = if k < 3 then 3 else if k < 9 then 2 else if k = 12 then -1 else 4 + nI k - 9) → X mR_next G (3, 0, 0) S1 I2 L 195 [.ref 59, .int (I 78 i), .int (nI k)] [.int tok, .ref 59] Post := by
          intro tok htok2
          refine x_putI fl_R_177 rfl dR_next_195 (by decide) rfl rfl rfl rfl ?_
          refine x_aload_n dR_next_198 rfl ?_
          refine x_iload_n dR_next_199 rfl ?_
          refine x_iconst (v := 3) dR_next_200 rfl ?_
          -- at 201: .if_icmp .ge 7
          by_cases c3 : k < 3
          · refine x_icmp_ge (tgt := 208) dR_next_201 (by decide) (fun h => absurd h (nI_ge (b := 3) c3 (by omega))) (fun _ => ?_)
            refine x_iload_n dR_next_204 rfl ?_
            refine x_goto (tgt := 211) dR_next_205 (by decide) ?_
            -- at 211: .putfield 180
            exact fin tok _ htok2 (by rw [if_pos c3])
          · refine x_icmp_ge (tgt := 208) dR_next_201 (by decide) (fun _ => ?_) (fun h => absurd (nI_le (a := 3) (by omega) (by omega)) h)
            refine x_iload_n dR_next_208 rfl ?_
            refine x_iconst (v := 3) dR_next_209 rfl ?_
            refine x_isub dR_next_210 ?_
            -- at 211: .putfield 180
            exact fin tok _ htok2 (by rw [if_neg c3])
        refine x_istoren_2 dR_next_158 rfl rfl ?_
        refine x_aload_n dR_next_159 rfl ?_
        refine x_iload_n dR_next_160 rfl ?_
        refine x_iconst (v := 3) dR_next_161 rfl ?_
        -- at 162: .if_icmp .ge 7
        by_cases c3 : k < 3
        · refine x_icmp_ge (tgt := 169) dR_next_162 (by decide) (fun h => absurd h (nI_ge (b := 3) c3 (by omega))) (fun _ => ?_)
          refine x_iconst (v := 3) dR_next_165 rfl ?_
          refine x_goto (tgt := 195) dR_next_166 (by decide) ?_
          -- at 195: .putfield 177
          exact mid _ (by rw [if_pos c3])
        · refine x_icmp_ge (tgt := 169) dR_next_162 (by decide) (fun _ => ?_) (fun h => absurd (nI_le (a := 3) (by omega) (by omega)) h)
          refine x_iload_n dR_next_169 rfl ?_
          refine x_bipush (v := 9) dR_next_170 rfl ?_
          -- at 172: .if_icmp .ge 7
          by_cases c4 : k < 9
          · refine x_icmp_ge (tgt := 179) dR_next_172 (by decide) (fun h => absurd h (nI_ge (b := 9) c4 (by omega))) (fun _ => ?_)
            refine x_iconst (v := 2) dR_next_175 rfl ?_
            refine x_goto (tgt := 195) dR_next_176 (by decide) ?_
            -- at 195: .putfield 177
            exact mid _ (by rw [if_neg c3, if_pos c4])
          · refine x_icmp_ge (tgt := 179) dR_next_172 (by decide) (fun _ => ?_) (fun h => absurd (nI_le (a := 9) (by omega) (by omega)) h)
            refine x_iload_n dR_next_179 rfl ?_
            refine x_bipush (v := 12) dR_next_180 rfl ?_
            -- at 182: .if_icmp .ne 7
            by_cases c5 : k = 12
            · refine x_icmp_ne (tgt := 189) dR_next_182 (by decide) (fun h => absurd (by rw [c5]; rfl) h) (fun _ => ?_)
              refine x_iconst (v := -1) dR_next_185 rfl ?_
              refine x_goto (tgt := 195) dR_next_186 (by decide) ?_
              -- at 195: .putfield 177
              exact mid _ (by rw [if_neg c3, if_neg c4, if_pos c5])
            · refine x_icmp_ne (tgt := 189) dR_next_182 (by decide) (fun _ => ?_) (fun h => absurd h (fun y => c5 ((nI_eq (b := 12) (by omega) (by omega)).mp y)))
              refine x_iconst (v := 4) dR_next_189 rfl ?_
              refine x_iload_n dR_next_190 rfl ?_
              refine x_iadd dR_next_191 ?_
              refine x_bipush (v := 9) dR_next_192 rfl ?_
              refine x_isub dR_next_194 ?_
              -- at 195: .putfield 177
              exact mid _ (by rw [if_neg c3, if_neg c4, if_neg c5])
      · have c1 : ¬ isLet (I 78 i) := c1
        refine x_if_eq (tgt := 217) dR_next_100 (by decide) (fun _ => ?_) (fun h => absurd (by decide) h)
        refine x_iload_n dR_next_217 rfl ?_
        refine x_bipush (v := 48) dR_next_218 rfl ?_
        refine x_bipush (v := 57) dR_next_220 rfl ?_
        -- at 222: .invokestatic 151
        refine x_callS_3 c_R_in ok_R_in ml_R_151 dR_next_222 rfl rfl ?_
        refine ⟨_, _, _, rfl, fun c2 => ?_, fun c2 => ?_⟩
        · have c2 : isDig (I 78 i) := c2
          refine x_if_eq (tgt := 326) dR_next_225 (by decide) (fun h => absurd h (by decide)) (fun _ => ?_)
          refine x_iconst (v := 0) dR_next_228 rfl ?_
          refine x_istoren_2 dR_next_229 rfl rfl ?_
          -- at 230: .aload_n 0
          have h3 := digits i (z - i) i I1 (I 78 i) (Nat.le_refl _) (Nat.le_refl _) hi hF1 q44 (fun _ => by rw [q47, Nat.sub_self]; rfl)
          rw [Nat.sub_self] at h3
          refine h3 (fun I2 e hF2 he h2 h3 h4 => ?_)
          have eT : tokAt (I 78) z i = if 4 < e - i then ((1, i, 0), e) else ((2, i, numV (I 78) (e - i) i), e) := by
            rw [tokAt, if_neg c1, if_pos c2, ← he]
          have hle : i < e ∧ e ≤ z := by
            rw [eT] at hend2
            split at hend2 <;> exact hend2
          refine x_aload_n dR_next_309 rfl ?_
          refine x_iload_n dR_next_310 rfl ?_
          refine x_iconst (v := 4) dR_next_311 rfl ?_
          -- at 312: .if_icmp .le 7
          by_cases c3 : e - i ≤ 4
          · rw [if_neg (by omega)] at eT
            rw [eT] at htok
            refine x_icmp_le (tgt := 319) dR_next_312 (by decide) (fun _ => ?_) (fun h => absurd (nI_le (b := 4) c3 (by omega)) h)
            refine x_iconst (v := 1) dR_next_319 rfl ?_
            refine x_putI fl_R_177 rfl dR_next_320 (by decide) rfl rfl rfl rfl ?_
            refine x_goto (tgt := 403) dR_next_323 (by decide) ?_
            -- at 403: .return_
            refine x_return dR_next_403 rfl ?_
            refine h1 _ e _ _ htok (hF2.up (by decide) _) ?_ hle.2 ?_ (fun _ => rfl)
            · rw [f59_n (by decide)]; exact h2
            · refine RTok_of f59_s (fun _ => ?_) (fun y => absurd y (by decide)) (fun y => absurd y (by decide)) (fun y => absurd y (by decide)) ?_
              · rw [f59_n (by decide)]; exact h4 c3
              · rw [f59_n (by decide), h3, q45]
          · rw [if_pos (by omega)] at eT
            rw [eT] at htok
            refine x_icmp_le (tgt := 319) dR_next_312 (by decide) (fun h => absurd h (nI_ge (a := 4) (b := e - i) (by omega) (by omega))) (fun _ => ?_)
            refine x_iconst (v := -1) dR_next_315 rfl ?_
            refine x_goto (tgt := 320) dR_next_316 (by decide) ?_
            refine x_putI fl_R_177 rfl dR_next_320 (by decide) rfl rfl rfl rfl ?_
            refine x_goto (tgt := 403) dR_next_323 (by decide) ?_
            -- at 403: .return_
            refine x_return dR_next_403 rfl ?_
            refine h1 _ e _ _ htok (hF2.up (by decide) _) ?_ hle.2 ?_ (fun _ => rfl)
            · rw [f59_n (by decide)]; exact h2
            · refine RTok_n f59_s (Or.inr (Or.inl rfl)) ?_
              rw [f59_n (by decide), h3, q45]
        · have c2 : ¬ isDig (I 78 i) := c2
          have eT : tokAt (I 78) z i = ((if isSig (I 78 i) then I 78 i else 1, i, 0), i + 1) := by
            rw [tokAt, if_neg c1, if_neg c2]
          rw [eT] at htok
          refine x_if_eq (tgt := 326) dR_next_225 (by decide) (fun _ => ?_) (fun h => absurd (by decide) h)
          have fin : ∀ tok : Int32, tok = rtok (if isSig (I 78 i) then I 78 i else 1) → ∀ a2 : Int32, X mR_next G (3, 0, 0) S1 I1 L 390 [.ref 59, .int (I 78 i), .int a2] [.int tok, .ref 59] Post := by
            intro tok ht a2
            refine x_putI fl_R_177 rfl dR_next_390 (by decide) rfl rfl rfl rfl ?_
            refine x_aload_n dR_next_393 rfl ?_
            refine x_dup dR_next_394 rfl ?_
            refine x_getI fl_R_171 rfl dR_next_395 rfl rfl ?_
            -- at 398: .iconst 1
            rw [f59_n (by decide), q44]
            refine x_iconst (v := 1) dR_next_398 rfl ?_
            refine x_iadd dR_next_399 ?_
            refine x_putI fl_R_171 rfl dR_next_400 (by decide) rfl rfl rfl rfl ?_
            -- at 403: .return_
            refine x_return dR_next_403 rfl ?_
            refine h1 _ (i + 1) _ _ htok ((hF1.up (by decide) _).up (by decide) _) ?_ (by omega) ?_ (fun _ => rfl)
            · rw [f59_s, nI_1]
            · refine RTok_n ?_ ?_ ?_
              · rw [f59_n (by decide), f59_s, ht]
              · split
                · rename_i hs
                  exact Or.inr (Or.inr hs)
                · exact Or.inr (Or.inl rfl)
              · rw [f59_n (by decide), f59_n (by decide), q45]
          have yes : isSig (I 78 i) → X mR_next G (3, 0, 0) S1 I1 L 374 [.ref 59, .int (I 78 i), .null] [] Post := by
            intro hs
            refine x_iconst (v := 1) dR_next_374 rfl ?_
            refine x_goto (tgt := 379) dR_next_375 (by decide) ?_
            refine x_istoren_2 dR_next_379 rfl rfl ?_
            refine x_aload_n dR_next_380 rfl ?_
            refine x_iload_n dR_next_381 rfl ?_
            -- at 382: .ifCond .eq 7
            refine x_if_eq (tgt := 389) dR_next_382 (by decide) (fun h => absurd h (by decide)) (fun _ => ?_)
            refine x_iload_n dR_next_385 rfl ?_
            refine x_goto (tgt := 390) dR_next_386 (by decide) ?_
            -- at 390: .putfield 177
            exact fin _ (by rw [if_pos hs, rtok_sig hs]) _
          have no : ¬ isSig (I 78 i) → X mR_next G (3, 0, 0) S1 I1 L 378 [.ref 59, .int (I 78 i), .null] [] Post := by
            intro hs
            refine x_iconst (v := 0) dR_next_378 rfl ?_
            refine x_istoren_2 dR_next_379 rfl rfl ?_
            refine x_aload_n dR_next_380 rfl ?_
            refine x_iload_n dR_next_381 rfl ?_
            -- at 382: .ifCond .eq 7
            refine x_if_eq (tgt := 389) dR_next_382 (by decide) (fun _ => ?_) (fun h => absurd rfl h)
            refine x_iconst (v := -1) dR_next_389 rfl ?_
            -- at 390: .putfield 177
            exact fin _ (by rw [if_neg hs]; decide) _
          refine x_iload_n dR_next_326 rfl ?_
          refine x_bipush (v := 40) dR_next_327 rfl ?_
          -- at 329: .if_icmp .eq 45
          refine x_icmp_eq (tgt := 374) dR_next_329 (by decide) (fun d1 => ?_) (fun d1 => ?_)
          · exact yes (Or.inl d1)
          refine x_iload_n dR_next_332 rfl ?_
          refine x_bipush (v := 41) dR_next_333 rfl ?_
          -- at 335: .if_icmp .eq 39
          refine x_icmp_eq (tgt := 374) dR_next_335 (by decide) (fun d2 => ?_) (fun d2 => ?_)
          · exact yes (Or.inr (Or.inl d2))
          refine x_iload_n dR_next_338 rfl ?_
          refine x_bipush (v := 59) dR_next_339 rfl ?_
          -- at 341: .if_icmp .eq 33
          refine x_icmp_eq (tgt := 374) dR_next_341 (by decide) (fun d3 => ?_) (fun d3 => ?_)
          · exact yes (Or.inr (Or.inr (Or.inl d3)))
          refine x_iload_n dR_next_344 rfl ?_
          refine x_bipush (v := 43) dR_next_345 rfl ?_
          -- at 347: .if_icmp .eq 27
          refine x_icmp_eq (tgt := 374) dR_next_347 (by decide) (fun d4 => ?_) (fun d4 => ?_)
          · exact yes (Or.inr (Or.inr (Or.inr (Or.inl d4))))
          refine x_iload_n dR_next_350 rfl ?_
          refine x_bipush (v := 45) dR_next_351 rfl ?_
          -- at 353: .if_icmp .eq 21
          refine x_icmp_eq (tgt := 374) dR_next_353 (by decide) (fun d5 => ?_) (fun d5 => ?_)
          · exact yes (Or.inr (Or.inr (Or.inr (Or.inr (Or.inl d5)))))
          refine x_iload_n dR_next_356 rfl ?_
          refine x_bipush (v := 42) dR_next_357 rfl ?_
          -- at 359: .if_icmp .eq 15
          refine x_icmp_eq (tgt := 374) dR_next_359 (by decide) (fun d6 => ?_) (fun d6 => ?_)
          · exact yes (Or.inr (Or.inr (Or.inr (Or.inr (Or.inr (Or.inl d6))))))
          refine x_iload_n dR_next_362 rfl ?_
          refine x_bipush (v := 60) dR_next_363 rfl ?_
          -- at 365: .if_icmp .eq 9
          refine x_icmp_eq (tgt := 374) dR_next_365 (by decide) (fun d7 => ?_) (fun d7 => ?_)
          · exact yes (Or.inr (Or.inr (Or.inr (Or.inr (Or.inr (Or.inr (Or.inl d7)))))))
          refine x_iload_n dR_next_368 rfl ?_
          refine x_bipush (v := 61) dR_next_369 rfl ?_
          -- at 371: .if_icmp .ne 7
          refine x_icmp_ne (tgt := 378) dR_next_371 (by decide) (fun d8 => ?_) (fun d8 => ?_)
          · refine no ?_
            rintro (y | y | y | y | y | y | y | y)
            · exact d1 y
            · exact d2 y
            · exact d3 y
            · exact d4 y
            · exact d5 y
            · exact d6 y
            · exact d7 y
            · exact d8 y
          · exact yes (Or.inr (Or.inr (Or.inr (Or.inr (Or.inr (Or.inr (Or.inr d8)))))))
    · obtain rfl : i = z := by omega
      refine x_icmp_ne (tgt := 82) dR_next_78 (by decide) (fun h => absurd rfl h) (fun _ => ?_)
      refine x_return dR_next_81 rfl ?_
      have htok := tokS_end (f := I 78) (Nat.lt_irrefl i)
      rw [hT] at htok
      exact h1 I1 i _ _ htok hF1 q44 (Nat.le_refl _) (RTok_n (by rw [q46]; decide) (Or.inl rfl) q45) (fun y => absurd rfl y)
  -- blanks
  have blanks : ∀ (k i : Nat) (I' : IM), z - i ≤ k → i ≤ z → FrN [44, 45, 46, 47] I I' → I' 59 44 = nI i → tokS (I 78) z i = tokS (I 78) z a → X mR_next G (3, 0, 0) S1 I' L 0 [.ref 59, .null, .null] [] Post := by
    intro k
    induction k with
    | zero =>
      intro i I' hk hi hF hat hT
      refine x_aload_n dR_next_0 rfl ?_
      refine x_getI fl_R_171 rfl dR_next_1 rfl rfl ?_
      refine x_aload_n dR_next_4 rfl ?_
      refine x_getI fl_R_137 rfl dR_next_5 rfl rfl ?_
      -- at 8: .if_icmp .ge 44
      rw [hat, size hF]
      refine x_icmp_ge (tgt := 52) dR_next_8 (by decide) (fun _ => ?_) (fun h => absurd (by rw [show i = z by omega]; exact Int32.le_refl _) h)
      exact main i I' hi hF hat hT (fun y => absurd y (by omega))
    | succ k ih =>
      intro i I' hk hi hF hat hT
      by_cases c0 : i < z
      · have next : isBla (I 78 i) → X mR_next G (3, 0, 0) S1 I' L 39 [.ref 59, .null, .null] [] Post := by
          intro hb
          refine x_aload_n dR_next_39 rfl ?_
          refine x_dup dR_next_40 rfl ?_
          refine x_getI fl_R_171 rfl dR_next_41 rfl rfl ?_
          -- at 44: .iconst 1
          rw [hat]
          refine x_iconst (v := 1) dR_next_44 rfl ?_
          refine x_iadd dR_next_45 ?_
          refine x_putI fl_R_171 rfl dR_next_46 (by decide) rfl rfl rfl rfl ?_
          refine x_goto (tgt := 0) dR_next_49 (by decide) ?_
          -- at 0: .aload_n 0
          rw [nI_1]
          exact ih (i + 1) _ (by omega) (by omega) (hF.up (by decide) _) f59_s (by rw [← tokS_bla c0 hb]; exact hT)
        refine x_aload_n dR_next_0 rfl ?_
        refine x_getI fl_R_171 rfl dR_next_1 rfl rfl ?_
        refine x_aload_n dR_next_4 rfl ?_
        refine x_getI fl_R_137 rfl dR_next_5 rfl rfl ?_
        -- at 8: .if_icmp .ge 44
        rw [hat, size hF]
        refine x_icmp_ge (tgt := 52) dR_next_8 (by decide) (fun h => absurd h (nI_ge c0 (by omega))) (fun _ => ?_)
        refine x_aload_n dR_next_11 rfl ?_
        refine x_getR fl_R_68 rfl dR_next_12 rfl rfl rfl ?_
        refine x_aload_n dR_next_15 rfl ?_
        refine x_getI fl_R_171 rfl dR_next_16 rfl rfl ?_
        -- at 19: .iaload
        rw [hat]
        refine x_ialdJ (j := i) dR_next_19 rfl rfl (by first | rfl | (simp only [← nI_add, ← pk_mul]; rfl)) (by omega) ?_
        refine x_bipush (v := 32) dR_next_20 rfl ?_
        -- at 22: .if_icmp .eq 17
        rw [tape hF]
        refine x_icmp_eq (tgt := 39) dR_next_22 (by decide) (fun d1 => ?_) (fun d1 => ?_)
        · exact next (Or.inl d1)
        · refine x_aload_n dR_next_25 rfl ?_
          refine x_getR fl_R_68 rfl dR_next_26 rfl rfl rfl ?_
          refine x_aload_n dR_next_29 rfl ?_
          refine x_getI fl_R_171 rfl dR_next_30 rfl rfl ?_
          -- at 33: .iaload
          rw [hat]
          refine x_ialdJ (j := i) dR_next_33 rfl rfl (by first | rfl | (simp only [← nI_add, ← pk_mul]; rfl)) (by omega) ?_
          refine x_bipush (v := 10) dR_next_34 rfl ?_
          -- at 36: .if_icmp .ne 16
          rw [tape hF]
          refine x_icmp_ne (tgt := 52) dR_next_36 (by decide) (fun d2 => ?_) (fun d2 => ?_)
          · exact main i I' hi hF hat hT (fun _ y => y.elim d1 d2)
          · exact next (Or.inr d2)
      · refine x_aload_n dR_next_0 rfl ?_
        refine x_getI fl_R_171 rfl dR_next_1 rfl rfl ?_
        refine x_aload_n dR_next_4 rfl ?_
        refine x_getI fl_R_137 rfl dR_next_5 rfl rfl ?_
        -- at 8: .if_icmp .ge 44
        rw [hat, size hF]
        refine x_icmp_ge (tgt := 52) dR_next_8 (by decide) (fun _ => ?_) (fun h => absurd (by rw [show i = z by omega]; exact Int32.le_refl _) h)
        exact main i I' hi hF hat hT (fun y => absurd y c0)
  exact blanks (z - a) a I (Nat.le_refl _) haz FrN.rfl ha rfl
end
section
-- 79.rj
/-! the reference: signs held, codes put out -/
abbrev hcP (c : Int32) : Prop := c = 0 ∨ c = 11 ∨ c = 12 ∨ c = 13 ∨ c = 14 ∨ c = 15 ∨ c = 16 ∨ c = 17 ∨ c = 18 ∨ c = 19
def sp_R_rank : SpT := fun as S I L Post => ∃ c : Int32, as = [.int c] ∧ hcP c ∧ Post (some (.int (nI (rank c)))) S I L
set_option maxHeartbeats 4000000 in
set_option maxRecDepth 100000 in
theorem c_R_rank : Con mR_rank 2 0 0 sp_R_rank := by
  refine con_of_X rfl fun G as S I L Post hs => ?_
  obtain ⟨c, rfl, hc, h1⟩ := hs
  refine ⟨0, Nat.le_of_ble_eq_true rfl, ?_⟩
  show X mR_rank G _ S I L 0 [.int c] [] Post
  have fin : ∀ x : Int32, nI (rank c) = x → X mR_rank G (2, 0, 0) S I L 71 [.int c] [.int x] Post := by
    intro x hx
    refine x_ireturn dR_rank_71 rfl rfl ?_
    rw [← hx]
    exact h1
  refine x_iload_n dR_rank_0 rfl ?_
  -- at 1: .ifCond .ne 7
  refine x_if_ne (tgt := 8) dR_rank_1 (by decide) (fun c0 => ?_) (fun c0 => ?_)
  · refine x_iload_n dR_rank_8 rfl ?_
    refine x_bipush (v := 11) dR_rank_9 rfl ?_
    -- at 11: .if_icmp .ne 7
    refine x_icmp_ne (tgt := 18) dR_rank_11 (by decide) (fun c1 => ?_) (fun c1 => ?_)
    · refine x_iload_n dR_rank_18 rfl ?_
      refine x_bipush (v := 12) dR_rank_19 rfl ?_
      -- at 21: .if_icmp .ne 7
      refine x_icmp_ne (tgt := 28) dR_rank_21 (by decide) (fun c2 => ?_) (fun c2 => ?_)
      · refine x_iload_n dR_rank_28 rfl ?_
        refine x_bipush (v := 13) dR_rank_29 rfl ?_
        -- at 31: .if_icmp .ne 7
        refine x_icmp_ne (tgt := 38) dR_rank_31 (by decide) (fun c3 => ?_) (fun c3 => ?_)
        · refine x_iload_n dR_rank_38 rfl ?_
          refine x_bipush (v := 15) dR_rank_39 rfl ?_
          -- at 41: .if_icmp .gt 7
          refine x_icmp_gt (tgt := 48) dR_rank_41 (by decide) (fun c4 => ?_) (fun c4 => ?_)
          · refine x_iload_n dR_rank_48 rfl ?_
            refine x_bipush (v := 17) dR_rank_49 rfl ?_
            -- at 51: .if_icmp .gt 7
            refine x_icmp_gt (tgt := 58) dR_rank_51 (by decide) (fun c5 => ?_) (fun c5 => ?_)
            · refine x_iload_n dR_rank_58 rfl ?_
              refine x_bipush (v := 18) dR_rank_59 rfl ?_
              -- at 61: .if_icmp .ne 8
              refine x_icmp_ne (tgt := 69) dR_rank_61 (by decide) (fun c6 => ?_) (fun c6 => ?_)
              · refine x_bipush (v := 7) dR_rank_69 rfl ?_
                -- at 71: .ireturn
                refine fin 7 ?_
                revert c0 c1 c2 c3 c4 c5 c6
                rcases hc with rfl | rfl | rfl | rfl | rfl | rfl | rfl | rfl | rfl | rfl <;> decide
              · refine x_bipush (v := 6) dR_rank_64 rfl ?_
                refine x_goto (tgt := 71) dR_rank_66 (by decide) ?_
                -- at 71: .ireturn
                refine fin 6 ?_
                revert c6
                rcases hc with rfl | rfl | rfl | rfl | rfl | rfl | rfl | rfl | rfl | rfl <;> decide
            · refine x_iconst (v := 5) dR_rank_54 rfl ?_
              refine x_goto (tgt := 71) dR_rank_55 (by decide) ?_
              -- at 71: .ireturn
              refine fin 5 ?_
              revert c0 c1 c2 c3 c4 c5
              rcases hc with rfl | rfl | rfl | rfl | rfl | rfl | rfl | rfl | rfl | rfl <;> decide
          · refine x_iconst (v := 4) dR_rank_44 rfl ?_
            refine x_goto (tgt := 71) dR_rank_45 (by decide) ?_
            -- at 71: .ireturn
            refine fin 4 ?_
            revert c0 c1 c2 c3 c4
            rcases hc with rfl | rfl | rfl | rfl | rfl | rfl | rfl | rfl | rfl | rfl <;> decide
        · refine x_iconst (v := 3) dR_rank_34 rfl ?_
          refine x_goto (tgt := 71) dR_rank_35 (by decide) ?_
          -- at 71: .ireturn
          refine fin 3 ?_
          revert c3
          rcases hc with rfl | rfl | rfl | rfl | rfl | rfl | rfl | rfl | rfl | rfl <;> decide
      · refine x_iconst (v := 2) dR_rank_24 rfl ?_
        refine x_goto (tgt := 71) dR_rank_25 (by decide) ?_
        -- at 71: .ireturn
        refine fin 2 ?_
        revert c2
        rcases hc with rfl | rfl | rfl | rfl | rfl | rfl | rfl | rfl | rfl | rfl <;> decide
    · refine x_iconst (v := 1) dR_rank_14 rfl ?_
      refine x_goto (tgt := 71) dR_rank_15 (by decide) ?_
      -- at 71: .ireturn
      refine fin 1 ?_
      revert c1
      rcases hc with rfl | rfl | rfl | rfl | rfl | rfl | rfl | rfl | rfl | rfl <;> decide
  · refine x_iconst (v := 0) dR_rank_4 rfl ?_
    refine x_goto (tgt := 71) dR_rank_5 (by decide) ?_
    -- at 71: .ireturn
    refine fin 0 ?_
    rw [c0]
    rfl
/-- the codes put out of the text t, from a0 on -/
def Outs (f : Nat → Int32) (t a0 : Nat) (o : List Int32) : Prop := ∀ i, i < o.length → f (200 * t + (a0 + i)) = o.getD i 0
theorem Outs.app {f : Nat → Int32} {t a0 : Nat} {o : List Int32} (h : Outs f t a0 o) (c : Int32) : Outs (up1 f (200 * t + (a0 + o.length)) c) t a0 (o ++ [c]) := by
  intro i hi
  rw [List.length_append, List.length_singleton] at hi
  by_cases e : i = o.length
  · subst e
    rw [up1_s]
    simp
  · rw [up1_n _ _ (by omega), h i (by omega), List.getD_eq_getElem?_getD, List.getD_eq_getElem?_getD, List.getElem?_append_left (by omega)]
/-- the reference's state while it reads -/
def RS (I : IM) (t a0 : Nat) (h o : List Int32) : Prop := I 59 26 = nI t ∧ I 59 50 = nI h.length ∧ I 59 51 = nI (cnt h) ∧ I 59 52 = nI (a0 + o.length) ∧ Held (I 93) h ∧ Outs (I 79) t a0 o ∧ ∀ c ∈ h, hcP c
/-- what reading may touch: fields, codes of the text t from a0 on, what is held -/
def FrT (t a0 : Nat) (I I' : IM) : Prop := (∀ k, k ≠ 59 → k ≠ 79 → k ≠ 93 → I' k = I k) ∧ (∀ j, j ∉ [44, 45, 46, 47, 50, 51, 52] → I' 59 j = I 59 j) ∧ ∀ i, i < 200 * t + a0 → I' 79 i = I 79 i
theorem FrT.rfl {t a0 : Nat} {I : IM} : FrT t a0 I I := ⟨fun _ _ _ _ => Eq.refl _, fun _ _ => Eq.refl _, fun _ _ => Eq.refl _⟩
theorem FrT.tr {t a0 : Nat} {I I' I'' : IM} (h : FrT t a0 I I') (h2 : FrT t a0 I' I'') : FrT t a0 I I'' :=
  ⟨fun k a b c => (h2.1 k a b c).trans (h.1 k a b c), fun j hj => (h2.2.1 j hj).trans (h.2.1 j hj), fun i hi => (h2.2.2 i hi).trans (h.2.2 i hi)⟩
theorem FrT.up59 {t a0 : Nat} {I I' : IM} (h : FrT t a0 I I') {j : Nat} (hj : j ∈ [44, 45, 46, 47, 50, 51, 52]) (x : Int32) : FrT t a0 I (up2 I' 59 j x) := by
  refine ⟨fun k a b c => by rw [up2_n _ _ _ a]; exact h.1 k a b c, fun i hi => ?_, fun i hi => by rw [up2_n _ _ _ (by decide)]; exact h.2.2 i hi⟩
  rw [up2_s, up1_n]
  · exact h.2.1 i hi
  · rintro rfl
    exact hi hj
theorem FrT.up93 {t a0 : Nat} {I I' : IM} (h : FrT t a0 I I') (j : Nat) (x : Int32) : FrT t a0 I (up2 I' 93 j x) :=
  ⟨fun k a b c => by rw [up2_n _ _ _ c]; exact h.1 k a b c, fun j hj => by rw [up2_n _ _ _ (by decide)]; exact h.2.1 j hj, fun i hi => by rw [up2_n _ _ _ (by decide)]; exact h.2.2 i hi⟩
theorem FrT.up79 {t a0 : Nat} {I I' : IM} (h : FrT t a0 I I') {j : Nat} (hj : a0 ≤ j) (x : Int32) : FrT t a0 I (up2 I' 79 (200 * t + j) x) :=
  ⟨fun k a b c => by rw [up2_n _ _ _ b]; exact h.1 k a b c, fun j hj => by rw [up2_n _ _ _ (by decide)]; exact h.2.1 j hj, fun i hi => by rw [up2_s, up1_n _ _ (by omega)]; exact h.2.2 i hi⟩
theorem FrT.ofN {t a0 : Nat} {I I' : IM} (h : FrN [44, 45, 46, 47] I I') : FrT t a0 I I' :=
  ⟨fun k a _ _ => h.1 k a, fun j hj => h.2 j (fun z => hj (by simp at z ⊢; omega)), fun i _ => congrFun (h.1 79 (by decide)) i⟩
/-- the fields of the last token stay -/
def tokSame (I I' : IM) : Prop := ∀ j, j ∈ [44, 45, 46, 47] → I' 59 j = I 59 j
theorem RS.ofN {I I' : IM} {t a0 : Nat} {h o : List Int32} (hr : RS I t a0 h o) (hF : FrN [44, 45, 46, 47] I I') : RS I' t a0 h o := by
  obtain ⟨r1, r2, r3, r4, r5, r6, r7⟩ := hr
  exact ⟨(hF.2 26 (by decide)).trans r1, (hF.2 50 (by decide)).trans r2, (hF.2 51 (by decide)).trans r3, (hF.2 52 (by decide)).trans r4, by rw [hF.1 93 (by decide)]; exact r5, by rw [hF.1 79 (by decide)]; exact r6, r7⟩
def sp_R_puts : SpT := fun as S I L Post => ∃ (c : Int32) (t a0 : Nat) (h o : List Int32), as = [.ref 59, .int c] ∧ S = S1 ∧ RS I t a0 h o ∧ t < 6 ∧ a0 + o.length < 200 ∧ ∀ I' : IM, FrT t a0 I I' → tokSame I I' → RS I' t a0 h (o ++ [c]) → Post none S1 I' L
set_option maxHeartbeats 4000000 in
set_option maxRecDepth 100000 in
theorem c_R_puts : Con mR_puts 2 0 0 sp_R_puts := by
  refine con_of_X rfl fun G as S I L Post hs => ?_
  obtain ⟨c, t, a0, h, o, rfl, rfl, ⟨r1, r2, r3, r4, r5, r6, r7⟩, ht, hlen, h1⟩ := hs
  refine ⟨0, Nat.le_of_ble_eq_true rfl, ?_⟩
  show X mR_puts G _ S1 I L 0 [.ref 59, .int c] [] Post
  refine x_aload_n dR_puts_0 rfl ?_
  refine x_getR fl_R_71 rfl dR_puts_1 rfl rfl rfl ?_
  refine x_sipush (v := 200) dR_puts_4 rfl ?_
  refine x_aload_n dR_puts_7 rfl ?_
  refine x_getI fl_R_161 rfl dR_puts_8 rfl rfl ?_
  refine x_imul dR_puts_11 ?_
  refine x_aload_n dR_puts_12 rfl ?_
  refine x_getI fl_R_187 rfl dR_puts_13 rfl rfl ?_
  -- at 16: .iadd
  rw [r1, r4]
  refine x_iadd dR_puts_16 ?_
  refine x_iload_n dR_puts_17 rfl ?_
  refine x_iastJ dR_puts_18 rfl rfl (r200 t (a0 + o.length)) (by omega) ?_
  refine x_aload_n dR_puts_19 rfl ?_
  refine x_dup dR_puts_20 rfl ?_
  refine x_getI fl_R_187 rfl dR_puts_21 rfl rfl ?_
  -- at 24: .iconst 1
  have e : up2 I 79 (200 * t + (a0 + o.length)) c 59 52 = nI (a0 + o.length) := by rw [up2_n _ _ _ (by decide)]; exact r4
  rw [e]
  refine x_iconst (v := 1) dR_puts_24 rfl ?_
  refine x_iadd dR_puts_25 ?_
  refine x_putI fl_R_187 rfl dR_puts_26 (by decide) rfl rfl rfl rfl ?_
  -- at 29: .return_
  refine x_return dR_puts_29 rfl ?_
  refine h1 _ ((FrT.rfl.up79 (by omega) _).up59 (by decide) _) (fun j hj => ?_) ⟨?_, ?_, ?_, ?_, ?_, ?_, r7⟩
  · have : j ≠ 52 := by rintro rfl; exact absurd hj (by decide)
    rw [f59_n this, up2_n _ _ _ (by decide)]
  · rw [f59_n (by decide), up2_n _ _ _ (by decide)]; exact r1
  · rw [f59_n (by decide), up2_n _ _ _ (by decide)]; exact r2
  · rw [f59_n (by decide), up2_n _ _ _ (by decide)]; exact r3
  · rw [f59_s, nI_1, List.length_append]
    rfl
  · rw [up2_n _ _ _ (by decide), up2_n _ _ _ (by decide)]; exact r5
  · rw [up2_n _ _ _ (by decide), up2_s]
    exact r6.app c
def sp_R_holds : SpT := fun as S I L Post => ∃ (c : Int32) (t a0 : Nat) (h o : List Int32), as = [.ref 59, .int c] ∧ S = S1 ∧ hcP c ∧ h.length < 160 ∧ I 59 26 = nI t ∧ I 59 50 = nI h.length ∧ I 59 51 = nI (cnt (c :: h)) ∧ I 59 52 = nI (a0 + o.length) ∧ Held (I 93) h ∧ Outs (I 79) t a0 o ∧ (∀ c ∈ h, hcP c) ∧ ∀ I' : IM, FrT t a0 I I' → tokSame I I' → RS I' t a0 (c :: h) o → Post none S1 I' L
set_option maxHeartbeats 4000000 in
set_option maxRecDepth 100000 in
theorem c_R_holds : Con mR_holds 2 0 0 sp_R_holds := by
  refine con_of_X rfl fun G as S I L Post hs => ?_
  obtain ⟨c, t, a0, h, o, rfl, rfl, hc, hlen, r1, r2, r3, r4, r5, r6, r7, h1⟩ := hs
  refine ⟨0, Nat.le_of_ble_eq_true rfl, ?_⟩
  show X mR_holds G _ S1 I L 0 [.ref 59, .int c] [] Post
  refine x_aload_n dR_holds_0 rfl ?_
  refine x_getR fl_R_113 rfl dR_holds_1 rfl rfl rfl ?_
  refine x_aload_n dR_holds_4 rfl ?_
  refine x_getI fl_R_190 rfl dR_holds_5 rfl rfl ?_
  -- at 8: .iload_n 1
  rw [r2]
  refine x_iload_n dR_holds_8 rfl ?_
  refine x_iastJ (j := h.length) dR_holds_9 rfl rfl (by first | rfl | (simp only [← nI_add, ← pk_mul]; rfl)) (by omega) ?_
  refine x_aload_n dR_holds_10 rfl ?_
  refine x_dup dR_holds_11 rfl ?_
  refine x_getI fl_R_190 rfl dR_holds_12 rfl rfl ?_
  -- at 15: .iconst 1
  have e : up2 I 93 h.length c 59 50 = nI h.length := by rw [up2_n _ _ _ (by decide)]; exact r2
  rw [e]
  refine x_iconst (v := 1) dR_holds_15 rfl ?_
  refine x_iadd dR_holds_16 ?_
  refine x_putI fl_R_190 rfl dR_holds_17 (by decide) rfl rfl rfl rfl ?_
  -- at 20: .return_
  refine x_return dR_holds_20 rfl ?_
  refine h1 _ ((FrT.rfl.up93 _ _).up59 (by decide) _) (fun j hj => ?_) ⟨?_, ?_, ?_, ?_, ?_, ?_, ?_⟩
  · have : j ≠ 50 := by rintro rfl; exact absurd hj (by decide)
    rw [f59_n this, up2_n _ _ _ (by decide)]
  · rw [f59_n (by decide), up2_n _ _ _ (by decide)]; exact r1
  · rw [f59_s, nI_1]; rfl
  · rw [f59_n (by decide), up2_n _ _ _ (by decide)]; exact r3
  · rw [f59_n (by decide), up2_n _ _ _ (by decide)]; exact r4
  · rw [up2_n _ _ _ (by decide), up2_s]
    exact r5.push c
  · rw [up2_n _ _ _ (by decide), up2_n _ _ _ (by decide)]
    exact r6
  · intro x hx
    rcases List.mem_cons.mp hx with rfl | hx
    · exact hc
    · exact r7 x hx
end
section
-- 80.rk
/-! the reference: signs let go, signs between two -/
theorem rank_le (c : Int32) : rank c ≤ 7 := by
  unfold rank
  (repeat' split) <;> omega
theorem unw_len (r : Nat) : ∀ (h o : List Int32), (unw r h o).1.length + (unw r h o).2.length = h.length + o.length ∧ (unw r h o).1.length ≤ h.length ∧ cnt (unw r h o).1 ≤ cnt h := by
  intro h
  induction h with
  | nil => intro o; exact ⟨rfl, Nat.le_refl _, Nat.le_refl _⟩
  | cons c t ih =>
    intro o
    rw [unw]
    split
    · obtain ⟨i1, i2, i3⟩ := ih (o ++ [c])
      rw [List.length_append, List.length_singleton] at i1
      refine ⟨by rw [i1, List.length_cons]; omega, by rw [List.length_cons]; omega, ?_⟩
      rw [cnt]
      omega
    · exact ⟨rfl, Nat.le_refl _, Nat.le_refl _⟩
theorem unw_hc (r : Nat) : ∀ (h o : List Int32), (∀ c ∈ h, hcP c) → ∀ c ∈ (unw r h o).1, hcP c := by
  intro h
  induction h with
  | nil => intro o h; exact h
  | cons c t ih =>
    intro o h
    rw [unw]
    split
    · exact ih _ (fun x hx => h x (List.mem_cons_of_mem _ hx))
    · exact h
theorem cnt_sub {c : Int32} {t : List Int32} (h : ¬ c = 0) : nI (cnt (c :: t)) - (if c = 13 ∨ c = 19 then 1 else 0) = nI (cnt t) := by
  rw [cnt]
  by_cases e : c = 13 ∨ c = 19
  · rw [if_pos e, if_pos (show isOpn c from e.elim (fun y => Or.inr (Or.inl y)) (fun y => Or.inr (Or.inr y)))]
    exact nI_pred _
  · rw [if_neg e, if_neg (show ¬ isOpn c from fun y => y.elim h (fun z => e z)), Int32.sub_zero]
    rfl
def sp_R_unwinds : SpT := fun as S I L Post => ∃ (r t a0 : Nat) (h o : List Int32), as = [.ref 59, .int (nI r)] ∧ S = S1 ∧ 1 ≤ r ∧ r ≤ 7 ∧ RS I t a0 h o ∧ t < 6 ∧ a0 + o.length + h.length < 200 ∧ ∀ I' : IM, FrT t a0 I I' → tokSame I I' → RS I' t a0 (unw r h o).1 (unw r h o).2 → Post none S1 I' L
set_option maxHeartbeats 4000000 in
set_option maxRecDepth 100000 in
theorem c_R_unwinds : Con mR_unwinds 3 0 0 sp_R_unwinds := by
  refine con_of_X rfl fun G as S I L Post hs => ?_
  obtain ⟨r, t, a0, h, o, rfl, rfl, hr1, hr7, hrs, ht, hlen, h1⟩ := hs
  refine ⟨1, Nat.le_of_ble_eq_true rfl, ?_⟩
  show X mR_unwinds G _ S1 I L 0 [.ref 59, .int (nI r), .null] [] Post
  have loop : ∀ (h o : List Int32) (I' : IM) (a2 : Value), cat1at [a2] 1 = true → a0 + o.length + h.length < 200 → RS I' t a0 h o → FrT t a0 I I' → tokSame I I' → (∀ I' : IM, FrT t a0 I I' → tokSame I I' → RS I' t a0 (unw r h o).1 (unw r h o).2 → Post none S1 I' L) →
      X mR_unwinds G (3, 0, 0) S1 I' L 0 [.ref 59, .int (nI r), a2] [] Post := by
    intro h
    induction h with
    | nil =>
      intro o I' a2 q2 hl hrs hF hts h1
      refine x_aload_n dR_unwinds_0 rfl ?_
      refine x_getI fl_R_190 rfl dR_unwinds_1 rfl rfl ?_
      -- at 4: .ifCond .le 75
      rw [hrs.2.1]
      refine x_if_le (tgt := 79) dR_unwinds_4 (by decide) (fun _ => ?_) (fun h => absurd (show nI 0 ≤ (0 : Int32) from Int32.le_refl _) h)
      refine x_return dR_unwinds_79 rfl ?_
      exact h1 I' hF hts hrs
    | cons c t2 ih =>
      intro o I' a2 q2 hl hrs hF hts h1
      have hrs0 := hrs
      obtain ⟨r1, r2, r3, r4, r5, r6, r7⟩ := hrs
      rw [List.length_cons] at r2 hl
      have hc := r7 c (List.mem_cons_self)
      refine x_aload_n dR_unwinds_0 rfl ?_
      refine x_getI fl_R_190 rfl dR_unwinds_1 rfl rfl ?_
      -- at 4: .ifCond .le 75
      rw [r2]
      refine x_if_le (tgt := 79) dR_unwinds_4 (by decide) (fun h => absurd h (nI_ge (a := 0) (by omega) (by omega))) (fun _ => ?_)
      refine x_aload_n dR_unwinds_7 rfl ?_
      refine x_getR fl_R_113 rfl dR_unwinds_8 rfl rfl rfl ?_
      refine x_aload_n dR_unwinds_11 rfl ?_
      refine x_getI fl_R_190 rfl dR_unwinds_12 rfl rfl ?_
      -- at 15: .iconst 1
      rw [r2]
      refine x_iconst (v := 1) dR_unwinds_15 rfl ?_
      refine x_isub dR_unwinds_16 ?_
      -- at 17: .iaload
      refine x_eqi (y := nI t2.length) (nI_pred _) ?_
      refine x_ialdJ (j := t2.length) dR_unwinds_17 rfl rfl (by first | rfl | (simp only [← nI_add, ← pk_mul]; rfl)) (by omega) ?_
      -- at 18: .invokestatic 193
      rw [r5.top]
      refine x_callS_1 c_R_rank ok_R_rank ml_R_193 dR_unwinds_18 rfl rfl ?_
      refine ⟨c, rfl, hc, ?_⟩
      refine x_iload_n dR_unwinds_21 rfl ?_
      -- at 22: .if_icmp .lt 57
      by_cases c1 : r ≤ rank c
      · have c0 : ¬ c = 0 := by
          rintro rfl
          have : rank 0 = 0 := rfl
          omega
        refine x_icmp_lt (tgt := 79) dR_unwinds_22 (by decide) (fun h => absurd h (Int32.not_lt.mpr (nI_le c1 (by have := rank_le c; omega)))) (fun _ => ?_)
        refine x_aload_n dR_unwinds_25 rfl ?_
        refine x_dup dR_unwinds_26 rfl ?_
        refine x_getI fl_R_190 rfl dR_unwinds_27 rfl rfl ?_
        -- at 30: .iconst 1
        rw [r2]
        refine x_iconst (v := 1) dR_unwinds_30 rfl ?_
        refine x_isub dR_unwinds_31 ?_
        -- at 32: .putfield 190
        refine x_eqi (y := nI t2.length) (nI_pred _) ?_
        refine x_putI fl_R_190 rfl dR_unwinds_32 (by decide) rfl rfl rfl rfl ?_
        refine x_aload_n dR_unwinds_35 rfl ?_
        refine x_getR fl_R_113 rfl dR_unwinds_36 rfl rfl rfl ?_
        refine x_aload_n dR_unwinds_39 rfl ?_
        refine x_getI fl_R_190 rfl dR_unwinds_40 rfl rfl ?_
        -- at 43: .iaload
        rw [f59_s]
        refine x_ialdJ (j := t2.length) dR_unwinds_43 rfl rfl (by first | rfl | (simp only [← nI_add, ← pk_mul]; rfl)) (by omega) ?_
        -- at 44: .istore_n 2
        rw [up2_n _ _ _ (by decide), r5.top]
        refine x_istoren_2 dR_unwinds_44 rfl rfl ?_
        refine x_aload_n dR_unwinds_45 rfl ?_
        refine x_dup dR_unwinds_46 rfl ?_
        refine x_getI fl_R_196 rfl dR_unwinds_47 rfl rfl ?_
        -- at 50: .iload_n 2
        rw [f59_n (by decide), r3]
        have tail : ∀ x : Int32, x = (if c = 13 ∨ c = 19 then 1 else 0) → X mR_unwinds G (3, 0, 0) S1 (up2 I' 59 50 (nI t2.length)) L 67 [.ref 59, .int (nI r), .int c] [.int x, .int (nI (cnt (c :: t2))), .ref 59] Post := by
          intro x hx
          subst hx
          refine x_isub dR_unwinds_67 ?_
          -- at 68: .putfield 196
          refine x_eqi (y := nI (cnt t2)) (cnt_sub c0) ?_
          refine x_putI fl_R_196 rfl dR_unwinds_68 (by decide) rfl rfl rfl rfl ?_
          refine x_aload_n dR_unwinds_71 rfl ?_
          refine x_iload_n dR_unwinds_72 rfl ?_
          -- at 73: .invokevirtual 199
          have hrs2 : RS (up2 (up2 I' 59 50 (nI t2.length)) 59 51 (nI (cnt t2))) t a0 t2 o := by
            refine ⟨?_, ?_, ?_, ?_, ?_, ?_, fun x hx => r7 x (List.mem_cons_of_mem _ hx)⟩
            · rw [f59_n (by decide), f59_n (by decide)]; exact r1
            · rw [f59_n (by decide), f59_s]
            · rw [f59_s]
            · rw [f59_n (by decide), f59_n (by decide)]; exact r4
            · rw [up2_n _ _ _ (by decide), up2_n _ _ _ (by decide)]; exact r5.pop
            · rw [up2_n _ _ _ (by decide), up2_n _ _ _ (by decide)]; exact r6
          have hF2 : FrT t a0 I (up2 (up2 I' 59 50 (nI t2.length)) 59 51 (nI (cnt t2))) := (hF.up59 (by decide) _).up59 (by decide) _
          have hts2 : tokSame I (up2 (up2 I' 59 50 (nI t2.length)) 59 51 (nI (cnt t2))) := fun j hj => by
            have g1 : j ≠ 50 := by rintro rfl; exact absurd hj (by decide)
            have g2 : j ≠ 51 := by rintro rfl; exact absurd hj (by decide)
            rw [f59_n g2, f59_n g1]
            exact hts j hj
          generalize up2 (up2 I' 59 50 (nI t2.length)) 59 51 (nI (cnt t2)) = I2 at hrs2 hF2 hts2
          refine x_callV_1 c_R_puts ok_R_puts ml_R_199 dR_unwinds_73 rfl rfl rfl rfl rfl ?_
          refine ⟨c, t, a0, t2, o, rfl, rfl, hrs2, ht, by omega, fun I3 hF3 hts3 hrs3 => ?_⟩
          refine x_goto (tgt := 0) dR_unwinds_76 (by decide) ?_
          -- at 0: .aload_n 0
          refine ih (o ++ [c]) I3 _ rfl (by rw [List.length_append, List.length_singleton]; omega) hrs3 (hF2.tr hF3) (fun j hj => (hts3 j hj).trans (hts2 j hj)) (fun I4 g1 g2 g3 => h1 I4 g1 g2 ?_)
          rw [unw_pop c1]
          exact g3
        refine x_iload_n dR_unwinds_50 rfl ?_
        refine x_bipush (v := 13) dR_unwinds_51 rfl ?_
        -- at 53: .if_icmp .eq 9
        refine x_icmp_eq (tgt := 62) dR_unwinds_53 (by decide) (fun d1 => ?_) (fun d1 => ?_)
        · refine x_iconst (v := 1) dR_unwinds_62 rfl ?_
          refine x_goto (tgt := 67) dR_unwinds_63 (by decide) ?_
          -- at 67: .isub
          exact tail 1 (by rw [if_pos (Or.inl d1)])
        · refine x_iload_n dR_unwinds_56 rfl ?_
          refine x_bipush (v := 19) dR_unwinds_57 rfl ?_
          -- at 59: .if_icmp .ne 7
          refine x_icmp_ne (tgt := 66) dR_unwinds_59 (by decide) (fun d2 => ?_) (fun d2 => ?_)
          · refine x_iconst (v := 0) dR_unwinds_66 rfl ?_
            -- at 67: .isub
            exact tail 0 (by rw [if_neg (fun y => y.elim d1 d2)])
          · refine x_iconst (v := 1) dR_unwinds_62 rfl ?_
            refine x_goto (tgt := 67) dR_unwinds_63 (by decide) ?_
            -- at 67: .isub
            exact tail 1 (by rw [if_pos (Or.inr d2)])
      · refine x_icmp_lt (tgt := 79) dR_unwinds_22 (by decide) (fun _ => ?_) (fun h => absurd (nI_lt (by omega) (by omega)) h)
        refine x_return dR_unwinds_79 rfl ?_
        refine h1 I' hF hts ?_
        rw [unw_stop (show top (c :: t2) < r from (show rank c < r by omega))]
        exact hrs0
  exact loop h o I .null rfl hlen hrs FrT.rfl (fun _ _ => rfl) h1
def sp_R_opensOne : SpT := fun as S I L Post => ∃ (c : Int32) (t a0 : Nat) (h o : List Int32), as = [.ref 59, .int c] ∧ S = S1 ∧ isOpn c ∧ RS I t a0 h o ∧ h.length < 160 ∧ cnt h ≤ 5 ∧ (¬ cnt h < 5 → Post (some (.int 0)) S1 I L) ∧ (cnt h < 5 → ∀ I' : IM, FrT t a0 I I' → tokSame I I' → RS I' t a0 (c :: h) o → Post (some (.int 1)) S1 I' L)
set_option maxHeartbeats 4000000 in
set_option maxRecDepth 100000 in
theorem c_R_opensOne : Con mR_opensOne 3 0 0 sp_R_opensOne := by
  refine con_of_X rfl fun G as S I L Post hs => ?_
  obtain ⟨c, t, a0, h, o, rfl, rfl, hc, hrs, hlen, h5, h1, h2⟩ := hs
  refine ⟨0, Nat.le_of_ble_eq_true rfl, ?_⟩
  show X mR_opensOne G _ S1 I L 0 [.ref 59, .int c] [] Post
  obtain ⟨r1, r2, r3, r4, r5, r6, r7⟩ := hrs
  refine x_aload_n dR_opensOne_0 rfl ?_
  refine x_getI fl_R_196 rfl dR_opensOne_1 rfl rfl ?_
  refine x_iconst (v := 5) dR_opensOne_4 rfl ?_
  -- at 5: .if_icmp .ne 5
  rw [r3]
  by_cases c5 : cnt h < 5
  · refine x_icmp_ne (tgt := 10) dR_opensOne_5 (by decide) (fun _ => ?_) (fun h => absurd h (fun y => absurd ((nI_eq (b := 5) (by omega) (by omega)).mp y) (by omega)))
    refine x_aload_n dR_opensOne_10 rfl ?_
    refine x_dup dR_opensOne_11 rfl ?_
    refine x_getI fl_R_196 rfl dR_opensOne_12 rfl rfl ?_
    -- at 15: .iconst 1
    rw [r3]
    refine x_iconst (v := 1) dR_opensOne_15 rfl ?_
    refine x_iadd dR_opensOne_16 ?_
    refine x_putI fl_R_196 rfl dR_opensOne_17 (by decide) rfl rfl rfl rfl ?_
    refine x_aload_n dR_opensOne_20 rfl ?_
    refine x_iload_n dR_opensOne_21 rfl ?_
    -- at 22: .invokevirtual 203
    rw [nI_1]
    refine x_callV_1 c_R_holds ok_R_holds ml_R_203 dR_opensOne_22 rfl rfl rfl rfl rfl ?_
    have hcc : cnt h + 1 = cnt (c :: h) := by rw [cnt, if_pos hc]
    refine ⟨c, t, a0, h, o, rfl, rfl, hc.elim Or.inl (fun y => y.elim (fun y => Or.inr (Or.inr (Or.inr (Or.inl y)))) (fun y => Or.inr (Or.inr (Or.inr (Or.inr (Or.inr (Or.inr (Or.inr (Or.inr (Or.inr y)))))))))), hlen, ?_, ?_, ?_, ?_, ?_, ?_, r7, fun I' hF hts hrs => ?_⟩
    · rw [f59_n (by decide)]; exact r1
    · rw [f59_n (by decide)]; exact r2
    · rw [f59_s, hcc]
    · rw [f59_n (by decide)]; exact r4
    · rw [up2_n _ _ _ (by decide)]; exact r5
    · rw [up2_n _ _ _ (by decide)]; exact r6
    · refine x_iconst (v := 1) dR_opensOne_25 rfl ?_
      -- at 26: .ireturn
      refine x_ireturn dR_opensOne_26 rfl rfl ?_
      refine h2 c5 I' ((FrT.rfl.up59 (by decide) _).tr hF) (fun j hj => ?_) hrs
      have : j ≠ 51 := by rintro rfl; exact absurd hj (by decide)
      rw [hts j hj, f59_n this]
  · have e5 : nI (cnt h) = 5 := by
      rw [show cnt h = 5 by omega]
      rfl
    refine x_icmp_ne (tgt := 10) dR_opensOne_5 (by decide) (fun h => absurd e5 h) (fun _ => ?_)
    refine x_iconst (v := 0) dR_opensOne_8 rfl ?_
    -- at 9: .ireturn
    refine x_ireturn dR_opensOne_9 rfl rfl ?_
    exact h1 c5
abbrev bcP (c : Int32) : Prop := c = 11 ∨ c = 12 ∨ c = 14 ∨ c = 15 ∨ c = 16 ∨ c = 17 ∨ c = 18
theorem bc_hc {c : Int32} (h : bcP c) : hcP c ∧ ¬ isOpn c ∧ 1 ≤ lst c ∧ lst c ≤ 7 ∧ rank c ≤ 7 := by
  rcases h with rfl | rfl | rfl | rfl | rfl | rfl | rfl <;> decide
theorem top_zero {h : List Int32} (hh : h = []) : top h = 0 := by rw [hh]; rfl
def sp_R_between : SpT := fun as S I L Post => ∃ (c : Int32) (t a0 : Nat) (h o : List Int32), as = [.ref 59, .int c] ∧ S = S1 ∧ bcP c ∧ RS I t a0 h o ∧ t < 6 ∧ a0 + o.length + h.length < 160 ∧ (rank c = 4 ∧ top (unw 5 h o).1 = 4 → ∀ I' : IM, FrT t a0 I I' → tokSame I I' → Post (some (.int 0)) S1 I' L) ∧ (¬ (rank c = 4 ∧ top (unw 5 h o).1 = 4) → ∀ I' : IM, FrT t a0 I I' → tokSame I I' → RS I' t a0 (c :: (unw (lst c) h o).1) (unw (lst c) h o).2 → Post (some (.int 1)) S1 I' L)
set_option maxHeartbeats 4000000 in
set_option maxRecDepth 100000 in
theorem c_R_between : Con mR_between 4 0 0 sp_R_between := by
  refine con_of_X rfl fun G as S I L Post hs => ?_
  obtain ⟨c, t, a0, h, o, rfl, rfl, hc, hrs, ht, hlen, h1, h2⟩ := hs
  refine ⟨0, Nat.le_of_ble_eq_true rfl, ?_⟩
  show X mR_between G _ S1 I L 0 [.ref 59, .int c] [] Post
  obtain ⟨b1, b2, b3, b4, b5⟩ := bc_hc hc
  have e4 : nI (rank c) = 4 ↔ rank c = 4 := nI_eq (b := 4) (by omega) (by omega)
  have main : X mR_between G (4, 0, 0) S1 I L 17 [.ref 59, .int c] [.int (nI (lst c)), .ref 59] Post := by
    refine x_callV_1 c_R_unwinds ok_R_unwinds ml_R_206 dR_between_17 rfl rfl rfl rfl rfl ?_
    refine ⟨lst c, t, a0, h, o, rfl, rfl, b3, b4, hrs, ht, by omega, fun I1 hF1 hts1 hrs1 => ?_⟩
    obtain ⟨l1, l2, l3⟩ := unw_len (lst c) h o
    obtain ⟨r1, r2, r3, r4, r5, r6, r7⟩ := hrs1
    have hold : ¬ (rank c = 4 ∧ top (unw 5 h o).1 = 4) → X mR_between G (4, 0, 0) S1 I1 L 55 [.ref 59, .int c] [] Post := by
      intro hn
      refine x_aload_n dR_between_55 rfl ?_
      refine x_iload_n dR_between_56 rfl ?_
      -- at 57: .invokevirtual 203
      refine x_callV_1 c_R_holds ok_R_holds ml_R_203 dR_between_57 rfl rfl rfl rfl rfl ?_
      refine ⟨c, t, a0, (unw (lst c) h o).1, (unw (lst c) h o).2, rfl, rfl, b1, by omega, r1, r2, ?_, r4, r5, r6, r7, fun I2 hF2 hts2 hrs2 => ?_⟩
      · rw [cnt, if_neg b2]
        exact r3
      · refine x_iconst (v := 1) dR_between_60 rfl ?_
        -- at 61: .ireturn
        refine x_ireturn dR_between_61 rfl rfl ?_
        exact h2 hn I2 (hF1.tr hF2) (fun j hj => (hts2 j hj).trans (hts1 j hj)) hrs2
    refine x_iload_n dR_between_20 rfl ?_
    -- at 21: .invokestatic 193
    refine x_callS_1 c_R_rank ok_R_rank ml_R_193 dR_between_21 rfl rfl ?_
    refine ⟨c, rfl, b1, ?_⟩
    refine x_iconst (v := 4) dR_between_24 rfl ?_
    -- at 25: .if_icmp .ne 30
    by_cases c4 : rank c = 4
    · have el : lst c = 5 := by unfold lst; rw [if_pos c4]
      refine x_icmp_ne (tgt := 55) dR_between_25 (by decide) (fun h => absurd (e4.mpr c4) h) (fun _ => ?_)
      refine x_aload_n dR_between_28 rfl ?_
      refine x_getI fl_R_190 rfl dR_between_29 rfl rfl ?_
      -- at 32: .ifCond .le 23
      rw [r2]
      rw [el] at r2 r5 r7 l2
      cases hu : (unw 5 h o).1 with
      | nil =>
        rw [el, hu]
        refine x_if_le (tgt := 55) dR_between_32 (by decide) (fun _ => ?_) (fun h => absurd (show nI 0 ≤ (0 : Int32) from Int32.le_refl _) h)
        exact hold (fun y => by rw [hu] at y; exact absurd y.2 (by decide))
      | cons x xs =>
        rw [hu] at r2 r5 r7 h1 l2
        rw [hu] at hold
        rw [List.length_cons] at r2 l2
        rw [el, hu, List.length_cons]
        refine x_if_le (tgt := 55) dR_between_32 (by decide) (fun h => absurd h (nI_ge (a := 0) (by omega) (by omega))) (fun _ => ?_)
        refine x_aload_n dR_between_35 rfl ?_
        refine x_getR fl_R_113 rfl dR_between_36 rfl rfl rfl ?_
        refine x_aload_n dR_between_39 rfl ?_
        refine x_getI fl_R_190 rfl dR_between_40 rfl rfl ?_
        -- at 43: .iconst 1
        rw [r2]
        refine x_iconst (v := 1) dR_between_43 rfl ?_
        refine x_isub dR_between_44 ?_
        -- at 45: .iaload
        refine x_eqi (y := nI xs.length) (nI_pred _) ?_
        have hxl : xs.length < 160 := by omega
        refine x_ialdJ (j := xs.length) dR_between_45 rfl rfl (by first | rfl | (simp only [← nI_add, ← pk_mul]; rfl)) (by omega) ?_
        -- at 46: .invokestatic 193
        rw [r5.top]
        refine x_callS_1 c_R_rank ok_R_rank ml_R_193 dR_between_46 rfl rfl ?_
        refine ⟨x, rfl, r7 x List.mem_cons_self, ?_⟩
        refine x_iconst (v := 4) dR_between_49 rfl ?_
        -- at 50: .if_icmp .ne 5
        have ex : nI (rank x) = 4 ↔ rank x = 4 := nI_eq (b := 4) (by have := rank_le x; omega) (by omega)
        by_cases cx : rank x = 4
        · refine x_icmp_ne (tgt := 55) dR_between_50 (by decide) (fun h => absurd (ex.mpr cx) h) (fun _ => ?_)
          refine x_iconst (v := 0) dR_between_53 rfl ?_
          -- at 54: .ireturn
          refine x_ireturn dR_between_54 rfl rfl ?_
          exact h1 ⟨c4, cx⟩ I1 hF1 hts1
        · refine x_icmp_ne (tgt := 55) dR_between_50 (by decide) (fun _ => ?_) (fun h => absurd h (fun y => cx (ex.mp y)))
          exact hold (fun y => cx y.2)
    · refine x_icmp_ne (tgt := 55) dR_between_25 (by decide) (fun _ => ?_) (fun h => absurd h (fun y => c4 (e4.mp y)))
      exact hold (fun y => c4 y.1)
  refine x_aload_n dR_between_0 rfl ?_
  refine x_iload_n dR_between_1 rfl ?_
  -- at 2: .invokestatic 193
  refine x_callS_1 c_R_rank ok_R_rank ml_R_193 dR_between_2 rfl rfl ?_
  refine ⟨c, rfl, b1, ?_⟩
  refine x_iconst (v := 4) dR_between_5 rfl ?_
  -- at 6: .if_icmp .ne 7
  by_cases c4 : rank c = 4
  · refine x_icmp_ne (tgt := 13) dR_between_6 (by decide) (fun h => absurd (e4.mpr c4) h) (fun _ => ?_)
    refine x_iconst (v := 5) dR_between_9 rfl ?_
    refine x_goto (tgt := 17) dR_between_10 (by decide) ?_
    -- at 17: .invokevirtual 206
    have el : lst c = 5 := by unfold lst; rw [if_pos c4]
    rw [el] at main
    exact main
  · refine x_icmp_ne (tgt := 13) dR_between_6 (by decide) (fun _ => ?_) (fun h => absurd h (fun y => c4 (e4.mp y)))
    refine x_iload_n dR_between_13 rfl ?_
    -- at 14: .invokestatic 193
    refine x_callS_1 c_R_rank ok_R_rank ml_R_193 dR_between_14 rfl rfl ?_
    refine ⟨c, rfl, b1, ?_⟩
    have el : lst c = rank c := by unfold lst; rw [if_neg c4]
    rw [el] at main
    exact main
end
section
-- 81.rl
/-! the reference: a text is read -/
abbrev srtP (s : Int32) : Prop := s = 0 ∨ s = 1 ∨ s = 2 ∨ s = 3 ∨ s = 4 ∨ s = 5 ∨ s = 6 ∨ s = 7 ∨ s = 8 ∨ s = 9 ∨ isSig s
theorem kindW_srt (w : List Int32) : srtP (kindW w).1 := by
  by_cases h : ∃ i, i < 12 ∧ w = Wd i
  · obtain ⟨i, hi, rfl⟩ := h
    rw [kindW_i i hi]
    rcases (show i = 0 ∨ i = 1 ∨ i = 2 ∨ i = 3 ∨ i = 4 ∨ i = 5 ∨ i = 6 ∨ i = 7 ∨ i = 8 ∨ i = 9 ∨ i = 10 ∨ i = 11 by omega) with rfl | rfl | rfl | rfl | rfl | rfl | rfl | rfl | rfl | rfl | rfl | rfl <;> decide
  · rw [kindW_no (fun i hi e => h ⟨i, hi, e⟩)]
    exact Or.inr (Or.inl rfl)
theorem tokAt_srt (f : Nat → Int32) (z a : Nat) : srtP (tokAt f z a).1.1 := by
  unfold tokAt
  split
  · exact kindW_srt _
  · split
    · split
      · exact Or.inr (Or.inl rfl)
      · exact Or.inr (Or.inr (Or.inl rfl))
    · by_cases h : isSig (f a)
      · rw [if_pos h]
        exact Or.inr (Or.inr (Or.inr (Or.inr (Or.inr (Or.inr (Or.inr (Or.inr (Or.inr (Or.inr h)))))))))
      · rw [if_neg h]
        exact Or.inr (Or.inl rfl)
/-- the first token from a byte on -/
theorem tokS_hd (f : Nat → Int32) (z : Nat) : ∀ (n a : Nat), z - a ≤ n → ∀ t T, tokS f z a = t :: T → srtP t.1 ∧ TokOk t ∧ (¬ t.1 = 0 → a < z) ∧ (t.1 = 0 → T = []) := by
  have end_ : ∀ a t T, ¬ a < z → tokS f z a = t :: T → srtP t.1 ∧ TokOk t ∧ (¬ t.1 = 0 → a < z) ∧ (t.1 = 0 → T = []) := by
    intro a t T ha h
    rw [tokS_end ha] at h
    injection h with h1 h2
    subst h1
    exact ⟨Or.inl rfl, TokOk_1 z (Or.inl rfl), fun y => absurd rfl y, fun _ => h2.symm⟩
  intro n
  induction n with
  | zero =>
    intro a h t T hT
    exact end_ a t T (by omega) hT
  | succ n ih =>
    intro a h t T hT
    by_cases ha : a < z
    · by_cases hb : isBla (f a)
      · rw [tokS_bla ha hb] at hT
        obtain ⟨i1, i2, i3, i4⟩ := ih (a + 1) (by omega) t T hT
        exact ⟨i1, i2, fun _ => ha, i4⟩
      · rw [tokS_tok ha hb] at hT
        injection hT with h1 h2
        subst h1
        obtain ⟨k1, k2⟩ := tokAt_ok (f := f) ha
        exact ⟨tokAt_srt f z a, k1, fun _ => ha, fun y => absurd y k2⟩
    · exact end_ a t T ha hT
def sp_R_signOf : SpT := fun as S I L Post => ∃ s : Int32, as = [.ref 59] ∧ S = S1 ∧ srtP s ∧ I 59 46 = rtok s ∧ Post (some (.int (sgn s))) S1 I L
set_option maxHeartbeats 4000000 in
set_option maxRecDepth 100000 in
theorem c_R_signOf : Con mR_signOf 2 0 0 sp_R_signOf := by
  refine con_of_X rfl fun G as S I L Post hs => ?_
  obtain ⟨s, rfl, rfl, hs, ht, h1⟩ := hs
  refine ⟨0, Nat.le_of_ble_eq_true rfl, ?_⟩
  show X mR_signOf G _ S1 I L 0 [.ref 59] [] Post
  have fin : ∀ x : Int32, sgn s = x → X mR_signOf G (2, 0, 0) S1 I L 97 [.ref 59] [.int x] Post := by
    intro x hx
    refine x_ireturn dR_signOf_97 rfl rfl ?_
    rw [← hx]
    exact h1
  have cs : ∀ P : Int32 → Prop, P 0 → P 1 → P 2 → P 3 → P 4 → P 5 → P 6 → P 7 → P 8 → P 9 → P 40 → P 41 → P 59 → P 43 → P 45 → P 42 → P 60 → P 61 → P s := by
    intro P p0 p1 p2 p3 p4 p5 p6 p7 p8 p9 q0 q1 q2 q3 q4 q5 q6 q7
    rcases hs with rfl | rfl | rfl | rfl | rfl | rfl | rfl | rfl | rfl | rfl | rfl | rfl | rfl | rfl | rfl | rfl | rfl | rfl <;> assumption
  refine x_aload_n dR_signOf_0 rfl ?_
  refine x_getI fl_R_177 rfl dR_signOf_1 rfl rfl ?_
  refine x_iconst (v := 4) dR_signOf_4 rfl ?_
  -- at 5: .if_icmp .ne 8
  rw [ht]
  refine x_icmp_ne (tgt := 13) dR_signOf_5 (by decide) (fun c1 => ?_) (fun c1 => ?_)
  · refine x_aload_n dR_signOf_13 rfl ?_
    refine x_getI fl_R_177 rfl dR_signOf_14 rfl rfl ?_
    refine x_iconst (v := 5) dR_signOf_17 rfl ?_
    -- at 18: .if_icmp .ne 8
    rw [ht]
    refine x_icmp_ne (tgt := 26) dR_signOf_18 (by decide) (fun c2 => ?_) (fun c2 => ?_)
    · refine x_aload_n dR_signOf_26 rfl ?_
      refine x_getI fl_R_177 rfl dR_signOf_27 rfl rfl ?_
      refine x_bipush (v := 60) dR_signOf_30 rfl ?_
      -- at 32: .if_icmp .ne 8
      rw [ht]
      refine x_icmp_ne (tgt := 40) dR_signOf_32 (by decide) (fun c3 => ?_) (fun c3 => ?_)
      · refine x_aload_n dR_signOf_40 rfl ?_
        refine x_getI fl_R_177 rfl dR_signOf_41 rfl rfl ?_
        refine x_bipush (v := 61) dR_signOf_44 rfl ?_
        -- at 46: .if_icmp .ne 8
        rw [ht]
        refine x_icmp_ne (tgt := 54) dR_signOf_46 (by decide) (fun c4 => ?_) (fun c4 => ?_)
        · refine x_aload_n dR_signOf_54 rfl ?_
          refine x_getI fl_R_177 rfl dR_signOf_55 rfl rfl ?_
          refine x_bipush (v := 43) dR_signOf_58 rfl ?_
          -- at 60: .if_icmp .ne 8
          rw [ht]
          refine x_icmp_ne (tgt := 68) dR_signOf_60 (by decide) (fun c5 => ?_) (fun c5 => ?_)
          · refine x_aload_n dR_signOf_68 rfl ?_
            refine x_getI fl_R_177 rfl dR_signOf_69 rfl rfl ?_
            refine x_bipush (v := 45) dR_signOf_72 rfl ?_
            -- at 74: .if_icmp .ne 8
            rw [ht]
            refine x_icmp_ne (tgt := 82) dR_signOf_74 (by decide) (fun c6 => ?_) (fun c6 => ?_)
            · refine x_aload_n dR_signOf_82 rfl ?_
              refine x_getI fl_R_177 rfl dR_signOf_83 rfl rfl ?_
              refine x_bipush (v := 42) dR_signOf_86 rfl ?_
              -- at 88: .if_icmp .ne 8
              rw [ht]
              refine x_icmp_ne (tgt := 96) dR_signOf_88 (by decide) (fun c7 => ?_) (fun c7 => ?_)
              · refine x_iconst (v := -1) dR_signOf_96 rfl ?_
                -- at 97: .ireturn
                refine fin _ ?_
                have cc : ¬ (rtok s = 4 ∨ rtok s = 5 ∨ rtok s = 60 ∨ rtok s = 61 ∨ rtok s = 43 ∨ rtok s = 45 ∨ rtok s = 42) := by
                  rintro (y | y | y | y | y | y | y)
                  · exact c1 y
                  · exact c2 y
                  · exact c3 y
                  · exact c4 y
                  · exact c5 y
                  · exact c6 y
                  · exact c7 y
                revert cc
                refine cs (fun s => ¬ (rtok s = 4 ∨ rtok s = 5 ∨ rtok s = 60 ∨ rtok s = 61 ∨ rtok s = 43 ∨ rtok s = 45 ∨ rtok s = 42) → sgn s = -1) ?_ ?_ ?_ ?_ ?_ ?_ ?_ ?_ ?_ ?_ ?_ ?_ ?_ ?_ ?_ ?_ ?_ ?_ <;> decide
              · refine x_bipush (v := 18) dR_signOf_91 rfl ?_
                refine x_goto (tgt := 97) dR_signOf_93 (by decide) ?_
                -- at 97: .ireturn
                refine fin _ ?_
                revert c7
                refine cs (fun s => rtok s = 42 → sgn s = 18) ?_ ?_ ?_ ?_ ?_ ?_ ?_ ?_ ?_ ?_ ?_ ?_ ?_ ?_ ?_ ?_ ?_ ?_ <;> decide
            · refine x_bipush (v := 17) dR_signOf_77 rfl ?_
              refine x_goto (tgt := 97) dR_signOf_79 (by decide) ?_
              -- at 97: .ireturn
              refine fin _ ?_
              revert c6
              refine cs (fun s => rtok s = 45 → sgn s = 17) ?_ ?_ ?_ ?_ ?_ ?_ ?_ ?_ ?_ ?_ ?_ ?_ ?_ ?_ ?_ ?_ ?_ ?_ <;> decide
          · refine x_bipush (v := 16) dR_signOf_63 rfl ?_
            refine x_goto (tgt := 97) dR_signOf_65 (by decide) ?_
            -- at 97: .ireturn
            refine fin _ ?_
            revert c5
            refine cs (fun s => rtok s = 43 → sgn s = 16) ?_ ?_ ?_ ?_ ?_ ?_ ?_ ?_ ?_ ?_ ?_ ?_ ?_ ?_ ?_ ?_ ?_ ?_ <;> decide
        · refine x_bipush (v := 15) dR_signOf_49 rfl ?_
          refine x_goto (tgt := 97) dR_signOf_51 (by decide) ?_
          -- at 97: .ireturn
          refine fin _ ?_
          revert c4
          refine cs (fun s => rtok s = 61 → sgn s = 15) ?_ ?_ ?_ ?_ ?_ ?_ ?_ ?_ ?_ ?_ ?_ ?_ ?_ ?_ ?_ ?_ ?_ ?_ <;> decide
      · refine x_bipush (v := 14) dR_signOf_35 rfl ?_
        refine x_goto (tgt := 97) dR_signOf_37 (by decide) ?_
        -- at 97: .ireturn
        refine fin _ ?_
        revert c3
        refine cs (fun s => rtok s = 60 → sgn s = 14) ?_ ?_ ?_ ?_ ?_ ?_ ?_ ?_ ?_ ?_ ?_ ?_ ?_ ?_ ?_ ?_ ?_ ?_ <;> decide
    · refine x_bipush (v := 12) dR_signOf_21 rfl ?_
      refine x_goto (tgt := 97) dR_signOf_23 (by decide) ?_
      -- at 97: .ireturn
      refine fin _ ?_
      revert c2
      refine cs (fun s => rtok s = 5 → sgn s = 12) ?_ ?_ ?_ ?_ ?_ ?_ ?_ ?_ ?_ ?_ ?_ ?_ ?_ ?_ ?_ ?_ ?_ ?_ <;> decide
  · refine x_bipush (v := 11) dR_signOf_8 rfl ?_
    refine x_goto (tgt := 97) dR_signOf_10 (by decide) ?_
    -- at 97: .ireturn
    refine fin _ ?_
    revert c1
    refine cs (fun s => rtok s = 4 → sgn s = 11) ?_ ?_ ?_ ?_ ?_ ?_ ?_ ?_ ?_ ?_ ?_ ?_ ?_ ?_ ?_ ?_ ?_ ?_ <;> decide

theorem srt_all {s : Int32} (hs : srtP s) (P : Int32 → Prop) (p0 : P 0) (p1 : P 1) (p2 : P 2) (p3 : P 3) (p4 : P 4) (p5 : P 5) (p6 : P 6) (p7 : P 7) (p8 : P 8) (p9 : P 9) (q0 : P 40) (q1 : P 41) (q2 : P 59) (q3 : P 43) (q4 : P 45) (q5 : P 42) (q6 : P 60) (q7 : P 61) : P s := by
  rcases hs with rfl | rfl | rfl | rfl | rfl | rfl | rfl | rfl | rfl | rfl | rfl | rfl | rfl | rfl | rfl | rfl | rfl | rfl <;> assumption
theorem rt_1 {s : Int32} (hs : srtP s) : rtok s = 1 ↔ s = 2 := srt_all hs (fun s => rtok s = 1 ↔ s = 2) (by decide) (by decide) (by decide) (by decide) (by decide) (by decide) (by decide) (by decide) (by decide) (by decide) (by decide) (by decide) (by decide) (by decide) (by decide) (by decide) (by decide) (by decide)
theorem rt_2 {s : Int32} (hs : srtP s) : rtok s = 2 ↔ s = 3 := srt_all hs (fun s => rtok s = 2 ↔ s = 3) (by decide) (by decide) (by decide) (by decide) (by decide) (by decide) (by decide) (by decide) (by decide) (by decide) (by decide) (by decide) (by decide) (by decide) (by decide) (by decide) (by decide) (by decide)
theorem rt_6 {s : Int32} (hs : srtP s) : rtok s = 6 ↔ s = 9 := srt_all hs (fun s => rtok s = 6 ↔ s = 9) (by decide) (by decide) (by decide) (by decide) (by decide) (by decide) (by decide) (by decide) (by decide) (by decide) (by decide) (by decide) (by decide) (by decide) (by decide) (by decide) (by decide) (by decide)
theorem rt_45 {s : Int32} (hs : srtP s) : rtok s = 45 ↔ s = 45 := srt_all hs (fun s => rtok s = 45 ↔ s = 45) (by decide) (by decide) (by decide) (by decide) (by decide) (by decide) (by decide) (by decide) (by decide) (by decide) (by decide) (by decide) (by decide) (by decide) (by decide) (by decide) (by decide) (by decide)
theorem rt_40 {s : Int32} (hs : srtP s) : rtok s = 40 ↔ s = 40 := srt_all hs (fun s => rtok s = 40 ↔ s = 40) (by decide) (by decide) (by decide) (by decide) (by decide) (by decide) (by decide) (by decide) (by decide) (by decide) (by decide) (by decide) (by decide) (by decide) (by decide) (by decide) (by decide) (by decide)
theorem rt_59 {s : Int32} (hs : srtP s) : rtok s = 59 ↔ s = 59 := srt_all hs (fun s => rtok s = 59 ↔ s = 59) (by decide) (by decide) (by decide) (by decide) (by decide) (by decide) (by decide) (by decide) (by decide) (by decide) (by decide) (by decide) (by decide) (by decide) (by decide) (by decide) (by decide) (by decide)
theorem rt_41 {s : Int32} (hs : srtP s) : rtok s = 41 ↔ s = 41 := srt_all hs (fun s => rtok s = 41 ↔ s = 41) (by decide) (by decide) (by decide) (by decide) (by decide) (by decide) (by decide) (by decide) (by decide) (by decide) (by decide) (by decide) (by decide) (by decide) (by decide) (by decide) (by decide) (by decide)
theorem rank_0 {c : Int32} (h : hcP c) (hr : rank c < 1) : c = 0 := by
  rcases h with rfl | rfl | rfl | rfl | rfl | rfl | rfl | rfl | rfl | rfl
  · rfl
  all_goals exact absurd hr (by decide)
theorem unw_top (r : Nat) : ∀ (h o : List Int32) (c : Int32) (t : List Int32), (unw r h o).1 = c :: t → rank c < r := by
  intro h
  induction h with
  | nil => intro o c t e; exact absurd e (by simp [unw])
  | cons x xs ih =>
    intro o c t e
    rw [unw] at e
    split at e
    · exact ih _ c t e
    · rename_i hx
      injection e with e1 e2
      subst e1
      omega
theorem sgn_bc {s : Int32} (h : ¬ sgn s = -1) : bcP (sgn s) := by
  rcases sgn_ne h with rfl | rfl | rfl | rfl | rfl | rfl | rfl <;> decide
def sp_R_eRead : SpT := fun as S I L Post => ∃ a z t a0 : Nat, as = [.ref 59] ∧ S = S1 ∧ I 59 44 = nI a ∧ a ≤ z ∧ z ≤ 160 ∧ I 59 23 = nI z ∧ (∀ k, k < 96 → I 92 k = wordsL.getD k 0) ∧ I 59 26 = nI t ∧ t < 6 ∧ I 59 52 = nI a0 ∧ a0 + (tokS (I 78) z a).length ≤ z + 1 ∧
  (∀ (x : Nat) (I' : IM), sy (tokS (I 78) z a) true true [] [] = .inl x → FrT t a0 I I' → I' 59 45 = nI x → Post (some (.int 0)) S1 I' L) ∧
  (∀ (C : List Int32) (I' : IM) (a' : Nat), sy (tokS (I 78) z a) true true [] [] = .inr (C, tokS (I 78) z a') → FrT t a0 I I' → I' 59 44 = nI a' → a' ≤ z → I' 59 52 = nI (a0 + C.length) → Outs (I' 79) t a0 C → a0 + C.length + (tokS (I 78) z a').length ≤ z + 1 → Post (some (.int 1)) S1 I' L)
set_option maxHeartbeats 4000000 in
set_option maxRecDepth 100000 in
theorem c_R_eRead : Con mR_eRead 5 0 0 sp_R_eRead := by
  refine con_of_X rfl fun G as S I L Post hs => ?_
  obtain ⟨a, z, t, a0, rfl, rfl, hat, haz, hz, htz, hw, htx, ht6, hout, hlen, h1, h2⟩ := hs
  refine ⟨3, Nat.le_of_ble_eq_true rfl, ?_⟩
  show X mR_eRead G _ S1 I L 0 [.ref 59, .null, .null, .null] [] Post
  have loop : ∀ (n a : Nat) (w m : Bool) (h o : List Int32) (I' : IM) (i2 : Int32) (i3 : Value), (tokS (I 78) z a).length ≤ n → cat1at [i3] 1 = true → (w = true → i2 = if m then 1 else 0) → a ≤ z → I' 59 44 = nI a → FrT t a0 I I' → RS I' t a0 h o → a0 + o.length + h.length + (tokS (I 78) z a).length ≤ z + 1 → cnt h ≤ 5 → sy (tokS (I 78) z a) w m h o = sy (tokS (I 78) z a) w m h o → (w = false → m = false) →
      (∀ (x : Nat) (I' : IM), sy (tokS (I 78) z a) w m h o = .inl x → FrT t a0 I I' → I' 59 45 = nI x → Post (some (.int 0)) S1 I' L) →
      (∀ (C : List Int32) (I' : IM) (a' : Nat), sy (tokS (I 78) z a) w m h o = .inr (C, tokS (I 78) z a') → FrT t a0 I I' → I' 59 44 = nI a' → a' ≤ z → I' 59 52 = nI (a0 + C.length) → Outs (I' 79) t a0 C → a0 + C.length + (tokS (I 78) z a').length ≤ z + 1 → Post (some (.int 1)) S1 I' L) →
      X mR_eRead G (5, 0, 0) S1 I' L 14 [.ref 59, .int (if w then 1 else 0), .int i2, i3] [] Post := by
    intro n
    induction n with
    | zero =>
      intro a w m h o I' i2 i3 hn
      have := (tokS_good (I 78) z (z - a) a (Nat.le_refl _)).1.1
      omega
    | succ n ih =>
      intro a w m h o I' i2 i3 hn q3 hi2 haz hat hF hrs hlen hc5 _ hwm no yes
      have f78 : I' 78 = I 78 := hF.1 78 (by decide) (by decide) (by decide)
      refine x_aload_n dR_eRead_14 rfl ?_
      -- at 15: .invokevirtual 209
      refine x_callV_0 c_R_next ok_R_next ml_R_209 dR_eRead_15 rfl rfl rfl rfl rfl ?_
      refine ⟨a, z, rfl, rfl, hat, haz, hz, (hF.2.1 23 (by decide)).trans htz, fun k hk => by rw [hF.1 92 (by decide) (by decide) (by decide)]; exact hw k hk, fun I1 a' tk T hT hFN hat1 haz1 htok hTT => ?_⟩
      rw [f78] at hT hTT
      obtain ⟨s1, s2, s3, s4⟩ := tokS_hd (I 78) z (z - a) a (Nat.le_refl _) tk T hT
      have hF1 : FrT t a0 I I1 := hF.tr (FrT.ofN hFN)
      have hrs1 := hrs.ofN hFN
      obtain ⟨t1, t2, t3, t4, t5, t6⟩ := htok
      rw [hT] at no yes hlen hn
      rw [List.length_cons] at hlen hn
      -- a refusal here
      have rf : ∀ (I2 : IM), sy (tk :: T) w m h o = .inl tk.2.1 → FrT t a0 I1 I2 → tokSame I1 I2 → Post (some (.int 0)) S1 I2 L := fun I2 e hF2 hts => no _ I2 e (hF1.tr hF2) (by rw [hts 45 (by decide)]; exact t6)
      have Tlen : ¬ tk.1 = 0 → 1 ≤ T.length := fun y => by
        rw [hTT y]
        exact (tokS_good (I 78) z (z - a') a' (Nat.le_refl _)).1.1
      -- on to the next token
      have go : ∀ (w2 m2 : Bool) (h2 o2 : List Int32) (I2 : IM) (j2 : Int32) (j3 : Value), ¬ tk.1 = 0 → sy (tk :: T) w m h o = sy T w2 m2 h2 o2 → FrT t a0 I1 I2 → tokSame I1 I2 → RS I2 t a0 h2 o2 → o2.length + h2.length ≤ o.length + h.length + 1 → cnt h2 ≤ 5 → cat1at [j3] 1 = true → (w2 = true → j2 = if m2 then 1 else 0) → (w2 = false → m2 = false) → X mR_eRead G (5, 0, 0) S1 I2 L 14 [.ref 59, .int (if w2 then 1 else 0), .int j2, j3] [] Post := by
        intro w2 m2 h2 o2 I2 j2 j3 h0 e hF2 hts hrs2 hl2 hc2 q3 g2 g3
        rw [e, hTT h0] at no yes
        rw [hTT h0] at hlen hn
        exact ih a' w2 m2 h2 o2 I2 j2 j3 (by omega) q3 g2 haz1 (by rw [hts 44 (by decide)]; exact hat1) (hF1.tr hF2) hrs2 (by omega) hc2 rfl g3 no yes
      cases w with
      | true =>
        have hi2 := hi2 rfl
        refine x_iload_n dR_eRead_18 rfl ?_
        -- at 19: .ifCond .eq 131
        refine x_if_eq (tgt := 150) dR_eRead_19 (by decide) (fun h => absurd h (by decide)) (fun _ => ?_)
        -- a number or a name
        have lit : (tk.1 = 2 ∨ tk.1 = 3) → X mR_eRead G (5, 0, 0) S1 I1 L 38 [.ref 59, .int 1, .int i2, i3] [] Post := by
          intro hl
          have h0 : ¬ tk.1 = 0 := by rintro y; rw [y] at hl; exact absurd hl (by decide)
          have tail : X mR_eRead G (5, 0, 0) S1 I1 L 61 [.ref 59, .int 1, .int i2, i3] [.int (cod tk), .ref 59] Post := by
            refine x_callV_1 c_R_puts ok_R_puts ml_R_199 dR_eRead_61 rfl rfl rfl rfl rfl ?_
            refine ⟨cod tk, t, a0, h, o, rfl, rfl, hrs1, ht6, by omega, fun I2 hF2 hts2 hrs2 => ?_⟩
            refine x_aload_n dR_eRead_64 rfl ?_
            refine x_bipush (v := 7) dR_eRead_65 rfl ?_
            -- at 67: .invokevirtual 206
            refine x_callV_1 c_R_unwinds ok_R_unwinds ml_R_206 dR_eRead_67 rfl rfl rfl rfl rfl ?_
            refine ⟨7, t, a0, h, o ++ [cod tk], rfl, rfl, by omega, by omega, hrs2, ht6, by rw [List.length_append, List.length_singleton]; omega, fun I3 hF3 hts3 hrs3 => ?_⟩
            obtain ⟨l1, l2, l3⟩ := unw_len 7 h (o ++ [cod tk])
            rw [List.length_append, List.length_singleton] at l1
            refine x_iconst (v := 0) dR_eRead_70 rfl ?_
            refine x_istoren_1 dR_eRead_71 rfl rfl ?_
            refine x_goto (tgt := 14) dR_eRead_72 (by decide) ?_
            -- at 14: .aload_n 0
            exact go false false _ _ I3 i2 i3 h0 (sy_lit hl) (hF2.tr hF3) (fun j hj => (hts3 j hj).trans (hts2 j hj)) hrs3 (by omega) (by omega) q3 (fun y => absurd y (by decide)) (fun _ => rfl)
          refine x_aload_n dR_eRead_38 rfl ?_
          refine x_aload_n dR_eRead_39 rfl ?_
          refine x_getI fl_R_177 rfl dR_eRead_40 rfl rfl ?_
          refine x_iconst (v := 1) dR_eRead_43 rfl ?_
          -- at 44: .if_icmp .ne 13
          rw [t1]
          by_cases c1 : tk.1 = 2
          · refine x_icmp_ne (tgt := 57) dR_eRead_44 (by decide) (fun h => absurd ((rt_1 s1).mpr c1) h) (fun _ => ?_)
            refine x_ldc dR_eRead_47 cn_R_212 ?_
            refine x_aload_n dR_eRead_49 rfl ?_
            refine x_getI fl_R_180 rfl dR_eRead_50 rfl rfl ?_
            -- at 53: .iadd
            rw [t2 hl]
            refine x_iadd dR_eRead_53 ?_
            refine x_goto (tgt := 61) dR_eRead_54 (by decide) ?_
            -- at 61: .invokevirtual 199
            have e : cod tk = 100000 + tk.2.2 := by unfold cod; rw [if_pos c1]
            rw [e] at tail
            exact tail
          · refine x_icmp_ne (tgt := 57) dR_eRead_44 (by decide) (fun _ => ?_) (fun h => absurd h (fun y => c1 ((rt_1 s1).mp y)))
            refine x_aload_n dR_eRead_57 rfl ?_
            refine x_getI fl_R_180 rfl dR_eRead_58 rfl rfl ?_
            -- at 61: .invokevirtual 199
            rw [t2 hl]
            have e : cod tk = tk.2.2 := by unfold cod; rw [if_neg c1]
            rw [e] at tail
            exact tail
        refine x_aload_n dR_eRead_22 rfl ?_
        refine x_getI fl_R_177 rfl dR_eRead_23 rfl rfl ?_
        refine x_iconst (v := 1) dR_eRead_26 rfl ?_
        -- at 27: .if_icmp .eq 11
        rw [t1]
        by_cases c1 : tk.1 = 2
        · refine x_icmp_eq (tgt := 38) dR_eRead_27 (by decide) (fun _ => ?_) (fun h => absurd ((rt_1 s1).mpr c1) h)
          exact lit (Or.inl c1)
        refine x_icmp_eq (tgt := 38) dR_eRead_27 (by decide) (fun h => absurd h (fun y => c1 ((rt_1 s1).mp y))) (fun _ => ?_)
        refine x_aload_n dR_eRead_30 rfl ?_
        refine x_getI fl_R_177 rfl dR_eRead_31 rfl rfl ?_
        refine x_iconst (v := 2) dR_eRead_34 rfl ?_
        -- at 35: .if_icmp .ne 40
        rw [t1]
        by_cases c2 : tk.1 = 3
        · refine x_icmp_ne (tgt := 75) dR_eRead_35 (by decide) (fun h => absurd ((rt_2 s1).mpr c2) h) (fun _ => ?_)
          exact lit (Or.inr c2)
        refine x_icmp_ne (tgt := 75) dR_eRead_35 (by decide) (fun _ => ?_) (fun h => absurd h (fun y => c2 ((rt_2 s1).mp y)))
        -- after NOT
        have rest : ¬ (tk.1 = 9 ∧ m = true) → X mR_eRead G (5, 0, 0) S1 I1 L 99 [.ref 59, .int 1, .int i2, i3] [] Post := by
          intro h9
          refine x_aload_n dR_eRead_99 rfl ?_
          refine x_getI fl_R_177 rfl dR_eRead_100 rfl rfl ?_
          refine x_bipush (v := 45) dR_eRead_103 rfl ?_
          -- at 105: .if_icmp .ne 19
          rw [t1]
          by_cases c3 : tk.1 = 45
          · have h0 : ¬ tk.1 = 0 := by rw [c3]; decide
            have e := sy_neg (ts := T) (m := m) (h := h) (o := o) c3
            refine x_icmp_ne (tgt := 124) dR_eRead_105 (by decide) (fun h => absurd ((rt_45 s1).mpr c3) h) (fun _ => ?_)
            refine x_aload_n dR_eRead_108 rfl ?_
            refine x_bipush (v := 19) dR_eRead_109 rfl ?_
            -- at 111: .invokevirtual 213
            refine x_callV_1 c_R_opensOne ok_R_opensOne ml_R_213 dR_eRead_111 rfl rfl rfl rfl rfl ?_
            refine ⟨19, t, a0, h, o, rfl, rfl, by decide, hrs1, by have := Tlen h0; omega, hc5, fun g => ?_, fun g I2 hF2 hts2 hrs2 => ?_⟩
            · rw [if_neg g] at e
              refine x_if_ne (tgt := 119) dR_eRead_114 (by decide) (fun h => absurd rfl h) (fun _ => ?_)
              refine x_iconst (v := 0) dR_eRead_117 rfl ?_
              -- at 118: .ireturn
              refine x_ireturn dR_eRead_118 rfl rfl ?_
              exact rf I1 e FrT.rfl (fun _ _ => rfl)
            · rw [if_pos g] at e
              refine x_if_ne (tgt := 119) dR_eRead_114 (by decide) (fun _ => ?_) (fun h => absurd h (by decide))
              refine x_iconst (v := 0) dR_eRead_119 rfl ?_
              refine x_istoren_2 dR_eRead_120 rfl rfl ?_
              refine x_goto (tgt := 14) dR_eRead_121 (by decide) ?_
              -- at 14: .aload_n 0
              exact go true false (19 :: h) o I2 0 i3 h0 e hF2 hts2 hrs2 (by rw [List.length_cons]; omega) (by rw [cnt, if_pos (by decide)]; omega) q3 (fun _ => rfl) (fun y => absurd y (by decide))
          refine x_icmp_ne (tgt := 124) dR_eRead_105 (by decide) (fun _ => ?_) (fun h => absurd h (fun y => c3 ((rt_45 s1).mp y)))
          refine x_aload_n dR_eRead_124 rfl ?_
          refine x_getI fl_R_177 rfl dR_eRead_125 rfl rfl ?_
          refine x_bipush (v := 40) dR_eRead_128 rfl ?_
          -- at 130: .if_icmp .ne 18
          rw [t1]
          by_cases c4 : tk.1 = 40
          · have h0 : ¬ tk.1 = 0 := by rw [c4]; decide
            have e := sy_par (ts := T) (m := m) (h := h) (o := o) c4
            refine x_icmp_ne (tgt := 148) dR_eRead_130 (by decide) (fun h => absurd ((rt_40 s1).mpr c4) h) (fun _ => ?_)
            refine x_aload_n dR_eRead_133 rfl ?_
            refine x_iconst (v := 0) dR_eRead_134 rfl ?_
            -- at 135: .invokevirtual 213
            refine x_callV_1 c_R_opensOne ok_R_opensOne ml_R_213 dR_eRead_135 rfl rfl rfl rfl rfl ?_
            refine ⟨0, t, a0, h, o, rfl, rfl, by decide, hrs1, by have := Tlen h0; omega, hc5, fun g => ?_, fun g I2 hF2 hts2 hrs2 => ?_⟩
            · rw [if_neg g] at e
              refine x_if_ne (tgt := 143) dR_eRead_138 (by decide) (fun h => absurd rfl h) (fun _ => ?_)
              refine x_iconst (v := 0) dR_eRead_141 rfl ?_
              -- at 142: .ireturn
              refine x_ireturn dR_eRead_142 rfl rfl ?_
              exact rf I1 e FrT.rfl (fun _ _ => rfl)
            · rw [if_pos g] at e
              refine x_if_ne (tgt := 143) dR_eRead_138 (by decide) (fun _ => ?_) (fun h => absurd h (by decide))
              refine x_iconst (v := 1) dR_eRead_143 rfl ?_
              refine x_istoren_2 dR_eRead_144 rfl rfl ?_
              refine x_goto (tgt := 14) dR_eRead_145 (by decide) ?_
              -- at 14: .aload_n 0
              exact go true true (0 :: h) o I2 1 i3 h0 e hF2 hts2 hrs2 (by rw [List.length_cons]; omega) (by rw [cnt, if_pos (by decide)]; omega) q3 (fun _ => rfl) (fun y => absurd y (by decide))
          refine x_icmp_ne (tgt := 148) dR_eRead_130 (by decide) (fun _ => ?_) (fun h => absurd h (fun y => c4 ((rt_40 s1).mp y)))
          refine x_iconst (v := 0) dR_eRead_148 rfl ?_
          -- at 149: .ireturn
          refine x_ireturn dR_eRead_149 rfl rfl ?_
          refine rf I1 ?_ FrT.rfl (fun _ _ => rfl)
          cases m with
          | true => rw [sy_mn (fun y => h9 ⟨y, rfl⟩)]; exact sy_bad c1 c2 c3 c4
          | false => exact sy_bad c1 c2 c3 c4
        refine x_aload_n dR_eRead_75 rfl ?_
        refine x_getI fl_R_177 rfl dR_eRead_76 rfl rfl ?_
        refine x_bipush (v := 6) dR_eRead_79 rfl ?_
        -- at 81: .if_icmp .ne 18
        rw [t1]
        by_cases c9 : tk.1 = 9
        · have h0 : ¬ tk.1 = 0 := by rw [c9]; decide
          refine x_icmp_ne (tgt := 99) dR_eRead_81 (by decide) (fun h => absurd ((rt_6 s1).mpr c9) h) (fun _ => ?_)
          refine x_iload_n dR_eRead_84 rfl ?_
          -- at 85: .ifCond .eq 14
          cases m with
          | true =>
            have e := sy_not (ts := T) (h := h) (o := o) c9
            rw [hi2]
            refine x_if_eq (tgt := 99) dR_eRead_85 (by decide) (fun h => absurd h (by decide)) (fun _ => ?_)
            refine x_aload_n dR_eRead_88 rfl ?_
            refine x_bipush (v := 13) dR_eRead_89 rfl ?_
            -- at 91: .invokevirtual 213
            refine x_callV_1 c_R_opensOne ok_R_opensOne ml_R_213 dR_eRead_91 rfl rfl rfl rfl rfl ?_
            refine ⟨13, t, a0, h, o, rfl, rfl, by decide, hrs1, by have := Tlen h0; omega, hc5, fun g => ?_, fun g I2 hF2 hts2 hrs2 => ?_⟩
            · rw [if_neg g] at e
              refine x_if_ne (tgt := 14) dR_eRead_94 (by decide) (fun h => absurd rfl h) (fun _ => ?_)
              refine x_iconst (v := 0) dR_eRead_97 rfl ?_
              -- at 98: .ireturn
              refine x_ireturn dR_eRead_98 rfl rfl ?_
              exact rf I1 e FrT.rfl (fun _ _ => rfl)
            · rw [if_pos g] at e
              refine x_if_ne (tgt := 14) dR_eRead_94 (by decide) (fun _ => ?_) (fun h => absurd h (by decide))
              exact go true true (13 :: h) o I2 1 i3 h0 e hF2 hts2 hrs2 (by rw [List.length_cons]; omega) (by rw [cnt, if_pos (by decide)]; omega) q3 (fun _ => rfl) (fun y => absurd y (by decide))
          | false =>
            rw [hi2] at rest ⊢
            refine x_if_eq (tgt := 99) dR_eRead_85 (by decide) (fun _ => ?_) (fun h => absurd rfl h)
            exact rest (fun y => absurd y.2 (by decide))
        · refine x_icmp_ne (tgt := 99) dR_eRead_81 (by decide) (fun _ => ?_) (fun h => absurd h (fun y => c9 ((rt_6 s1).mp y)))
          exact rest (fun y => c9 y.1)
      | false =>
        have hwm := hwm rfl
        subst hwm
        refine x_iload_n dR_eRead_18 rfl ?_
        -- at 19: .ifCond .eq 131
        refine x_if_eq (tgt := 150) dR_eRead_19 (by decide) (fun _ => ?_) (fun h => absurd rfl h)
        refine x_aload_n dR_eRead_150 rfl ?_
        refine x_getI fl_R_177 rfl dR_eRead_151 rfl rfl ?_
        refine x_bipush (v := 59) dR_eRead_154 rfl ?_
        -- at 156: .if_icmp .ne 21
        rw [t1]
        by_cases c1 : tk.1 = 59
        · have h0 : ¬ tk.1 = 0 := by rw [c1]; decide
          have e := sy_end (ts := T) (h := h) (o := o) c1
          refine x_icmp_ne (tgt := 177) dR_eRead_156 (by decide) (fun h => absurd ((rt_59 s1).mpr c1) h) (fun _ => ?_)
          refine x_aload_n dR_eRead_159 rfl ?_
          refine x_iconst (v := 1) dR_eRead_160 rfl ?_
          -- at 161: .invokevirtual 206
          refine x_callV_1 c_R_unwinds ok_R_unwinds ml_R_206 dR_eRead_161 rfl rfl rfl rfl rfl ?_
          refine ⟨1, t, a0, h, o, rfl, rfl, by omega, by omega, hrs1, ht6, by omega, fun I2 hF2 hts2 hrs2 => ?_⟩
          obtain ⟨l1, l2, l3⟩ := unw_len 1 h o
          obtain ⟨r1, r2, r3, r4, r5, r6, r7⟩ := hrs2
          refine x_aload_n dR_eRead_164 rfl ?_
          refine x_getI fl_R_190 rfl dR_eRead_165 rfl rfl ?_
          -- at 168: .ifCond .ne 7
          rw [r2]
          by_cases c2 : (unw 1 h o).1 = []
          · rw [if_pos c2, hTT h0] at e
            rw [c2] at l1 ⊢
            refine x_if_ne (tgt := 175) dR_eRead_168 (by decide) (fun h => absurd rfl h) (fun _ => ?_)
            refine x_iconst (v := 1) dR_eRead_171 rfl ?_
            refine x_goto (tgt := 176) dR_eRead_172 (by decide) ?_
            -- at 176: .ireturn
            refine x_ireturn dR_eRead_176 rfl rfl ?_
            rw [hTT h0] at hlen yes
            have l1' : (unw 1 h o).2.length = h.length + o.length := by simpa using l1
            exact yes _ I2 a' e (hF1.tr hF2) (by rw [hts2 44 (by decide)]; exact hat1) haz1 r4 r6 (by omega)
          · rw [if_neg c2] at e
            refine x_if_ne (tgt := 175) dR_eRead_168 (by decide) (fun _ => ?_) (fun h => absurd h (fun y => c2 (List.length_eq_zero_iff.mp ((nI_eq (b := 0) (by omega) (by omega)).mp y))))
            refine x_iconst (v := 0) dR_eRead_175 rfl ?_
            -- at 176: .ireturn
            refine x_ireturn dR_eRead_176 rfl rfl ?_
            exact rf I2 e hF2 hts2
        refine x_icmp_ne (tgt := 177) dR_eRead_156 (by decide) (fun _ => ?_) (fun h => absurd h (fun y => c1 ((rt_59 s1).mp y)))
        refine x_aload_n dR_eRead_177 rfl ?_
        refine x_getI fl_R_177 rfl dR_eRead_178 rfl rfl ?_
        refine x_bipush (v := 41) dR_eRead_181 rfl ?_
        -- at 183: .if_icmp .ne 46
        rw [t1]
        by_cases c2 : tk.1 = 41
        · have h0 : ¬ tk.1 = 0 := by rw [c2]; decide
          have e := sy_cls (ts := T) (h := h) (o := o) c2
          refine x_icmp_ne (tgt := 229) dR_eRead_183 (by decide) (fun h => absurd ((rt_41 s1).mpr c2) h) (fun _ => ?_)
          refine x_aload_n dR_eRead_186 rfl ?_
          refine x_iconst (v := 1) dR_eRead_187 rfl ?_
          -- at 188: .invokevirtual 206
          refine x_callV_1 c_R_unwinds ok_R_unwinds ml_R_206 dR_eRead_188 rfl rfl rfl rfl rfl ?_
          refine ⟨1, t, a0, h, o, rfl, rfl, by omega, by omega, hrs1, ht6, by omega, fun I2 hF2 hts2 hrs2 => ?_⟩
          obtain ⟨l1, l2, l3⟩ := unw_len 1 h o
          have htop := unw_top 1 h o
          obtain ⟨r1, r2, r3, r4, r5, r6, r7⟩ := hrs2
          refine x_aload_n dR_eRead_191 rfl ?_
          refine x_getI fl_R_190 rfl dR_eRead_192 rfl rfl ?_
          -- at 195: .ifCond .ne 5
          rw [r2]
          generalize (unw 1 h o).2 = o1 at l1 r4 r6 e
          cases hu : (unw 1 h o).1 with
          | nil =>
            rw [hu, if_pos rfl] at e
            refine x_if_ne (tgt := 200) dR_eRead_195 (by decide) (fun h => absurd rfl h) (fun _ => ?_)
            refine x_iconst (v := 0) dR_eRead_198 rfl ?_
            -- at 199: .ireturn
            refine x_ireturn dR_eRead_199 rfl rfl ?_
            exact rf I2 e hF2 hts2
          | cons c h' =>
            rw [hu, if_neg (by simp), List.tail_cons] at e
            rw [hu] at l1 l2 l3 r2 r3 r5 r7
            have hc0 : c = 0 := rank_0 (r7 c List.mem_cons_self) (htop c h' hu)
            subst hc0
            rw [List.length_cons] at l1 l2 r2
            rw [cnt, if_pos (show isOpn 0 from Or.inl rfl)] at l3 r3
            rw [List.length_cons]
            refine x_if_ne (tgt := 200) dR_eRead_195 (by decide) (fun _ => ?_) (fun h => absurd h (fun y => absurd ((nI_eq (b := 0) (by omega) (by omega)).mp y) (by omega)))
            refine x_aload_n dR_eRead_200 rfl ?_
            refine x_dup dR_eRead_201 rfl ?_
            refine x_getI fl_R_190 rfl dR_eRead_202 rfl rfl ?_
            -- at 205: .iconst 1
            rw [r2]
            refine x_iconst (v := 1) dR_eRead_205 rfl ?_
            refine x_isub dR_eRead_206 ?_
            -- at 207: .putfield 190
            refine x_eqi (y := nI h'.length) (nI_pred _) ?_
            refine x_putI fl_R_190 rfl dR_eRead_207 (by decide) rfl rfl rfl rfl ?_
            refine x_aload_n dR_eRead_210 rfl ?_
            refine x_dup dR_eRead_211 rfl ?_
            refine x_getI fl_R_196 rfl dR_eRead_212 rfl rfl ?_
            -- at 215: .iconst 1
            rw [f59_n (by decide), r3]
            refine x_iconst (v := 1) dR_eRead_215 rfl ?_
            refine x_isub dR_eRead_216 ?_
            -- at 217: .putfield 196
            refine x_eqi (y := nI (cnt h')) (nI_pred _) ?_
            refine x_putI fl_R_196 rfl dR_eRead_217 (by decide) rfl rfl rfl rfl ?_
            refine x_aload_n dR_eRead_220 rfl ?_
            refine x_bipush (v := 7) dR_eRead_221 rfl ?_
            -- at 223: .invokevirtual 206
            have hrs3 : RS (up2 (up2 I2 59 50 (nI h'.length)) 59 51 (nI (cnt h'))) t a0 h' o1 := by
              refine ⟨?_, ?_, ?_, ?_, ?_, ?_, fun x hx => r7 x (List.mem_cons_of_mem _ hx)⟩
              · rw [f59_n (by decide), f59_n (by decide)]; exact r1
              · rw [f59_n (by decide), f59_s]
              · rw [f59_s]
              · rw [f59_n (by decide), f59_n (by decide)]; exact r4
              · rw [up2_n _ _ _ (by decide), up2_n _ _ _ (by decide)]; exact r5.pop
              · rw [up2_n _ _ _ (by decide), up2_n _ _ _ (by decide)]; exact r6
            have hF3 : FrT t a0 I1 (up2 (up2 I2 59 50 (nI h'.length)) 59 51 (nI (cnt h'))) := (hF2.up59 (by decide) _).up59 (by decide) _
            have hts3 : tokSame I1 (up2 (up2 I2 59 50 (nI h'.length)) 59 51 (nI (cnt h'))) := fun j hj => by
              have g1 : j ≠ 50 := by rintro rfl; exact absurd hj (by decide)
              have g2 : j ≠ 51 := by rintro rfl; exact absurd hj (by decide)
              rw [f59_n g2, f59_n g1]
              exact hts2 j hj
            generalize up2 (up2 I2 59 50 (nI h'.length)) 59 51 (nI (cnt h')) = I3 at hrs3 hF3 hts3
            refine x_callV_1 c_R_unwinds ok_R_unwinds ml_R_206 dR_eRead_223 rfl rfl rfl rfl rfl ?_
            refine ⟨7, t, a0, h', o1, rfl, rfl, by omega, by omega, hrs3, ht6, by omega, fun I4 hF4 hts4 hrs4 => ?_⟩
            obtain ⟨m1, m2, m3⟩ := unw_len 7 h' o1
            refine x_goto (tgt := 14) dR_eRead_226 (by decide) ?_
            -- at 14: .aload_n 0
            exact go false false _ _ I4 i2 i3 h0 e (hF3.tr hF4) (fun j hj => (hts4 j hj).trans (hts3 j hj)) hrs4 (by omega) (by omega) q3 (fun y => absurd y (by decide)) (fun _ => rfl)
        refine x_icmp_ne (tgt := 229) dR_eRead_183 (by decide) (fun _ => ?_) (fun h => absurd h (fun y => c2 ((rt_41 s1).mp y)))
        refine x_aload_n dR_eRead_229 rfl ?_
        -- at 230: .invokevirtual 216
        refine x_callV_0 c_R_signOf ok_R_signOf ml_R_216 dR_eRead_230 rfl rfl rfl rfl rfl ?_
        refine ⟨tk.1, rfl, rfl, s1, t1, ?_⟩
        refine x_istoren_3 dR_eRead_233 rfl rfl ?_
        refine x_iload_n dR_eRead_234 rfl ?_
        refine x_iconst (v := -1) dR_eRead_235 rfl ?_
        -- at 236: .if_icmp .eq 11
        by_cases c3 : sgn tk.1 = -1
        · refine x_icmp_eq (tgt := 247) dR_eRead_236 (by decide) (fun _ => ?_) (fun h => absurd c3 h)
          refine x_iconst (v := 0) dR_eRead_247 rfl ?_
          -- at 248: .ireturn
          refine x_ireturn dR_eRead_248 rfl rfl ?_
          exact rf I1 (sy_oth c1 c2 c3) FrT.rfl (fun _ _ => rfl)
        · have h0 : ¬ tk.1 = 0 := by
            intro y
            rw [y] at c3
            exact c3 (by decide)
          have hbc := sgn_bc c3
          have e : sy (tk :: T) false false h o = if rank (sgn tk.1) = 4 ∧ top (unw 5 h o).1 = 4 then .inl tk.2.1 else sy T true (decide (sgn tk.1 ≤ 12)) (sgn tk.1 :: (unw (lst (sgn tk.1)) h o).1) (unw (lst (sgn tk.1)) h o).2 := by
            rw [sy, if_neg (by decide), if_neg c1, if_neg c2, if_neg c3]
          refine x_icmp_eq (tgt := 247) dR_eRead_236 (by decide) (fun h => absurd h c3) (fun _ => ?_)
          refine x_aload_n dR_eRead_239 rfl ?_
          refine x_iload_n dR_eRead_240 rfl ?_
          -- at 241: .invokevirtual 219
          refine x_callV_1 c_R_between ok_R_between ml_R_219 dR_eRead_241 rfl rfl rfl rfl rfl ?_
          have tl := Tlen h0
          refine ⟨sgn tk.1, t, a0, h, o, rfl, rfl, hbc, hrs1, ht6, by omega, fun g I2 hF2 hts2 => ?_, fun g I2 hF2 hts2 hrs2 => ?_⟩
          · rw [if_pos g] at e
            refine x_if_ne (tgt := 249) dR_eRead_244 (by decide) (fun h => absurd rfl h) (fun _ => ?_)
            refine x_iconst (v := 0) dR_eRead_247 rfl ?_
            -- at 248: .ireturn
            refine x_ireturn dR_eRead_248 rfl rfl ?_
            exact rf I2 e hF2 hts2
          · rw [if_neg g] at e
            obtain ⟨l1, l2, l3⟩ := unw_len (lst (sgn tk.1)) h o
            have hb := (bc_hc hbc).2.1
            refine x_if_ne (tgt := 249) dR_eRead_244 (by decide) (fun _ => ?_) (fun h => absurd h (by decide))
            refine x_iconst (v := 1) dR_eRead_249 rfl ?_
            refine x_istoren_1 dR_eRead_250 rfl rfl ?_
            refine x_iload_n dR_eRead_251 rfl ?_
            refine x_bipush (v := 12) dR_eRead_252 rfl ?_
            -- at 254: .if_icmp .gt 7
            by_cases c4 : sgn tk.1 ≤ 12
            · refine x_icmp_gt (tgt := 261) dR_eRead_254 (by decide) (fun h => absurd h (Int32.not_lt.mpr c4)) (fun _ => ?_)
              refine x_iconst (v := 1) dR_eRead_257 rfl ?_
              refine x_goto (tgt := 262) dR_eRead_258 (by decide) ?_
              refine x_istoren_2 dR_eRead_262 rfl rfl ?_
              refine x_goto (tgt := 14) dR_eRead_263 (by decide) ?_
              -- at 14: .aload_n 0
              exact go true (decide (sgn tk.1 ≤ 12)) _ _ I2 1 _ h0 e hF2 hts2 hrs2 (by rw [List.length_cons]; omega) (by rw [cnt, if_neg hb]; omega) rfl (fun _ => by rw [if_pos (decide_eq_true c4)]) (fun y => absurd y (by decide))
            · refine x_icmp_gt (tgt := 261) dR_eRead_254 (by decide) (fun _ => ?_) (fun h => absurd (Int32.not_le.mp c4) h)
              refine x_iconst (v := 0) dR_eRead_261 rfl ?_
              refine x_istoren_2 dR_eRead_262 rfl rfl ?_
              refine x_goto (tgt := 14) dR_eRead_263 (by decide) ?_
              -- at 14: .aload_n 0
              exact go true (decide (sgn tk.1 ≤ 12)) _ _ I2 0 _ h0 e hF2 hts2 hrs2 (by rw [List.length_cons]; omega) (by rw [cnt, if_neg hb]; omega) rfl (fun _ => by rw [if_neg (fun y => c4 (of_decide_eq_true y))]) (fun y => absurd y (by decide))
  refine x_aload_n dR_eRead_0 rfl ?_
  refine x_iconst (v := 0) dR_eRead_1 rfl ?_
  refine x_putI fl_R_190 rfl dR_eRead_2 (by decide) rfl rfl rfl rfl ?_
  refine x_aload_n dR_eRead_5 rfl ?_
  refine x_iconst (v := 0) dR_eRead_6 rfl ?_
  refine x_putI fl_R_196 rfl dR_eRead_7 (by decide) rfl rfl rfl rfl ?_
  refine x_iconst (v := 1) dR_eRead_10 rfl ?_
  refine x_istoren_1 dR_eRead_11 rfl rfl ?_
  refine x_iconst (v := 1) dR_eRead_12 rfl ?_
  refine x_istoren_2 dR_eRead_13 rfl rfl ?_
  -- at 14: .aload_n 0
  have hF0 : FrT t a0 I (up2 (up2 I 59 50 0) 59 51 0) := (FrT.rfl.up59 (by decide) _).up59 (by decide) _
  have hrs0 : RS (up2 (up2 I 59 50 0) 59 51 0) t a0 [] [] := by
    refine ⟨?_, ?_, ?_, ?_, fun k hk => absurd hk (Nat.not_lt_zero k), fun i hi => absurd hi (Nat.not_lt_zero i), fun c hc => absurd hc List.not_mem_nil⟩
    · rw [f59_n (by decide), f59_n (by decide)]; exact htx
    · rw [f59_n (by decide), f59_s]; rfl
    · rw [f59_s]; rfl
    · rw [f59_n (by decide), f59_n (by decide)]; exact hout
  have hat0 : up2 (up2 I 59 50 0) 59 51 0 59 44 = nI a := by rw [f59_n (by decide), f59_n (by decide)]; exact hat
  exact loop _ a true true [] [] _ 1 .null (Nat.le_refl _) rfl (fun _ => rfl) haz hat0 hF0 hrs0 (by simpa using hlen) (Nat.zero_le _) rfl (fun y => absurd y (by decide)) h1 h2
end
section
-- 82.rm
/-! the reference's calls: text -/
theorem rt_0 {s : Int32} (hs : srtP s) : rtok s = 0 ↔ s = 0 := srt_all hs (fun s => rtok s = 0 ↔ s = 0) (by decide) (by decide) (by decide) (by decide) (by decide) (by decide) (by decide) (by decide) (by decide) (by decide) (by decide) (by decide) (by decide) (by decide) (by decide) (by decide) (by decide) (by decide)
theorem rt_3 {s : Int32} (hs : srtP s) : rtok s = 3 ↔ (s = 4 ∨ s = 5 ∨ s = 6) := srt_all hs (fun s => rtok s = 3 ↔ (s = 4 ∨ s = 5 ∨ s = 6)) (by decide) (by decide) (by decide) (by decide) (by decide) (by decide) (by decide) (by decide) (by decide) (by decide) (by decide) (by decide) (by decide) (by decide) (by decide) (by decide) (by decide) (by decide)
/-- what a call of text may touch -/
def FrX (t : Nat) (I I' : IM) : Prop := (∀ k, k ∉ [59, 79, 80, 93] → I' k = I k) ∧ (∀ j, j ∉ [23, 26, 44, 45, 46, 47, 50, 51, 52] → I' 59 j = I 59 j) ∧ (∀ i, i < 200 * t → I' 79 i = I 79 i) ∧ ∀ i, i < 4 * t → I' 80 i = I 80 i
theorem mk_0 (f : Nat → Int32) : mk 0 f = fun _ => 0 := by
  funext i
  simp [mk]
/-- what the reference's state is then -/
theorem rE_frx {I I' : IM} {t : Nat} (ht : t = tN (rE I)) (hk : t ≤ 6) (h3 : ∀ q, q < t → cl (I 80 (4 * q + 3)) ≤ 160) (hF : FrX t I I') (h23 : I' 59 23 = 0) :
    (∀ x, x ≠ 29 → x ≠ 30 → x ≠ 31 → rE I' x = clr (rE I) x) ∧ (∀ j, j ≠ 4 → rE I' 29 j = clr (rE I) 29 j) ∧ (∀ j, j < 4 * t → I' 80 j = rE I 30 j) ∧ (∀ j, j / 200 < t → (if j % 200 < cl (I' 80 (4 * (j / 200) + 3)) then I' 79 j else 0) = rE I 31 j) ∧ (∀ j, 4 * t ≤ j → rE I 30 j = 0) ∧ (∀ j, t ≤ j / 200 → rE I 31 j = 0) := by
  obtain ⟨f1, f2, f3, f4⟩ := hF
  have e26 : cl (I 59 26) = t := ht.symm
  have g : ∀ j, j ∉ [23, 26, 44, 45, 46, 47, 50, 51, 52] → I' 59 j = I 59 j := f2
  have cz : cl (0 : Int32) = 0 := rfl
  refine ⟨fun x h29 h30 h31 => ?_, fun j hj => ?_, fun j hj => ?_, fun j hj => ?_, fun j hj => ?_, fun j hj => ?_⟩
  · unfold clr
    by_cases h18 : x = 18
    · subst h18
      rw [upr_s]
      show mk (cl (I' 59 23)) (I' 78) = _
      rw [h23, cz, mk_0]
    · rw [upr_n _ _ h18, up2_n _ _ _ h29]
      unfold rE
      rw [g 3 (by decide), g 17 (by decide), g 28 (by decide), g 30 (by decide), g 31 (by decide), f1 60 (by decide), f1 61 (by decide), f1 62 (by decide), f1 63 (by decide), f1 64 (by decide), f1 65 (by decide), f1 66 (by decide), f1 67 (by decide), f1 68 (by decide), f1 69 (by decide), f1 70 (by decide), f1 71 (by decide), f1 72 (by decide), f1 73 (by decide), f1 74 (by decide), f1 75 (by decide), f1 76 (by decide), f1 77 (by decide), f1 81 (by decide), f1 82 (by decide), f1 83 (by decide), f1 84 (by decide), f1 85 (by decide), f1 86 (by decide), f1 87 (by decide), f1 88 (by decide), f1 89 (by decide), f1 90 (by decide)]
      split <;> first | rfl | (exfalso; omega)
  · unfold clr
    rw [upr_n _ _ (by decide), up2_s]
    show rSc I' j = up1 (rSc I) 6 0 j
    by_cases h6 : j = 6
    · subst h6
      rw [up1_s]
      exact h23
    · rw [up1_n _ _ h6]
      unfold rSc
      rw [g 28 (by decide), g 29 (by decide)]
      split <;> first | exact g _ (by decide) | rfl | (exfalso; omega)
  · rw [f4 j hj]
    exact (mk_lt (by rw [e26]; exact hj)).symm
  · rw [f4 _ (by omega)]
    show _ = if j / 200 < cl (I 59 26) ∧ j % 200 < cl (I 80 (4 * (j / 200) + 3)) then I 79 j else 0
    rw [e26]
    by_cases c : j % 200 < cl (I 80 (4 * (j / 200) + 3))
    · rw [if_pos c, if_pos ⟨hj, c⟩]
      exact f3 j (by omega)
    · rw [if_neg c, if_neg (fun y => c y.2)]
  · show mk (4 * cl (I 59 26)) (I 80) j = 0
    unfold mk
    rw [e26, if_neg (by omega)]
  · show (if j / 200 < cl (I 59 26) ∧ j % 200 < cl (I 80 (4 * (j / 200) + 3)) then I 79 j else 0) = 0
    rw [e26, if_neg (fun y => by omega)]
theorem rE_no {I I' : IM} {t : Nat} (ht : t = tN (rE I)) (hk : t ≤ 6) (h3 : ∀ q, q < t → cl (I 80 (4 * q + 3)) ≤ 160) (hF : FrX t I I') (h23 : I' 59 23 = 0) (h26 : I' 59 26 = nI t) (h4 : rE I 29 4 = nI t) : rE I' = clr (rE I) := by
  obtain ⟨a1, a2, a3, a4, a5, a6⟩ := rE_frx ht hk h3 hF h23
  have e26 : cl (I' 59 26) = t := by rw [h26]; exact cl_nI (by omega)
  have cq : ∀ x, x ≠ 29 → x ≠ 18 → clr (rE I) x = rE I x := fun x h1 h2 => by unfold clr; rw [upr_n _ _ h2, up2_n _ _ _ h1]
  funext x
  by_cases h29 : x = 29
  · subst h29
    funext j
    by_cases h : j = 4
    · subst h
      unfold clr
      rw [upr_n _ _ (by decide), up2_s, up1_n _ _ (by decide), h4]
      exact h26
    · exact a2 j h
  · by_cases h30 : x = 30
    · subst h30
      rw [cq 30 (by decide) (by decide)]
      funext j
      show mk (4 * cl (I' 59 26)) (I' 80) j = _
      rw [e26]
      by_cases h : j < 4 * t
      · rw [mk_lt h]; exact a3 j h
      · unfold mk
        rw [if_neg h, a5 j (by omega)]
    · by_cases h31 : x = 31
      · subst h31
        rw [cq 31 (by decide) (by decide)]
        funext j
        show (if j / 200 < cl (I' 59 26) ∧ j % 200 < cl (I' 80 (4 * (j / 200) + 3)) then I' 79 j else 0) = _
        rw [e26]
        by_cases h : j / 200 < t
        · rw [← a4 j h]
          by_cases c : j % 200 < cl (I' 80 (4 * (j / 200) + 3))
          · rw [if_pos c, if_pos ⟨h, c⟩]
          · rw [if_neg c, if_neg (fun y => c y.2)]
        · rw [if_neg (fun y => h y.1), a6 j (by omega)]
      · exact a1 x h29 h30 h31
theorem rE_yes {I I' : IM} {t : Nat} {a b c : List Int32} (ht : t = tN (rE I)) (hk : t < 6) (h3 : ∀ q, q < t → cl (I 80 (4 * q + 3)) ≤ 160) (hF : FrX t I I') (h23 : I' 59 23 = 0) (h26 : I' 59 26 = nI t + 1) (hs : ∀ r, r < 4 → I' 80 (4 * t + r) = txA a b c r) (hlen : a.length + b.length + c.length ≤ 160) (ho : ∀ i, i < a.length + b.length + c.length → I' 79 (200 * t + i) = (a ++ b ++ c).getD i 0) : rE I' = addT (clr (rE I)) t a b c := by
  obtain ⟨a1, a2, a3, a4, a5, a6⟩ := rE_frx ht (by omega) h3 hF h23
  have e26 : cl (I' 59 26) = t + 1 := by rw [h26, nI_1]; exact cl_nI (by omega)
  have cq : ∀ x, x ≠ 29 → x ≠ 18 → clr (rE I) x = rE I x := fun x h1 h2 => by unfold clr; rw [upr_n _ _ h2, up2_n _ _ _ h1]
  have e3 : cl (I' 80 (4 * t + 3)) = a.length + b.length + c.length := by
    rw [hs 3 (by omega)]
    exact cl_nI (by omega)
  funext x
  unfold addT
  by_cases h29 : x = 29
  · subst h29
    rw [up2_s, upr_n _ _ (by decide), upr_n _ _ (by decide)]
    funext j
    by_cases h : j = 4
    · subst h
      rw [up1_s]
      exact h26
    · rw [up1_n _ _ h]
      exact a2 j h
  · rw [up2_n _ _ _ h29]
    by_cases h31 : x = 31
    · subst h31
      rw [upr_s, cq 31 (by decide) (by decide)]
      funext j
      show (if j / 200 < cl (I' 59 26) ∧ j % 200 < cl (I' 80 (4 * (j / 200) + 3)) then I' 79 j else 0) = _
      rw [e26]
      by_cases h : j / 200 < t
      · rw [if_neg (c := j / 200 = t ∧ j % 200 < a.length + b.length + c.length) (fun y => by omega), ← a4 j h]
        by_cases d : j % 200 < cl (I' 80 (4 * (j / 200) + 3))
        · rw [if_pos d, if_pos ⟨by omega, d⟩]
        · rw [if_neg d, if_neg (fun y => d y.2)]
      · by_cases h2 : j / 200 = t
        · rw [h2, e3]
          by_cases d : j % 200 < a.length + b.length + c.length
          · rw [if_pos ⟨by omega, d⟩, if_pos ⟨rfl, d⟩]
            have := ho (j % 200) d
            rw [show 200 * t + j % 200 = j by omega] at this
            exact this
          · rw [if_neg (fun y => d y.2), if_neg (fun y => d y.2), a6 j (by omega)]
        · rw [if_neg (fun y => by omega), if_neg (fun y => h2 y.1), a6 j (by omega)]
    · rw [upr_n _ _ h31]
      by_cases h30 : x = 30
      · subst h30
        rw [upr_s, cq 30 (by decide) (by decide)]
        funext j
        show mk (4 * cl (I' 59 26)) (I' 80) j = _
        rw [e26]
        by_cases h : j < 4 * t
        · rw [mk_lt (by omega), if_neg (fun y => by omega)]
          exact a3 j h
        · by_cases h2 : j / 4 = t
          · rw [mk_lt (by omega), if_pos h2]
            have := hs (j % 4) (by omega)
            rw [show 4 * t + j % 4 = j by omega] at this
            exact this
          · unfold mk
            rw [if_neg (by omega), if_neg h2, a5 j (by omega)]
      · rw [upr_n _ _ h30]
        exact a1 x h29 h30 h31
/-- what one of the three parts may touch -/
def FrS (t a0 k : Nat) (I I' : IM) : Prop := (∀ x, x ∉ [59, 79, 80, 93] → I' x = I x) ∧ (∀ j, j ∉ [44, 45, 46, 47, 50, 51, 52] → I' 59 j = I 59 j) ∧ (∀ i, i < 200 * t + a0 → I' 79 i = I 79 i) ∧ ∀ i, i ≠ 4 * t + k → I' 80 i = I 80 i
theorem FrS.ofT {t a0 k : Nat} {I I' : IM} (h : FrT t a0 I I') : FrS t a0 k I I' :=
  ⟨fun x hx => h.1 x (by rintro rfl; exact hx (by decide)) (by rintro rfl; exact hx (by decide)) (by rintro rfl; exact hx (by decide)), h.2.1, h.2.2, fun i _ => congrFun (h.1 80 (by decide) (by decide) (by decide)) i⟩
theorem FrS.ofN {t a0 k : Nat} {I I' : IM} (h : FrN [44, 45, 46, 47] I I') : FrS t a0 k I I' := FrS.ofT (FrT.ofN h)
theorem FrS.tr {t a0 k : Nat} {I I' I'' : IM} (h : FrS t a0 k I I') (h2 : FrS t a0 k I' I'') : FrS t a0 k I I'' :=
  ⟨fun x hx => (h2.1 x hx).trans (h.1 x hx), fun j hj => (h2.2.1 j hj).trans (h.2.1 j hj), fun i hi => (h2.2.2.1 i hi).trans (h.2.2.1 i hi), fun i hi => (h2.2.2.2 i hi).trans (h.2.2.2 i hi)⟩
theorem FrS.up80 {t a0 k : Nat} {I I' : IM} (h : FrS t a0 k I I') (x : Int32) : FrS t a0 k I (up2 I' 80 (4 * t + k) x) :=
  ⟨fun y hy => by rw [up2_n _ _ _ (by rintro rfl; exact hy (by decide))]; exact h.1 y hy, fun j hj => by rw [up2_n _ _ _ (by decide)]; exact h.2.1 j hj, fun i hi => by rw [up2_n _ _ _ (by decide)]; exact h.2.2.1 i hi, fun i hi => by rw [up2_s, up1_n _ _ hi]; exact h.2.2.2 i hi⟩
theorem FrX.ofS {t a0 k : Nat} {I I' I'' : IM} (h : FrX t I I') (h2 : FrS t a0 k I' I'') : FrX t I I'' :=
  ⟨fun x hx => (h2.1 x hx).trans (h.1 x hx), fun j hj => (h2.2.1 j (fun z => hj (by simp at z ⊢; omega))).trans (h.2.1 j hj), fun i hi => (h2.2.2.1 i (by omega)).trans (h.2.2.1 i hi), fun i hi => (h2.2.2.2 i (by omega)).trans (h.2.2.2 i hi)⟩
theorem pt_0 {T : List Tok} {x : Nat} (h : ptE 4 T = .inl x) : pt T = .inl x := by
  unfold pt
  rw [h]
theorem pt_1 {T T1 : List Tok} {a : List Int32} {x : Nat} (h : ptE 4 T = .inr (a, T1)) (h2 : ptE 5 T1 = .inl x) : pt T = .inl x := by
  unfold pt
  rw [h]
  dsimp only
  rw [h2]
theorem pt_2 {T T1 T2 : List Tok} {a b : List Int32} {x : Nat} (h : ptE 4 T = .inr (a, T1)) (h2 : ptE 5 T1 = .inr (b, T2)) (h3 : ptE 6 T2 = .inl x) : pt T = .inl x := by
  unfold pt
  rw [h]
  dsimp only
  rw [h2]
  dsimp only
  rw [h3]
theorem pt_3 {T T1 T2 T3 : List Tok} {a b c : List Int32} {t : Tok} (h : ptE 4 T = .inr (a, T1)) (h2 : ptE 5 T1 = .inr (b, T2)) (h3 : ptE 6 T2 = .inr (c, t :: T3)) : pt T = if t.1 = 0 then .inr (a, b, c) else .inl t.2.1 := by
  unfold pt
  rw [h]
  dsimp only
  rw [h2]
  dsimp only
  rw [h3]
theorem Outs3 {f : Nat → Int32} {t : Nat} {a b c : List Int32} (h1 : Outs f t 0 a) (h2 : Outs f t a.length b) (h3 : Outs f t (a.length + b.length) c) : ∀ i, i < a.length + b.length + c.length → f (200 * t + i) = (a ++ b ++ c).getD i 0 := by
  intro i hi
  by_cases c1 : i < a.length + b.length
  · rw [getD_l (by rw [List.length_append]; exact c1)]
    by_cases c2 : i < a.length
    · rw [getD_l c2]
      have := h1 i c2
      rw [Nat.zero_add] at this
      exact this
    · have := h2 (i - a.length) (by omega)
      rw [show a.length + (i - a.length) = i by omega] at this
      rw [this, ← getD_r (a := a), show a.length + (i - a.length) = i by omega]
  · have := h3 (i - (a.length + b.length)) (by omega)
    rw [show a.length + b.length + (i - (a.length + b.length)) = i by omega] at this
    rw [this, ← getD_r (a := a ++ b), List.length_append, show a.length + b.length + (i - (a.length + b.length)) = i by omega]
theorem Outs.keep {f g : Nat → Int32} {t a0 b0 : Nat} {o : List Int32} (h : Outs f t a0 o) (hb : a0 + o.length ≤ b0) (hg : ∀ i, i < 200 * t + b0 → g i = f i) : Outs g t a0 o := fun i hi => (hg _ (by omega)).trans (h i hi)
def kwI (k : Nat) : Int32 := match k with
  | 0 => 4 | 1 => 5 | _ => 6
/-- what text needs of the state -/
def rTx (E : IM) : Prop := E 29 4 = nI (tN E) ∧ tN E ≤ 6 ∧ (∀ t, t < tN E → sA E t 3 ≤ 160) ∧ E 29 6 = nI (zN E) ∧ zN E ≤ 160
theorem rTx.of {E : IM} (h : Inv E) : rTx E := by
  obtain ⟨d1, d2, d3, d4⟩ := h.d
  obtain ⟨z1, z2, z3⟩ := h.g
  refine ⟨d1, d3, fun t ht => ?_, z1, z2⟩
  obtain ⟨-, -, -, -, -, u6, -⟩ := d4 t ht
  exact u6
def sp_R_text : SpT := fun as S I L Post => as = [.ref 59] ∧ S = S1 ∧ rTx (rE I) ∧ rOwn I ∧ ∀ (I' : IM) (L' : LM), (∀ k, k < 59 → I' k = I k) → rOwn I' → rE I' = textU (rE I) → Post (some (.int (textS (rE I)))) S1 I' L'
set_option maxHeartbeats 4000000 in
set_option maxRecDepth 100000 in
theorem c_R_text : Con mR_text 6 0 0 sp_R_text := by
  refine con_of_X rfl fun G as S I L Post hs => ?_
  obtain ⟨rfl, rfl, htp, own, h1⟩ := hs
  refine ⟨2, Nat.le_of_ble_eq_true rfl, ?_⟩
  show X mR_text G _ S1 I L 0 [.ref 59, .null, .null] [] Post
  obtain ⟨d1, d3, d4, z1, z2⟩ := htp
  have htx : I 59 26 = nI (tN (rE I)) := d1
  have htz : I 59 23 = nI (zN (rE I)) := z1
  by_cases c6 : tN (rE I) < 6
  · have c6' : rE I 29 4 < 6 := by rw [d1]; exact (nI_ltI (b := 6) (by omega) (by omega)).mpr c6
    rw [textS, textU, if_neg (not_not_intro c6'), if_neg (not_not_intro c6')] at h1
    have hR : txR (rE I) = pt (tokS (I 78) (zN (rE I)) 0) := by
      unfold txR
      congr 1
      exact tokS_congr (fun i hi => mk_lt hi) 0
    rw [hR] at h1
    have h3 : ∀ q, q < tN (rE I) → cl (I 80 (4 * q + 3)) ≤ 160 := fun q hq => by
      have u6 := d4 q hq
      have e3 : rE I 30 (4 * q + 3) = I 80 (4 * q + 3) := mk_lt (by
        have : tN (rE I) = cl (I 59 26) := rfl
        omega)
      unfold sA at u6
      rw [e3] at u6
      exact u6
    have hT0 := (tokS_good (I 78) (zN (rE I)) (zN (rE I)) 0 (by omega)).2
    generalize ht : tN (rE I) = t at *
    generalize hz : zN (rE I) = z at *
    -- the end of a TEXT with a FAULT
    have bad : ∀ (I' : IM) (x : Nat) (i2 : Int32), FrX t I I' → I' 59 23 = nI z → I' 59 26 = nI t → I' 59 45 = nI x → pt (tokS (I 78) z 0) = .inl x → X mR_text G (6, 0, 0) S1 I' L 122 [.ref 59, .int 0, .int i2] [] Post := by
      intro I' x i2 hF g23 g26 g45 hp
      rw [hp] at h1
      refine x_aload_n dR_text_122 rfl ?_
      refine x_getR fl_R_74 rfl dR_text_123 rfl rfl rfl ?_
      refine x_iconst (v := 4) dR_text_126 rfl ?_
      refine x_aload_n dR_text_127 rfl ?_
      refine x_getI fl_R_161 rfl dR_text_128 rfl rfl ?_
      refine x_imul dR_text_131 ?_
      refine x_iconst (v := 3) dR_text_132 rfl ?_
      -- at 133: .iadd
      rw [g26]
      refine x_iadd dR_text_133 ?_
      refine x_aload_n dR_text_134 rfl ?_
      refine x_getI fl_R_187 rfl dR_text_135 rfl rfl ?_
      refine x_iastJ dR_text_138 rfl rfl (r4 t 3) (by omega) ?_
      -- at 139: .aload_n 0
      refine x_aload_n dR_text_139 rfl ?_
      refine x_iconst (v := 0) dR_text_140 rfl ?_
      refine x_putI fl_R_137 rfl dR_text_141 (by decide) rfl rfl rfl rfl ?_
      refine x_iload_n dR_text_144 rfl ?_
      -- at 145: .ifCond .ne 11
      refine x_if_ne (tgt := 156) dR_text_145 (by decide) (fun h => absurd rfl h) (fun _ => ?_)
      refine x_bipush (v := -100) dR_text_148 rfl ?_
      refine x_aload_n dR_text_150 rfl ?_
      refine x_getI fl_R_174 rfl dR_text_151 rfl rfl ?_
      -- at 154: .isub
      rw [f59_n (by decide), up2_n _ _ _ (by decide), g45]
      refine x_isub dR_text_154 ?_
      -- at 155: .ireturn
      refine x_ireturn dR_text_155 rfl rfl ?_
      have hF2 : FrX t I (up2 (up2 I' 80 (4 * t + 3) (I' 59 52)) 59 23 0) := by
        obtain ⟨f1, f2, f3, f4⟩ := hF
        refine ⟨fun k hk => ?_, fun j hj => ?_, fun i hi => ?_, fun i hi => ?_⟩
        · rw [up2_n _ _ _ (by rintro rfl; exact hk (by decide)), up2_n _ _ _ (by rintro rfl; exact hk (by decide))]
          exact f1 k hk
        · rw [f59_n (by rintro rfl; exact hj (by decide)), up2_n _ _ _ (by decide)]
          exact f2 j hj
        · rw [up2_n _ _ _ (by decide), up2_n _ _ _ (by decide)]
          exact f3 i hi
        · rw [up2_n _ _ _ (by decide), up2_s, up1_n _ _ (by omega)]
          exact f4 i hi
      have e26 : up2 (up2 I' 80 (4 * t + 3) (I' 59 52)) 59 23 0 59 26 = nI t := by
        rw [f59_n (by decide), up2_n _ _ _ (by decide)]
        exact g26
      refine h1 _ L (fun k hk => hF2.1 k (by simp; omega)) ?_ (rE_no ht.symm (by omega) h3 hF2 f59_s e26 d1)
      exact ⟨(hF2.2.1 55 (by decide)).trans own.1, (hF2.2.1 60 (by decide)).trans own.2.1, fun k hk => by rw [hF2.1 92 (by decide)]; exact own.2.2 k hk⟩
    -- one part
    have part : ∀ (k a a0 : Nat) (I1 : IM), k < 3 → FrX t I I1 → I1 59 23 = nI z → I1 59 26 = nI t → I1 59 44 = nI a → a ≤ z → I1 59 52 = nI a0 → a0 + (tokS (I 78) z a).length ≤ z + 1 →
        (∀ (x : Nat), ptE (kwI k) (tokS (I 78) z a) = .inl x → pt (tokS (I 78) z 0) = .inl x) →
        (∀ (I2 : IM) (C : List Int32) (a' : Nat), ptE (kwI k) (tokS (I 78) z a) = .inr (C, tokS (I 78) z a') → FrS t a0 k I1 I2 → I2 59 44 = nI a' → a' ≤ z → I2 59 52 = nI (a0 + C.length) → Outs (I2 79) t a0 C → I2 80 (4 * t + k) = nI a0 → a0 + C.length + (tokS (I 78) z a').length ≤ z + 1 → X mR_text G (6, 0, 0) S1 I2 L 26 [.ref 59, .int 1, .int (nI (k + 1))] [] Post) →
        X mR_text G (6, 0, 0) S1 I1 L 26 [.ref 59, .int 1, .int (nI k)] [] Post := by
      intro k a a0 I1 hk hF g23 g26 g44 haz g52 hlen hno hyes
      have f78 : I1 78 = I 78 := hF.1 78 (by decide)
      refine x_iload_n dR_text_26 rfl ?_
      refine x_iconst (v := 3) dR_text_27 rfl ?_
      -- at 28: .if_icmp .ge 73
      refine x_icmp_ge (tgt := 101) dR_text_28 (by decide) (fun h => absurd h (nI_ge (b := 3) (by omega) (by omega))) (fun _ => ?_)
      refine x_iload_n dR_text_31 rfl ?_
      -- at 32: .ifCond .eq 69
      refine x_if_eq (tgt := 101) dR_text_32 (by decide) (fun h => absurd h (by decide)) (fun _ => ?_)
      refine x_aload_n dR_text_35 rfl ?_
      -- at 36: .invokevirtual 209
      refine x_callV_0 c_R_next ok_R_next ml_R_209 dR_text_36 rfl rfl rfl rfl rfl ?_
      refine ⟨a, z, rfl, rfl, g44, haz, z2, g23, fun j hj => by rw [hF.1 92 (by decide)]; exact own.2.2 j hj, fun I2 a' tk T hT hFN hat2 haz2 htok hTT => ?_⟩
      rw [f78] at hT hTT
      obtain ⟨s1, s2, s3, s4⟩ := tokS_hd (I 78) z (z - a) a (Nat.le_refl _) tk T hT
      obtain ⟨t1, t2, t3, t4, t5, t6⟩ := htok
      rw [hT] at hno hyes hlen
      rw [List.length_cons] at hlen
      have q26 : I2 59 26 = nI t := (hFN.2 26 (by decide)).trans g26
      have q52 : I2 59 52 = nI a0 := (hFN.2 52 (by decide)).trans g52
      have hS2 : FrS t a0 k I1 I2 := FrS.ofN hFN
      -- refused
      have ref : ∀ (I3 : IM) (x : Nat), FrS t a0 k I1 I3 → I3 59 45 = nI x → ptE (kwI k) (tk :: T) = .inl x → X mR_text G (6, 0, 0) S1 I3 L 93 [.ref 59, .int 0, .int (nI k)] [] Post ∧ X mR_text G (6, 0, 0) S1 I3 L 93 [.ref 59, .int 1, .int (nI k)] [] Post := by
        intro I3 x hS3 h45 hx
        have b0 := bad I3 x (nI (k + 1)) (hF.ofS hS3) ((hS3.2.1 23 (by decide)).trans g23) ((hS3.2.1 26 (by decide)).trans g26) h45 (hno x hx)
        have b : X mR_text G (6, 0, 0) S1 I3 L 101 [.ref 59, .int 0, .int (nI (k + 1))] [] Post := by
          refine x_iload_n dR_text_101 rfl ?_
          -- at 102: .ifCond .eq 20
          refine x_if_eq (tgt := 122) dR_text_102 (by decide) (fun _ => ?_) (fun h => absurd rfl h)
          exact b0
        have aft : X mR_text G (6, 0, 0) S1 I3 L 26 [.ref 59, .int 0, .int (nI (k + 1))] [] Post := by
          refine x_iload_n dR_text_26 rfl ?_
          refine x_iconst (v := 3) dR_text_27 rfl ?_
          -- at 28: .if_icmp .ge 73
          by_cases c : k + 1 < 3
          · refine x_icmp_ge (tgt := 101) dR_text_28 (by decide) (fun h => absurd h (nI_ge (b := 3) c (by omega))) (fun _ => ?_)
            refine x_iload_n dR_text_31 rfl ?_
            -- at 32: .ifCond .eq 69
            refine x_if_eq (tgt := 101) dR_text_32 (by decide) (fun _ => ?_) (fun h => absurd rfl h)
            exact b
          · refine x_icmp_ge (tgt := 101) dR_text_28 (by decide) (fun _ => ?_) (fun h => absurd (nI_le (a := 3) (by omega) (by omega)) h)
            exact b
        constructor
        · refine x_iconst (v := 0) dR_text_93 rfl ?_
          refine x_istoren_1 dR_text_94 rfl rfl ?_
          refine x_iincp_2 dR_text_95 rfl rfl ?_
          refine x_goto (tgt := 26) dR_text_98 (by decide) ?_
          -- at 26: .iload_n 2
          rw [nI_1]
          exact aft
        · refine x_iconst (v := 0) dR_text_93 rfl ?_
          refine x_istoren_1 dR_text_94 rfl rfl ?_
          refine x_iincp_2 dR_text_95 rfl rfl ?_
          refine x_goto (tgt := 26) dR_text_98 (by decide) ?_
          -- at 26: .iload_n 2
          rw [nI_1]
          exact aft
      have hdr : tk.1 = kwI k ↔ (rtok tk.1 = 3 ∧ I2 59 47 = nI k) := by
        rcases (show k = 0 ∨ k = 1 ∨ k = 2 by omega) with rfl | rfl | rfl
        · constructor
          · intro e
            have e : tk.1 = 4 := e
            exact ⟨(rt_3 s1).mpr (Or.inl e), t3 e⟩
          · rintro ⟨e1, e2⟩
            rcases (rt_3 s1).mp e1 with e | e | e
            · exact e
            · rw [t4 e] at e2; exact absurd e2 (by decide)
            · rw [t5 e] at e2; exact absurd e2 (by decide)
        · constructor
          · intro e
            have e : tk.1 = 5 := e
            exact ⟨(rt_3 s1).mpr (Or.inr (Or.inl e)), t4 e⟩
          · rintro ⟨e1, e2⟩
            rcases (rt_3 s1).mp e1 with e | e | e
            · rw [t3 e] at e2; exact absurd e2 (by decide)
            · exact e
            · rw [t5 e] at e2; exact absurd e2 (by decide)
        · constructor
          · intro e
            have e : tk.1 = 6 := e
            exact ⟨(rt_3 s1).mpr (Or.inr (Or.inr e)), t5 e⟩
          · rintro ⟨e1, e2⟩
            rcases (rt_3 s1).mp e1 with e | e | e
            · rw [t3 e] at e2; exact absurd e2 (by decide)
            · rw [t4 e] at e2; exact absurd e2 (by decide)
            · exact e
      have no : ¬ tk.1 = kwI k → X mR_text G (6, 0, 0) S1 I2 L 60 [.ref 59, .int 1, .int (nI k)] [.int 0] Post := by
        intro hn
        refine x_istoren_1 dR_text_60 rfl rfl ?_
        refine x_aload_n dR_text_61 rfl ?_
        refine x_getR fl_R_74 rfl dR_text_62 rfl rfl rfl ?_
        refine x_iconst (v := 4) dR_text_65 rfl ?_
        refine x_aload_n dR_text_66 rfl ?_
        refine x_getI fl_R_161 rfl dR_text_67 rfl rfl ?_
        refine x_imul dR_text_70 ?_
        refine x_iload_n dR_text_71 rfl ?_
        -- at 72: .iadd
        rw [q26]
        refine x_iadd dR_text_72 ?_
        refine x_aload_n dR_text_73 rfl ?_
        refine x_getI fl_R_187 rfl dR_text_74 rfl rfl ?_
        refine x_iastJ dR_text_77 rfl rfl (r4 t k) (by omega) ?_
        -- at 78: .iload_n 1
        refine x_iload_n dR_text_78 rfl ?_
        -- at 79: .ifCond .eq 14
        refine x_if_eq (tgt := 93) dR_text_79 (by decide) (fun _ => ?_) (fun h => absurd rfl h)
        exact (ref _ tk.2.1 (hS2.up80 _) (by rw [up2_n _ _ _ (by decide)]; exact t6) (by rw [ptE, if_neg hn])).1
      refine x_aload_n dR_text_39 rfl ?_
      refine x_getI fl_R_177 rfl dR_text_40 rfl rfl ?_
      refine x_iconst (v := 3) dR_text_43 rfl ?_
      -- at 44: .if_icmp .ne 15
      rw [t1]
      by_cases e1 : rtok tk.1 = 3
      · refine x_icmp_ne (tgt := 59) dR_text_44 (by decide) (fun h => absurd e1 h) (fun _ => ?_)
        refine x_aload_n dR_text_47 rfl ?_
        refine x_getI fl_R_180 rfl dR_text_48 rfl rfl ?_
        refine x_iload_n dR_text_51 rfl ?_
        -- at 52: .if_icmp .ne 7
        by_cases e2 : I2 59 47 = nI k
        · have hk1 := hdr.mpr ⟨e1, e2⟩
          have h0 : ¬ tk.1 = 0 := by
            intro y
            rw [y] at e1
            exact absurd e1 (by decide)
          refine x_icmp_ne (tgt := 59) dR_text_52 (by decide) (fun h => absurd e2 h) (fun _ => ?_)
          refine x_iconst (v := 1) dR_text_55 rfl ?_
          refine x_goto (tgt := 60) dR_text_56 (by decide) ?_
          refine x_istoren_1 dR_text_60 rfl rfl ?_
          refine x_aload_n dR_text_61 rfl ?_
          refine x_getR fl_R_74 rfl dR_text_62 rfl rfl rfl ?_
          refine x_iconst (v := 4) dR_text_65 rfl ?_
          refine x_aload_n dR_text_66 rfl ?_
          refine x_getI fl_R_161 rfl dR_text_67 rfl rfl ?_
          refine x_imul dR_text_70 ?_
          refine x_iload_n dR_text_71 rfl ?_
          -- at 72: .iadd
          rw [q26]
          refine x_iadd dR_text_72 ?_
          refine x_aload_n dR_text_73 rfl ?_
          refine x_getI fl_R_187 rfl dR_text_74 rfl rfl ?_
          refine x_iastJ dR_text_77 rfl rfl (r4 t k) (by omega) ?_
          -- at 78: .iload_n 1
          rw [q52]
          refine x_iload_n dR_text_78 rfl ?_
          -- at 79: .ifCond .eq 14
          refine x_if_eq (tgt := 93) dR_text_79 (by decide) (fun h => absurd h (by decide)) (fun _ => ?_)
          refine x_aload_n dR_text_82 rfl ?_
          -- at 83: .invokevirtual 222
          have hS3 : FrS t a0 k I1 (up2 I2 80 (4 * t + k) (nI a0)) := hS2.up80 _
          have w80 : up2 I2 80 (4 * t + k) (nI a0) 80 (4 * t + k) = nI a0 := by rw [up2_s, up1_s]
          have w44 : up2 I2 80 (4 * t + k) (nI a0) 59 44 = nI a' := by rw [up2_n _ _ _ (by decide)]; exact hat2
          have w52 : up2 I2 80 (4 * t + k) (nI a0) 59 52 = nI a0 := by rw [up2_n _ _ _ (by decide)]; exact q52
          generalize up2 I2 80 (4 * t + k) (nI a0) = I3 at hS3 w80 w44 w52
          have hTe := hTT h0
          have v78 : I3 78 = I 78 := (hS3.1 78 (by decide)).trans f78
          have hp : ptE (kwI k) (tk :: T) = sy T true true [] [] := by rw [ptE, if_pos hk1]
          refine x_callV_0 c_R_eRead ok_R_eRead ml_R_222 dR_text_83 rfl rfl rfl rfl rfl ?_
          refine ⟨a', z, t, a0, rfl, rfl, w44, haz2, z2, (hS3.2.1 23 (by decide)).trans g23, fun j hj => by rw [hS3.1 92 (by decide), hF.1 92 (by decide)]; exact own.2.2 j hj, (hS3.2.1 26 (by decide)).trans g26, c6, w52, by rw [v78, ← hTe]; omega, fun x I4 hx hF4 h45 => ?_, fun C I4 a2 hx hF4 h44 haz4 h52 hO hl => ?_⟩
          · rw [v78, ← hTe] at hx
            refine x_if_eq (tgt := 93) dR_text_86 (by decide) (fun _ => ?_) (fun h => absurd rfl h)
            exact (ref I4 x (hS3.tr (FrS.ofT hF4)) h45 (hp.trans hx)).2
          · rw [v78, ← hTe] at hx
            refine x_if_eq (tgt := 93) dR_text_86 (by decide) (fun h => absurd h (by decide)) (fun _ => ?_)
            refine x_iconst (v := 1) dR_text_89 rfl ?_
            refine x_goto (tgt := 94) dR_text_90 (by decide) ?_
            refine x_istoren_1 dR_text_94 rfl rfl ?_
            refine x_iincp_2 dR_text_95 rfl rfl ?_
            refine x_goto (tgt := 26) dR_text_98 (by decide) ?_
            -- at 26: .iload_n 2
            rw [nI_1]
            rw [v78] at hl
            exact hyes I4 C a2 (hp.trans hx) (hS3.tr (FrS.ofT hF4)) h44 haz4 h52 hO (by rw [hF4.1 80 (by decide) (by decide) (by decide)]; exact w80) hl
        · refine x_icmp_ne (tgt := 59) dR_text_52 (by decide) (fun _ => ?_) (fun h => absurd h e2)
          refine x_iconst (v := 0) dR_text_59 rfl ?_
          -- at 60: .istore_n 1
          exact no (fun y => e2 (hdr.mp y).2)
      · refine x_icmp_ne (tgt := 59) dR_text_44 (by decide) (fun _ => ?_) (fun h => absurd h e1)
        refine x_iconst (v := 0) dR_text_59 rfl ?_
        -- at 60: .istore_n 1
        exact no (fun y => e1 (hdr.mp y).1)
    refine x_aload_n dR_text_0 rfl ?_
    refine x_getI fl_R_161 rfl dR_text_1 rfl rfl ?_
    refine x_bipush (v := 6) dR_text_4 rfl ?_
    -- at 6: .if_icmp .ne 6
    refine x_icmp_ne (tgt := 12) dR_text_6 (by decide) (fun _ => ?_) (fun h => absurd h (by rw [htx]; intro y; exact absurd ((nI_eq (b := 6) (by omega) (by omega)).mp y) (by omega)))
    refine x_aload_n dR_text_12 rfl ?_
    refine x_iconst (v := 0) dR_text_13 rfl ?_
    refine x_putI fl_R_171 rfl dR_text_14 (by decide) rfl rfl rfl rfl ?_
    refine x_aload_n dR_text_17 rfl ?_
    refine x_iconst (v := 0) dR_text_18 rfl ?_
    refine x_putI fl_R_187 rfl dR_text_19 (by decide) rfl rfl rfl rfl ?_
    refine x_iconst (v := 1) dR_text_22 rfl ?_
    refine x_istoren_1 dR_text_23 rfl rfl ?_
    refine x_iconst (v := 0) dR_text_24 rfl ?_
    refine x_istoren_2 dR_text_25 rfl rfl ?_
    -- at 26: .iload_n 2
    have hF1 : FrX t I (up2 (up2 I 59 44 0) 59 52 0) := by
      refine ⟨fun x hx => ?_, fun j hj => ?_, fun i hi => ?_, fun i hi => ?_⟩
      · rw [up2_n _ _ _ (by rintro rfl; exact hx (by decide)), up2_n _ _ _ (by rintro rfl; exact hx (by decide))]
      · rw [f59_n (by rintro rfl; exact hj (by decide)), f59_n (by rintro rfl; exact hj (by decide))]
      · rw [up2_n _ _ _ (by decide), up2_n _ _ _ (by decide)]
      · rw [up2_n _ _ _ (by decide), up2_n _ _ _ (by decide)]
    have w44 : up2 (up2 I 59 44 0) 59 52 0 59 44 = nI 0 := by rw [f59_n (by decide), f59_s]; rfl
    have w52 : up2 (up2 I 59 44 0) 59 52 0 59 52 = nI 0 := by rw [f59_s]; rfl
    have w23 : up2 (up2 I 59 44 0) 59 52 0 59 23 = nI z := by rw [f59_n (by decide), f59_n (by decide)]; exact htz
    have w26 : up2 (up2 I 59 44 0) 59 52 0 59 26 = nI t := by rw [f59_n (by decide), f59_n (by decide)]; exact htx
    generalize up2 (up2 I 59 44 0) 59 52 0 = I1 at hF1 w44 w52 w23 w26
    refine part 0 0 0 I1 (by omega) hF1 w23 w26 w44 (by omega) w52 (by omega) (fun x hx => pt_0 hx) (fun I2 A a1 p0 S2 g44 ha1 g52 O2 s2 hl2 => ?_)
    have hF2 := hF1.ofS S2
    have g23 : I2 59 23 = nI z := (S2.2.1 23 (by decide)).trans w23
    have g26 : I2 59 26 = nI t := (S2.2.1 26 (by decide)).trans w26
    rw [Nat.zero_add] at g52 hl2
    refine part 1 a1 A.length I2 (by omega) hF2 g23 g26 g44 ha1 g52 hl2 (fun x hx => pt_1 p0 hx) (fun I3 B a2 p1 S3 k44 ha2 k52 O3 s3 hl3 => ?_)
    have hF3 := hF2.ofS S3
    have k23 : I3 59 23 = nI z := (S3.2.1 23 (by decide)).trans g23
    have k26 : I3 59 26 = nI t := (S3.2.1 26 (by decide)).trans g26
    refine part 2 a2 (A.length + B.length) I3 (by omega) hF3 k23 k26 k44 ha2 k52 hl3 (fun x hx => pt_2 p0 p1 hx) (fun I4 C a3 p2 S4 l44 ha3 l52 O4 s4 hl4 => ?_)
    have hF4 := hF3.ofS S4
    have l23 : I4 59 23 = nI z := (S4.2.1 23 (by decide)).trans k23
    have l26 : I4 59 26 = nI t := (S4.2.1 26 (by decide)).trans k26
    have f78 : I4 78 = I 78 := hF4.1 78 (by decide)
    refine x_iload_n dR_text_26 rfl ?_
    refine x_iconst (v := 3) dR_text_27 rfl ?_
    -- at 28: .if_icmp .ge 73
    refine x_icmp_ge (tgt := 101) dR_text_28 (by decide) (fun _ => ?_) (fun h => absurd (nI_le (a := 3) (by omega) (by omega)) h)
    refine x_iload_n dR_text_101 rfl ?_
    -- at 102: .ifCond .eq 20
    refine x_if_eq (tgt := 122) dR_text_102 (by decide) (fun h => absurd h (by decide)) (fun _ => ?_)
    refine x_aload_n dR_text_105 rfl ?_
    -- at 106: .invokevirtual 209
    refine x_callV_0 c_R_next ok_R_next ml_R_209 dR_text_106 rfl rfl rfl rfl rfl ?_
    refine ⟨a3, z, rfl, rfl, l44, ha3, z2, l23, fun j hj => by rw [hF4.1 92 (by decide)]; exact own.2.2 j hj, fun I5 a4 tk T hT hFN hat4 haz4 htok hTT => ?_⟩
    rw [f78] at hT
    obtain ⟨q1, q2, q3, q4⟩ := tokS_hd (I 78) z (z - a3) a3 (Nat.le_refl _) tk T hT
    obtain ⟨t1, t2, t3, t4, t5, t6⟩ := htok
    rw [hT] at p2 hl4
    rw [List.length_cons] at hl4
    have hp := pt_3 p0 p1 p2
    have S5 : FrS t 0 0 I4 I5 := FrS.ofN hFN
    have hF5 := hF4.ofS S5
    have m23 : I5 59 23 = nI z := (S5.2.1 23 (by decide)).trans l23
    have m26 : I5 59 26 = nI t := (S5.2.1 26 (by decide)).trans l26
    have m52 : I5 59 52 = nI (A.length + B.length + C.length) := (hFN.2 52 (by decide)).trans l52
    refine x_aload_n dR_text_109 rfl ?_
    refine x_getI fl_R_177 rfl dR_text_110 rfl rfl ?_
    -- at 113: .ifCond .ne 7
    rw [t1]
    by_cases e0 : tk.1 = 0
    · rw [if_pos e0] at hp
      rw [hp] at h1
      refine x_if_ne (tgt := 120) dR_text_113 (by decide) (fun h => absurd ((rt_0 q1).mpr e0) h) (fun _ => ?_)
      refine x_iconst (v := 1) dR_text_116 rfl ?_
      refine x_goto (tgt := 121) dR_text_117 (by decide) ?_
      refine x_istoren_1 dR_text_121 rfl rfl ?_
      refine x_aload_n dR_text_122 rfl ?_
      refine x_getR fl_R_74 rfl dR_text_123 rfl rfl rfl ?_
      refine x_iconst (v := 4) dR_text_126 rfl ?_
      refine x_aload_n dR_text_127 rfl ?_
      refine x_getI fl_R_161 rfl dR_text_128 rfl rfl ?_
      refine x_imul dR_text_131 ?_
      refine x_iconst (v := 3) dR_text_132 rfl ?_
      -- at 133: .iadd
      rw [m26]
      refine x_iadd dR_text_133 ?_
      refine x_aload_n dR_text_134 rfl ?_
      refine x_getI fl_R_187 rfl dR_text_135 rfl rfl ?_
      refine x_iastJ dR_text_138 rfl rfl (r4 t 3) (by omega) ?_
      -- at 139: .aload_n 0
      refine x_aload_n dR_text_139 rfl ?_
      refine x_iconst (v := 0) dR_text_140 rfl ?_
      refine x_putI fl_R_137 rfl dR_text_141 (by decide) rfl rfl rfl rfl ?_
      refine x_iload_n dR_text_144 rfl ?_
      -- at 145: .ifCond .ne 11
      refine x_if_ne (tgt := 156) dR_text_145 (by decide) (fun _ => ?_) (fun h => absurd h (by decide))
      refine x_aload_n dR_text_156 rfl ?_
      refine x_dup dR_text_157 rfl ?_
      refine x_getI fl_R_161 rfl dR_text_158 rfl rfl ?_
      -- at 161: .iconst 1
      rw [f59_n (by decide), up2_n _ _ _ (by decide), m26]
      refine x_iconst (v := 1) dR_text_161 rfl ?_
      refine x_iadd dR_text_162 ?_
      refine x_putI fl_R_161 rfl dR_text_163 (by decide) rfl rfl rfl rfl ?_
      refine x_aload_n dR_text_166 rfl ?_
      refine x_getI fl_R_161 rfl dR_text_167 rfl rfl ?_
      refine x_iconst (v := 1) dR_text_170 rfl ?_
      refine x_isub dR_text_171 ?_
      -- at 172: .ireturn
      rw [f59_s]
      have hv : nI t + 1 - 1 = rE I 29 4 := by
        rw [d1, nI_1]
        exact nI_pred t
      have v79 : I5 79 = I4 79 := hFN.1 79 (by decide)
      have v80 : I5 80 = I4 80 := hFN.1 80 (by decide)
      have hsz : ∀ r, r < 4 → up2 (up2 (up2 I5 80 (4 * t + 3) (I5 59 52)) 59 23 0) 59 26 (nI t + 1) 80 (4 * t + r) = txA A B C r := by
        intro r hr
        rw [up2_n _ _ _ (by decide), up2_n _ _ _ (by decide), up2_s]
        rcases (show r = 0 ∨ r = 1 ∨ r = 2 ∨ r = 3 by omega) with rfl | rfl | rfl | rfl
        · rw [up1_n _ _ (by omega), v80, S4.2.2.2 _ (by omega), S3.2.2.2 _ (by omega)]
          exact s2
        · rw [up1_n _ _ (by omega), v80, S4.2.2.2 _ (by omega)]
          exact s3
        · rw [up1_n _ _ (by omega), v80]
          exact s4
        · rw [up1_s]
          exact m52
      have ho : ∀ i, i < A.length + B.length + C.length → up2 (up2 (up2 I5 80 (4 * t + 3) (I5 59 52)) 59 23 0) 59 26 (nI t + 1) 79 (200 * t + i) = (A ++ B ++ C).getD i 0 := by
        rw [up2_n _ _ _ (by decide), up2_n _ _ _ (by decide), up2_n _ _ _ (by decide), v79]
        have o2 : Outs (I3 79) t 0 A := Outs.keep O2 (by omega) (fun i hi => S3.2.2.1 i hi)
        exact Outs3 (Outs.keep o2 (by omega) (fun i hi => S4.2.2.1 i hi)) (Outs.keep O3 (by omega) (fun i hi => S4.2.2.1 i hi)) O4
      have hF6 : FrX t I (up2 (up2 (up2 I5 80 (4 * t + 3) (I5 59 52)) 59 23 0) 59 26 (nI t + 1)) := by
        obtain ⟨f1, f2, f3, f4⟩ := hF5
        refine ⟨fun k hk => ?_, fun j hj => ?_, fun i hi => ?_, fun i hi => ?_⟩
        · rw [up2_n _ _ _ (by rintro rfl; exact hk (by decide)), up2_n _ _ _ (by rintro rfl; exact hk (by decide)), up2_n _ _ _ (by rintro rfl; exact hk (by decide))]
          exact f1 k hk
        · rw [f59_n (by rintro rfl; exact hj (by decide)), f59_n (by rintro rfl; exact hj (by decide)), up2_n _ _ _ (by decide)]
          exact f2 j hj
        · rw [up2_n _ _ _ (by decide), up2_n _ _ _ (by decide), up2_n _ _ _ (by decide)]
          exact f3 i hi
        · rw [up2_n _ _ _ (by decide), up2_n _ _ _ (by decide), up2_s, up1_n _ _ (by omega)]
          exact f4 i hi
      have e23 : up2 (up2 (up2 I5 80 (4 * t + 3) (I5 59 52)) 59 23 0) 59 26 (nI t + 1) 59 23 = 0 := by rw [f59_n (by decide), f59_s]
      have e26 : up2 (up2 (up2 I5 80 (4 * t + 3) (I5 59 52)) 59 23 0) 59 26 (nI t + 1) 59 26 = nI t + 1 := f59_s
      have hfin := rE_yes ht.symm c6 h3 hF6 e23 e26 hsz (by omega) ho
      rw [hv]
      refine x_ireturn dR_text_172 rfl rfl ?_
      refine h1 _ L (fun k hk => hF6.1 k (by simp; omega)) ⟨(hF6.2.1 55 (by decide)).trans own.1, (hF6.2.1 60 (by decide)).trans own.2.1, fun k hk => by rw [hF6.1 92 (by decide)]; exact own.2.2 k hk⟩ ?_
      rw [hfin, ← ht]
      rfl
    · rw [if_neg e0] at hp
      refine x_if_ne (tgt := 120) dR_text_113 (by decide) (fun _ => ?_) (fun h => absurd h (fun y => e0 ((rt_0 q1).mp y)))
      refine x_iconst (v := 0) dR_text_120 rfl ?_
      refine x_istoren_1 dR_text_121 rfl rfl ?_
      -- at 122: .aload_n 0
      exact bad I5 tk.2.1 _ hF5 m23 m26 t6 hp
  · have c6' : ¬ rE I 29 4 < 6 := by rw [d1]; exact fun y => c6 ((nI_ltI (b := 6) (by omega) (by omega)).mp y)
    rw [textS, textU, if_pos c6', if_pos c6'] at h1
    refine x_aload_n dR_text_0 rfl ?_
    refine x_getI fl_R_161 rfl dR_text_1 rfl rfl ?_
    refine x_bipush (v := 6) dR_text_4 rfl ?_
    -- at 6: .if_icmp .ne 6
    refine x_icmp_ne (tgt := 12) dR_text_6 (by decide) (fun h => absurd (by rw [htx, show tN (rE I) = 6 by omega]; rfl) h) (fun _ => ?_)
    refine x_bipush (v := -4) dR_text_9 rfl ?_
    -- at 11: .ireturn
    refine x_ireturn dR_text_11 rfl rfl ?_
    exact h1 I L (fun _ _ => rfl) own rfl
end
