/-! the reference: signs let go, signs between two -/
theorem rank_le (c : Int32) : rank c ≤ 7 := by
  unfold rank
  (repeat' split) <;> omega
theorem unw_len (r : Nat) : ∀ (h o : List Int32), (unw r h o).1.length + (unw r h o).2.length = h.length + o.length ∧ (unw r h o).1.length ≤ h.length ∧ cnt (unw r h o).1 ≤ cnt h := by
  intro h
  induction h with
  | nil => intro o; exact ⟨rfl, Nat.le_refl _, Nat.le_refl _⟩
  | cons c t ih =>
    intro o
    rw [unw]
    split
    · obtain ⟨i1, i2, i3⟩ := ih (o ++ [c])
      rw [List.length_append, List.length_singleton] at i1
      refine ⟨by rw [i1, List.length_cons]; omega, by rw [List.length_cons]; omega, ?_⟩
      rw [cnt]
      omega
    · exact ⟨rfl, Nat.le_refl _, Nat.le_refl _⟩
theorem unw_hc (r : Nat) : ∀ (h o : List Int32), (∀ c ∈ h, hcP c) → ∀ c ∈ (unw r h o).1, hcP c := by
  intro h
  induction h with
  | nil => intro o h; exact h
  | cons c t ih =>
    intro o h
    rw [unw]
    split
    · exact ih _ (fun x hx => h x (List.mem_cons_of_mem _ hx))
    · exact h
theorem cnt_sub {c : Int32} {t : List Int32} (h : ¬ c = 0) : nI (cnt (c :: t)) - (if c = 13 ∨ c = 19 then 1 else 0) = nI (cnt t) := by
  rw [cnt]
  by_cases e : c = 13 ∨ c = 19
  · rw [if_pos e, if_pos (show isOpn c from e.elim (fun y => Or.inr (Or.inl y)) (fun y => Or.inr (Or.inr y)))]
    exact nI_pred _
  · rw [if_neg e, if_neg (show ¬ isOpn c from fun y => y.elim h (fun z => e z)), Int32.sub_zero]
    rfl
def sp_R_unwinds : SpT := fun as S I L Post => ∃ (r t a0 : Nat) (h o : List Int32), as = [.ref 59, .int (nI r)] ∧ S = S1 ∧ 1 ≤ r ∧ r ≤ 7 ∧ RS I t a0 h o ∧ t < 6 ∧ a0 + o.length + h.length < 200 ∧ ∀ I' : IM, FrT t a0 I I' → tokSame I I' → RS I' t a0 (unw r h o).1 (unw r h o).2 → Post none S1 I' L
set_option maxHeartbeats 4000000 in
set_option maxRecDepth 100000 in
theorem c_R_unwinds : Con mR_unwinds 3 0 0 sp_R_unwinds := by
  refine con_of_X rfl fun G as S I L Post hs => ?_
  obtain ⟨r, t, a0, h, o, rfl, rfl, hr1, hr7, hrs, ht, hlen, h1⟩ := hs
  refine ⟨1, Nat.le_of_ble_eq_true rfl, ?_⟩
  show X mR_unwinds G _ S1 I L 0 [.ref 59, .int (nI r), .null] [] Post
  have loop : ∀ (h o : List Int32) (I' : IM) (a2 : Value), cat1at [a2] 1 = true → a0 + o.length + h.length < 200 → RS I' t a0 h o → FrT t a0 I I' → tokSame I I' → (∀ I' : IM, FrT t a0 I I' → tokSame I I' → RS I' t a0 (unw r h o).1 (unw r h o).2 → Post none S1 I' L) →
      X mR_unwinds G (3, 0, 0) S1 I' L 0 [.ref 59, .int (nI r), a2] [] Post := by
    intro h
    induction h with
    | nil =>
      intro o I' a2 q2 hl hrs hF hts h1
      refine x_aload_n dR_unwinds_0 rfl ?_
      refine x_getI fl_R_190 rfl dR_unwinds_1 rfl rfl ?_
      -- at 4: .ifCond .le 75
      rw [hrs.2.1]
      refine x_if_le (tgt := 79) dR_unwinds_4 (by decide) (fun _ => ?_) (fun h => absurd (show nI 0 ≤ (0 : Int32) from Int32.le_refl _) h)
      refine x_return dR_unwinds_79 rfl ?_
      exact h1 I' hF hts hrs
    | cons c t2 ih =>
      intro o I' a2 q2 hl hrs hF hts h1
      have hrs0 := hrs
      obtain ⟨r1, r2, r3, r4, r5, r6, r7⟩ := hrs
      rw [List.length_cons] at r2 hl
      have hc := r7 c (List.mem_cons_self)
      refine x_aload_n dR_unwinds_0 rfl ?_
      refine x_getI fl_R_190 rfl dR_unwinds_1 rfl rfl ?_
      -- at 4: .ifCond .le 75
      rw [r2]
      refine x_if_le (tgt := 79) dR_unwinds_4 (by decide) (fun h => absurd h (nI_ge (a := 0) (by omega) (by omega))) (fun _ => ?_)
      refine x_aload_n dR_unwinds_7 rfl ?_
      refine x_getR fl_R_113 rfl dR_unwinds_8 rfl rfl rfl ?_
      refine x_aload_n dR_unwinds_11 rfl ?_
      refine x_getI fl_R_190 rfl dR_unwinds_12 rfl rfl ?_
      -- at 15: .iconst 1
      rw [r2]
      refine x_iconst (v := 1) dR_unwinds_15 rfl ?_
      refine x_isub dR_unwinds_16 ?_
      -- at 17: .iaload
      refine x_eqi (y := nI t2.length) (nI_pred _) ?_
      refine x_ialdJ (j := t2.length) dR_unwinds_17 rfl rfl (by first | rfl | (simp only [← nI_add, ← pk_mul]; rfl)) (by omega) ?_
      -- at 18: .invokestatic 193
      rw [r5.top]
      refine x_callS_1 c_R_rank ok_R_rank ml_R_193 dR_unwinds_18 rfl rfl ?_
      refine ⟨c, rfl, hc, ?_⟩
      refine x_iload_n dR_unwinds_21 rfl ?_
      -- at 22: .if_icmp .lt 57
      by_cases c1 : r ≤ rank c
      · have c0 : ¬ c = 0 := by
          rintro rfl
          have : rank 0 = 0 := rfl
          omega
        refine x_icmp_lt (tgt := 79) dR_unwinds_22 (by decide) (fun h => absurd h (Int32.not_lt.mpr (nI_le c1 (by have := rank_le c; omega)))) (fun _ => ?_)
        refine x_aload_n dR_unwinds_25 rfl ?_
        refine x_dup dR_unwinds_26 rfl ?_
        refine x_getI fl_R_190 rfl dR_unwinds_27 rfl rfl ?_
        -- at 30: .iconst 1
        rw [r2]
        refine x_iconst (v := 1) dR_unwinds_30 rfl ?_
        refine x_isub dR_unwinds_31 ?_
        -- at 32: .putfield 190
        refine x_eqi (y := nI t2.length) (nI_pred _) ?_
        refine x_putI fl_R_190 rfl dR_unwinds_32 (by decide) rfl rfl rfl rfl ?_
        refine x_aload_n dR_unwinds_35 rfl ?_
        refine x_getR fl_R_113 rfl dR_unwinds_36 rfl rfl rfl ?_
        refine x_aload_n dR_unwinds_39 rfl ?_
        refine x_getI fl_R_190 rfl dR_unwinds_40 rfl rfl ?_
        -- at 43: .iaload
        rw [f59_s]
        refine x_ialdJ (j := t2.length) dR_unwinds_43 rfl rfl (by first | rfl | (simp only [← nI_add, ← pk_mul]; rfl)) (by omega) ?_
        -- at 44: .istore_n 2
        rw [up2_n _ _ _ (by decide), r5.top]
        refine x_istoren_2 dR_unwinds_44 rfl rfl ?_
        refine x_aload_n dR_unwinds_45 rfl ?_
        refine x_dup dR_unwinds_46 rfl ?_
        refine x_getI fl_R_196 rfl dR_unwinds_47 rfl rfl ?_
        -- at 50: .iload_n 2
        rw [f59_n (by decide), r3]
        have tail : ∀ x : Int32, x = (if c = 13 ∨ c = 19 then 1 else 0) → X mR_unwinds G (3, 0, 0) S1 (up2 I' 59 50 (nI t2.length)) L 67 [.ref 59, .int (nI r), .int c] [.int x, .int (nI (cnt (c :: t2))), .ref 59] Post := by
          intro x hx
          subst hx
          refine x_isub dR_unwinds_67 ?_
          -- at 68: .putfield 196
          refine x_eqi (y := nI (cnt t2)) (cnt_sub c0) ?_
          refine x_putI fl_R_196 rfl dR_unwinds_68 (by decide) rfl rfl rfl rfl ?_
          refine x_aload_n dR_unwinds_71 rfl ?_
          refine x_iload_n dR_unwinds_72 rfl ?_
          -- at 73: .invokevirtual 199
          have hrs2 : RS (up2 (up2 I' 59 50 (nI t2.length)) 59 51 (nI (cnt t2))) t a0 t2 o := by
            refine ⟨?_, ?_, ?_, ?_, ?_, ?_, fun x hx => r7 x (List.mem_cons_of_mem _ hx)⟩
            · rw [f59_n (by decide), f59_n (by decide)]; exact r1
            · rw [f59_n (by decide), f59_s]
            · rw [f59_s]
            · rw [f59_n (by decide), f59_n (by decide)]; exact r4
            · rw [up2_n _ _ _ (by decide), up2_n _ _ _ (by decide)]; exact r5.pop
            · rw [up2_n _ _ _ (by decide), up2_n _ _ _ (by decide)]; exact r6
          have hF2 : FrT t a0 I (up2 (up2 I' 59 50 (nI t2.length)) 59 51 (nI (cnt t2))) := (hF.up59 (by decide) _).up59 (by decide) _
          have hts2 : tokSame I (up2 (up2 I' 59 50 (nI t2.length)) 59 51 (nI (cnt t2))) := fun j hj => by
            have g1 : j ≠ 50 := by rintro rfl; exact absurd hj (by decide)
            have g2 : j ≠ 51 := by rintro rfl; exact absurd hj (by decide)
            rw [f59_n g2, f59_n g1]
            exact hts j hj
          generalize up2 (up2 I' 59 50 (nI t2.length)) 59 51 (nI (cnt t2)) = I2 at hrs2 hF2 hts2
          refine x_callV_1 c_R_puts ok_R_puts ml_R_199 dR_unwinds_73 rfl rfl rfl rfl rfl ?_
          refine ⟨c, t, a0, t2, o, rfl, rfl, hrs2, ht, by omega, fun I3 hF3 hts3 hrs3 => ?_⟩
          refine x_goto (tgt := 0) dR_unwinds_76 (by decide) ?_
          -- at 0: .aload_n 0
          refine ih (o ++ [c]) I3 _ rfl (by rw [List.length_append, List.length_singleton]; omega) hrs3 (hF2.tr hF3) (fun j hj => (hts3 j hj).trans (hts2 j hj)) (fun I4 g1 g2 g3 => h1 I4 g1 g2 ?_)
          rw [unw_pop c1]
          exact g3
        refine x_iload_n dR_unwinds_50 rfl ?_
        refine x_bipush (v := 13) dR_unwinds_51 rfl ?_
        -- at 53: .if_icmp .eq 9
        refine x_icmp_eq (tgt := 62) dR_unwinds_53 (by decide) (fun d1 => ?_) (fun d1 => ?_)
        · refine x_iconst (v := 1) dR_unwinds_62 rfl ?_
          refine x_goto (tgt := 67) dR_unwinds_63 (by decide) ?_
          -- at 67: .isub
          exact tail 1 (by rw [if_pos (Or.inl d1)])
        · refine x_iload_n dR_unwinds_56 rfl ?_
          refine x_bipush (v := 19) dR_unwinds_57 rfl ?_
          -- at 59: .if_icmp .ne 7
          refine x_icmp_ne (tgt := 66) dR_unwinds_59 (by decide) (fun d2 => ?_) (fun d2 => ?_)
          · refine x_iconst (v := 0) dR_unwinds_66 rfl ?_
            -- at 67: .isub
            exact tail 0 (by rw [if_neg (fun y => y.elim d1 d2)])
          · refine x_iconst (v := 1) dR_unwinds_62 rfl ?_
            refine x_goto (tgt := 67) dR_unwinds_63 (by decide) ?_
            -- at 67: .isub
            exact tail 1 (by rw [if_pos (Or.inr d2)])
      · refine x_icmp_lt (tgt := 79) dR_unwinds_22 (by decide) (fun _ => ?_) (fun h => absurd (nI_lt (by omega) (by omega)) h)
        refine x_return dR_unwinds_79 rfl ?_
        refine h1 I' hF hts ?_
        rw [unw_stop (show top (c :: t2) < r from (show rank c < r by omega))]
        exact hrs0
  exact loop h o I .null rfl hlen hrs FrT.rfl (fun _ _ => rfl) h1
def sp_R_opensOne : SpT := fun as S I L Post => ∃ (c : Int32) (t a0 : Nat) (h o : List Int32), as = [.ref 59, .int c] ∧ S = S1 ∧ isOpn c ∧ RS I t a0 h o ∧ h.length < 160 ∧ cnt h ≤ 5 ∧ (¬ cnt h < 5 → Post (some (.int 0)) S1 I L) ∧ (cnt h < 5 → ∀ I' : IM, FrT t a0 I I' → tokSame I I' → RS I' t a0 (c :: h) o → Post (some (.int 1)) S1 I' L)
set_option maxHeartbeats 4000000 in
set_option maxRecDepth 100000 in
theorem c_R_opensOne : Con mR_opensOne 3 0 0 sp_R_opensOne := by
  refine con_of_X rfl fun G as S I L Post hs => ?_
  obtain ⟨c, t, a0, h, o, rfl, rfl, hc, hrs, hlen, h5, h1, h2⟩ := hs
  refine ⟨0, Nat.le_of_ble_eq_true rfl, ?_⟩
  show X mR_opensOne G _ S1 I L 0 [.ref 59, .int c] [] Post
  obtain ⟨r1, r2, r3, r4, r5, r6, r7⟩ := hrs
  refine x_aload_n dR_opensOne_0 rfl ?_
  refine x_getI fl_R_196 rfl dR_opensOne_1 rfl rfl ?_
  refine x_iconst (v := 5) dR_opensOne_4 rfl ?_
  -- at 5: .if_icmp .ne 5
  rw [r3]
  by_cases c5 : cnt h < 5
  · refine x_icmp_ne (tgt := 10) dR_opensOne_5 (by decide) (fun _ => ?_) (fun h => absurd h (fun y => absurd ((nI_eq (b := 5) (by omega) (by omega)).mp y) (by omega)))
    refine x_aload_n dR_opensOne_10 rfl ?_
    refine x_dup dR_opensOne_11 rfl ?_
    refine x_getI fl_R_196 rfl dR_opensOne_12 rfl rfl ?_
    -- at 15: .iconst 1
    rw [r3]
    refine x_iconst (v := 1) dR_opensOne_15 rfl ?_
    refine x_iadd dR_opensOne_16 ?_
    refine x_putI fl_R_196 rfl dR_opensOne_17 (by decide) rfl rfl rfl rfl ?_
    refine x_aload_n dR_opensOne_20 rfl ?_
    refine x_iload_n dR_opensOne_21 rfl ?_
    -- at 22: .invokevirtual 203
    rw [nI_1]
    refine x_callV_1 c_R_holds ok_R_holds ml_R_203 dR_opensOne_22 rfl rfl rfl rfl rfl ?_
    have hcc : cnt h + 1 = cnt (c :: h) := by rw [cnt, if_pos hc]
    refine ⟨c, t, a0, h, o, rfl, rfl, hc.elim Or.inl (fun y => y.elim (fun y => Or.inr (Or.inr (Or.inr (Or.inl y)))) (fun y => Or.inr (Or.inr (Or.inr (Or.inr (Or.inr (Or.inr (Or.inr (Or.inr (Or.inr y)))))))))), hlen, ?_, ?_, ?_, ?_, ?_, ?_, r7, fun I' hF hts hrs => ?_⟩
    · rw [f59_n (by decide)]; exact r1
    · rw [f59_n (by decide)]; exact r2
    · rw [f59_s, hcc]
    · rw [f59_n (by decide)]; exact r4
    · rw [up2_n _ _ _ (by decide)]; exact r5
    · rw [up2_n _ _ _ (by decide)]; exact r6
    · refine x_iconst (v := 1) dR_opensOne_25 rfl ?_
      -- at 26: .ireturn
      refine x_ireturn dR_opensOne_26 rfl rfl ?_
      refine h2 c5 I' ((FrT.rfl.up59 (by decide) _).tr hF) (fun j hj => ?_) hrs
      have : j ≠ 51 := by rintro rfl; exact absurd hj (by decide)
      rw [hts j hj, f59_n this]
  · have e5 : nI (cnt h) = 5 := by
      rw [show cnt h = 5 by omega]
      rfl
    refine x_icmp_ne (tgt := 10) dR_opensOne_5 (by decide) (fun h => absurd e5 h) (fun _ => ?_)
    refine x_iconst (v := 0) dR_opensOne_8 rfl ?_
    -- at 9: .ireturn
    refine x_ireturn dR_opensOne_9 rfl rfl ?_
    exact h1 c5
abbrev bcP (c : Int32) : Prop := c = 11 ∨ c = 12 ∨ c = 14 ∨ c = 15 ∨ c = 16 ∨ c = 17 ∨ c = 18
theorem bc_hc {c : Int32} (h : bcP c) : hcP c ∧ ¬ isOpn c ∧ 1 ≤ lst c ∧ lst c ≤ 7 ∧ rank c ≤ 7 := by
  rcases h with rfl | rfl | rfl | rfl | rfl | rfl | rfl <;> decide
theorem top_zero {h : List Int32} (hh : h = []) : top h = 0 := by rw [hh]; rfl
def sp_R_between : SpT := fun as S I L Post => ∃ (c : Int32) (t a0 : Nat) (h o : List Int32), as = [.ref 59, .int c] ∧ S = S1 ∧ bcP c ∧ RS I t a0 h o ∧ t < 6 ∧ a0 + o.length + h.length < 160 ∧ (rank c = 4 ∧ top (unw 5 h o).1 = 4 → ∀ I' : IM, FrT t a0 I I' → tokSame I I' → Post (some (.int 0)) S1 I' L) ∧ (¬ (rank c = 4 ∧ top (unw 5 h o).1 = 4) → ∀ I' : IM, FrT t a0 I I' → tokSame I I' → RS I' t a0 (c :: (unw (lst c) h o).1) (unw (lst c) h o).2 → Post (some (.int 1)) S1 I' L)
set_option maxHeartbeats 4000000 in
set_option maxRecDepth 100000 in
theorem c_R_between : Con mR_between 4 0 0 sp_R_between := by
  refine con_of_X rfl fun G as S I L Post hs => ?_
  obtain ⟨c, t, a0, h, o, rfl, rfl, hc, hrs, ht, hlen, h1, h2⟩ := hs
  refine ⟨0, Nat.le_of_ble_eq_true rfl, ?_⟩
  show X mR_between G _ S1 I L 0 [.ref 59, .int c] [] Post
  obtain ⟨b1, b2, b3, b4, b5⟩ := bc_hc hc
  have e4 : nI (rank c) = 4 ↔ rank c = 4 := nI_eq (b := 4) (by omega) (by omega)
  have main : X mR_between G (4, 0, 0) S1 I L 17 [.ref 59, .int c] [.int (nI (lst c)), .ref 59] Post := by
    refine x_callV_1 c_R_unwinds ok_R_unwinds ml_R_206 dR_between_17 rfl rfl rfl rfl rfl ?_
    refine ⟨lst c, t, a0, h, o, rfl, rfl, b3, b4, hrs, ht, by omega, fun I1 hF1 hts1 hrs1 => ?_⟩
    obtain ⟨l1, l2, l3⟩ := unw_len (lst c) h o
    obtain ⟨r1, r2, r3, r4, r5, r6, r7⟩ := hrs1
    have hold : ¬ (rank c = 4 ∧ top (unw 5 h o).1 = 4) → X mR_between G (4, 0, 0) S1 I1 L 55 [.ref 59, .int c] [] Post := by
      intro hn
      refine x_aload_n dR_between_55 rfl ?_
      refine x_iload_n dR_between_56 rfl ?_
      -- at 57: .invokevirtual 203
      refine x_callV_1 c_R_holds ok_R_holds ml_R_203 dR_between_57 rfl rfl rfl rfl rfl ?_
      refine ⟨c, t, a0, (unw (lst c) h o).1, (unw (lst c) h o).2, rfl, rfl, b1, by omega, r1, r2, ?_, r4, r5, r6, r7, fun I2 hF2 hts2 hrs2 => ?_⟩
      · rw [cnt, if_neg b2]
        exact r3
      · refine x_iconst (v := 1) dR_between_60 rfl ?_
        -- at 61: .ireturn
        refine x_ireturn dR_between_61 rfl rfl ?_
        exact h2 hn I2 (hF1.tr hF2) (fun j hj => (hts2 j hj).trans (hts1 j hj)) hrs2
    refine x_iload_n dR_between_20 rfl ?_
    -- at 21: .invokestatic 193
    refine x_callS_1 c_R_rank ok_R_rank ml_R_193 dR_between_21 rfl rfl ?_
    refine ⟨c, rfl, b1, ?_⟩
    refine x_iconst (v := 4) dR_between_24 rfl ?_
    -- at 25: .if_icmp .ne 30
    by_cases c4 : rank c = 4
    · have el : lst c = 5 := by unfold lst; rw [if_pos c4]
      refine x_icmp_ne (tgt := 55) dR_between_25 (by decide) (fun h => absurd (e4.mpr c4) h) (fun _ => ?_)
      refine x_aload_n dR_between_28 rfl ?_
      refine x_getI fl_R_190 rfl dR_between_29 rfl rfl ?_
      -- at 32: .ifCond .le 23
      rw [r2]
      rw [el] at r2 r5 r7 l2
      cases hu : (unw 5 h o).1 with
      | nil =>
        rw [el, hu]
        refine x_if_le (tgt := 55) dR_between_32 (by decide) (fun _ => ?_) (fun h => absurd (show nI 0 ≤ (0 : Int32) from Int32.le_refl _) h)
        exact hold (fun y => by rw [hu] at y; exact absurd y.2 (by decide))
      | cons x xs =>
        rw [hu] at r2 r5 r7 h1 l2
        rw [hu] at hold
        rw [List.length_cons] at r2 l2
        rw [el, hu, List.length_cons]
        refine x_if_le (tgt := 55) dR_between_32 (by decide) (fun h => absurd h (nI_ge (a := 0) (by omega) (by omega))) (fun _ => ?_)
        refine x_aload_n dR_between_35 rfl ?_
        refine x_getR fl_R_113 rfl dR_between_36 rfl rfl rfl ?_
        refine x_aload_n dR_between_39 rfl ?_
        refine x_getI fl_R_190 rfl dR_between_40 rfl rfl ?_
        -- at 43: .iconst 1
        rw [r2]
        refine x_iconst (v := 1) dR_between_43 rfl ?_
        refine x_isub dR_between_44 ?_
        -- at 45: .iaload
        refine x_eqi (y := nI xs.length) (nI_pred _) ?_
        have hxl : xs.length < 160 := by omega
        refine x_ialdJ (j := xs.length) dR_between_45 rfl rfl (by first | rfl | (simp only [← nI_add, ← pk_mul]; rfl)) (by omega) ?_
        -- at 46: .invokestatic 193
        rw [r5.top]
        refine x_callS_1 c_R_rank ok_R_rank ml_R_193 dR_between_46 rfl rfl ?_
        refine ⟨x, rfl, r7 x List.mem_cons_self, ?_⟩
        refine x_iconst (v := 4) dR_between_49 rfl ?_
        -- at 50: .if_icmp .ne 5
        have ex : nI (rank x) = 4 ↔ rank x = 4 := nI_eq (b := 4) (by have := rank_le x; omega) (by omega)
        by_cases cx : rank x = 4
        · refine x_icmp_ne (tgt := 55) dR_between_50 (by decide) (fun h => absurd (ex.mpr cx) h) (fun _ => ?_)
          refine x_iconst (v := 0) dR_between_53 rfl ?_
          -- at 54: .ireturn
          refine x_ireturn dR_between_54 rfl rfl ?_
          exact h1 ⟨c4, cx⟩ I1 hF1 hts1
        · refine x_icmp_ne (tgt := 55) dR_between_50 (by decide) (fun _ => ?_) (fun h => absurd h (fun y => cx (ex.mp y)))
          exact hold (fun y => cx y.2)
    · refine x_icmp_ne (tgt := 55) dR_between_25 (by decide) (fun _ => ?_) (fun h => absurd h (fun y => c4 (e4.mp y)))
      exact hold (fun y => c4 y.1)
  refine x_aload_n dR_between_0 rfl ?_
  refine x_iload_n dR_between_1 rfl ?_
  -- at 2: .invokestatic 193
  refine x_callS_1 c_R_rank ok_R_rank ml_R_193 dR_between_2 rfl rfl ?_
  refine ⟨c, rfl, b1, ?_⟩
  refine x_iconst (v := 4) dR_between_5 rfl ?_
  -- at 6: .if_icmp .ne 7
  by_cases c4 : rank c = 4
  · refine x_icmp_ne (tgt := 13) dR_between_6 (by decide) (fun h => absurd (e4.mpr c4) h) (fun _ => ?_)
    refine x_iconst (v := 5) dR_between_9 rfl ?_
    refine x_goto (tgt := 17) dR_between_10 (by decide) ?_
    -- at 17: .invokevirtual 206
    have el : lst c = 5 := by unfold lst; rw [if_pos c4]
    rw [el] at main
    exact main
  · refine x_icmp_ne (tgt := 13) dR_between_6 (by decide) (fun _ => ?_) (fun h => absurd h (fun y => c4 (e4.mp y)))
    refine x_iload_n dR_between_13 rfl ?_
    -- at 14: .invokestatic 193
    refine x_callS_1 c_R_rank ok_R_rank ml_R_193 dR_between_14 rfl rfl ?_
    refine ⟨c, rfl, b1, ?_⟩
    have el : lst c = rank c := by unfold lst; rw [if_neg c4]
    rw [el] at main
    exact main
