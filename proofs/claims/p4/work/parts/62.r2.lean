/-! the reference: people, promises, sayings -/
def rV (I : IM) : IM := fun a => match a with
  | 0 => I 60 | 1 => I 61 | 2 => I 62 | 3 => I 63 | 4 => I 64 | 5 => I 65 | 6 => I 66 | 7 => I 67 | 8 => I 68
  | 9 => I 69 | 10 => I 70 | 11 => I 71 | 12 => I 72 | 13 => I 73
  | 14 => I 74 | 15 => I 75 | 16 => I 76 | 17 => I 77 | _ => fun _ => 0
theorem rVE (I : IM) : VEq (rV I) (rE I) (pN (rE I)) (sN (rE I)) := by
  refine ⟨fun a ha h9 => ?_, fun p hp => ?_, fun s hs => ⟨?_, ?_, ?_, ?_⟩⟩
  · rcases (show a = 0 ∨ a = 1 ∨ a = 2 ∨ a = 3 ∨ a = 4 ∨ a = 5 ∨ a = 6 ∨ a = 7 ∨ a = 8 ∨ a = 10 ∨ a = 11 ∨ a = 12 ∨ a = 13 by omega) with rfl | rfl | rfl | rfl | rfl | rfl | rfl | rfl | rfl | rfl | rfl | rfl | rfl <;> rfl
  · exact (mk_lt hp).symm
  · exact (mk_lt hs).symm
  · exact (mk_lt hs).symm
  · exact (mk_lt hs).symm
  · exact (mk_lt hs).symm
theorem perV_of {E V : IM} {n m : Nat} (h : iA E) (hn : n = pN E) (hv : VEq V E n m) {p : Nat} (hp : p < n) : PerV V p := by
  subst hn
  obtain ⟨x1, x2, x3, x4, x5, x6, x7, x8⟩ := h.2.2 p hp
  unfold PerV
  rw [hv.1 2 (by omega) (by omega), hv.1 3 (by omega) (by omega), hv.1 5 (by omega) (by omega), hv.2.1 p hp]
  exact ⟨x1, x2, x4, x8⟩
theorem sayV_of {E V : IM} {n m : Nat} (hq : qN E ≤ 8) (h : iC E) (hm : m = sN E) (hv : VEq V E n m) {s : Nat} (hs : s < m) : SayV V s := by
  subst hm
  obtain ⟨⟨k, hk, e⟩, x2, x3, -⟩ := h.2.2 s hs
  obtain ⟨a14, a15, a16, a17⟩ := hv.2.2 s hs
  unfold SayV
  rw [a14, a15, a16]
  exact ⟨⟨k, by omega, e⟩, x2, x3⟩
theorem in23 {t : Int32} : (2 ≤ t ∧ t ≤ 3) ↔ (t = 2 ∨ t = 3) := by
  constructor
  · intro h
    obtain ⟨k, hk, rfl⟩ := nat_of (n := 3) (by decide) (by decide) h
    rcases (show k = 0 ∨ k = 1 ∨ k = 2 ∨ k = 3 by omega) with rfl | rfl | rfl | rfl
    · exact absurd h.1 (by decide)
    · exact absurd h.1 (by decide)
    · exact Or.inl rfl
    · exact Or.inr rfl
  · rintro (rfl | rfl) <;> decide
theorem div_mo {mo : Int32} (h : rng mo 10) : (if mo = 0 then 1 else mo) = imax 1 mo ∧ ¬ (if mo = 0 then (1 : Int32) else mo) = 0 := by
  obtain ⟨k, hk, rfl⟩ := h
  exact (show ∀ k, k < 10 → (if nI k = 0 then 1 else nI k) = imax 1 (nI k) ∧ ¬ (if nI k = 0 then (1 : Int32) else nI k) = 0 by decide) k hk
def sp_R_whereIs : SpT := fun as S I L Post => ∃ (p : Nat) (t : Int32), as = [.ref 59, .int (nI p), .int t] ∧ S = S1 ∧ p < 8 ∧ PerV (rV I) p ∧ Post (some (.int (whereV (rV I) p t))) S1 I L
set_option maxHeartbeats 4000000 in
set_option maxRecDepth 100000 in
theorem c_R_whereIs : Con mR_whereIs 3 0 0 sp_R_whereIs := by
  refine con_of_X rfl fun G as S I L Post hs => ?_
  obtain ⟨p, t, rfl, rfl, hp, hper, h1⟩ := hs
  obtain ⟨d1, d2⟩ := div_mo hper.2.2.1
  have d1 : (if I 65 p = 0 then 1 else I 65 p) = imax 1 (I 65 p) := d1
  have d2 : ¬ (if I 65 p = 0 then (1 : Int32) else I 65 p) = 0 := d2
  refine ⟨2, Nat.le_of_ble_eq_true rfl, ?_⟩
  show X mR_whereIs G _ S1 I L 0 [.ref 59, .int (nI p), .int t, .null, .null] [] Post
  have at25 : ∀ b : Int32, b = startV (rV I) p → X mR_whereIs G (3, 0, 0) S1 I L 25 [.ref 59, .int (nI p), .int t, .null, .null] [.int b] Post := by
    intro b hb
    have h1 : Post (some (.int (whK (I 62 p) b (I 65 p) t))) S1 I L := by rw [hb]; exact h1
    refine x_istoren_3 dR_whereIs_25 rfl rfl ?_
    refine x_aload_n dR_whereIs_26 rfl ?_
    refine x_getR fl_R_20 rfl dR_whereIs_27 rfl rfl rfl ?_
    refine x_iload_n dR_whereIs_30 rfl ?_
    refine x_ialdJ dR_whereIs_31 rfl rfl rfl (by omega) ?_
    refine x_istore_4 dR_whereIs_32 rfl rfl ?_
    refine x_iload dR_whereIs_34 rfl ?_
    refine x_iconst (v := 3) dR_whereIs_36 rfl ?_
    -- at 37: .if_icmp .ne 14
    have at51 : ¬ (I 62 p = 3 ∧ (t = 2 ∨ t = 3)) → X mR_whereIs G (3, 0, 0) S1 I L 51 [.ref 59, .int (nI p), .int t, .int b, .int (I 62 p)] [] Post := by
      intro hc
      have at69 : (I 62 p = 1 ∨ I 62 p = 3 ∨ I 62 p = 5) → X mR_whereIs G (3, 0, 0) S1 I L 69 [.ref 59, .int (nI p), .int t, .int b, .int (I 62 p)] [] Post := by
        intro hk
        have hu : isU (I 62 p) 1 := hk.elim (fun z => Or.inr (Or.inl z)) (fun z => Or.inr (Or.inr ⟨rfl, z⟩))
        rw [whK, if_pos hu, if_neg hc, ← d1] at h1
        have fin : ∀ x : Int32, x = (if I 65 p = 0 then 1 else I 65 p) → X mR_whereIs G (3, 0, 0) S1 I L 90 [.ref 59, .int (nI p), .int t, .int b, .int (I 62 p)] [.int x, .int t, .int b] Post := by
          intro x hx
          subst hx
          refine x_idiv dR_whereIs_90 d2 ?_
          refine x_iadd dR_whereIs_91 ?_
          refine x_bipush (v := 6) dR_whereIs_92 rfl ?_
          refine x_irem dR_whereIs_94 (by decide) ?_
          refine x_goto (tgt := 99) dR_whereIs_95 (by decide) ?_
          -- at 99: .ireturn
          refine x_ireturn dR_whereIs_99 rfl rfl ?_
          exact h1
        refine x_iload_n dR_whereIs_69 rfl ?_
        refine x_iload_n dR_whereIs_70 rfl ?_
        refine x_aload_n dR_whereIs_71 rfl ?_
        refine x_getR fl_R_29 rfl dR_whereIs_72 rfl rfl rfl ?_
        refine x_iload_n dR_whereIs_75 rfl ?_
        refine x_ialdJ dR_whereIs_76 rfl rfl rfl (by omega) ?_
        -- at 77: .ifCond .ne 7
        refine x_if_ne (tgt := 84) dR_whereIs_77 (by decide) (fun c1 => ?_) (fun c1 => ?_)
        · refine x_aload_n dR_whereIs_84 rfl ?_
          refine x_getR fl_R_29 rfl dR_whereIs_85 rfl rfl rfl ?_
          refine x_iload_n dR_whereIs_88 rfl ?_
          refine x_ialdJ dR_whereIs_89 rfl rfl rfl (by omega) ?_
          -- at 90: .idiv
          exact fin _ (by rw [if_neg c1])
        · refine x_iconst (v := 1) dR_whereIs_80 rfl ?_
          refine x_goto (tgt := 90) dR_whereIs_81 (by decide) ?_
          -- at 90: .idiv
          exact fin _ (by rw [if_pos c1])
      refine x_iload dR_whereIs_51 rfl ?_
      refine x_iconst (v := 1) dR_whereIs_53 rfl ?_
      -- at 54: .if_icmp .eq 15
      refine x_icmp_eq (tgt := 69) dR_whereIs_54 (by decide) (fun c1 => ?_) (fun c1 => ?_)
      · exact at69 (Or.inl c1)
      · refine x_iload dR_whereIs_57 rfl ?_
        refine x_iconst (v := 3) dR_whereIs_59 rfl ?_
        -- at 60: .if_icmp .eq 9
        refine x_icmp_eq (tgt := 69) dR_whereIs_60 (by decide) (fun c2 => ?_) (fun c2 => ?_)
        · exact at69 (Or.inr (Or.inl c2))
        · refine x_iload dR_whereIs_63 rfl ?_
          refine x_iconst (v := 5) dR_whereIs_65 rfl ?_
          -- at 66: .if_icmp .ne 32
          refine x_icmp_ne (tgt := 98) dR_whereIs_66 (by decide) (fun c3 => ?_) (fun c3 => ?_)
          · have hu : ¬ isU (I 62 p) 1 := fun z => z.elim (fun y => absurd y (by decide)) (fun y => y.elim c1 (fun x => x.2.elim c2 c3))
            rw [whK, if_neg hu] at h1
            refine x_iload_n dR_whereIs_98 rfl ?_
            -- at 99: .ireturn
            refine x_ireturn dR_whereIs_99 rfl rfl ?_
            exact h1
          · exact at69 (Or.inr (Or.inr c3))
    refine x_icmp_ne (tgt := 51) dR_whereIs_37 (by decide) (fun c1 => ?_) (fun c1 => ?_)
    · exact at51 (fun z => c1 z.1)
    · refine x_iload_n dR_whereIs_40 rfl ?_
      refine x_iconst (v := 2) dR_whereIs_41 rfl ?_
      refine x_iconst (v := 3) dR_whereIs_42 rfl ?_
      -- at 43: .invokestatic 151
      refine x_callS_3 c_R_in ok_R_in ml_R_151 dR_whereIs_43 rfl rfl ?_
      refine ⟨t, 2, 3, rfl, fun q => ?_, fun q => ?_⟩
      · have hu : isU (I 62 p) 1 := Or.inr (Or.inr ⟨rfl, Or.inl c1⟩)
        rw [whK, if_pos hu, if_pos ⟨c1, in23.mp q⟩] at h1
        refine x_if_eq (tgt := 51) dR_whereIs_46 (by decide) (fun h => absurd h (by decide)) (fun _ => ?_)
        refine x_iconst (v := 0) dR_whereIs_49 rfl ?_
        -- at 50: .ireturn
        refine x_ireturn dR_whereIs_50 rfl rfl ?_
        exact h1
      · refine x_if_eq (tgt := 51) dR_whereIs_46 (by decide) (fun _ => ?_) (fun h => absurd (by decide) h)
        exact at51 (fun z => q (in23.mpr z.2))
  refine x_aload_n dR_whereIs_0 rfl ?_
  refine x_getR fl_R_41 rfl dR_whereIs_1 rfl rfl rfl ?_
  refine x_iload_n dR_whereIs_4 rfl ?_
  refine x_ialdJ dR_whereIs_5 rfl rfl rfl (by omega) ?_
  refine x_iconst (v := -1) dR_whereIs_6 rfl ?_
  -- at 7: .if_icmp .ne 12
  refine x_icmp_ne (tgt := 19) dR_whereIs_7 (by decide) (fun c1 => ?_) (fun c1 => ?_)
  · refine x_aload_n dR_whereIs_19 rfl ?_
    refine x_getR fl_R_41 rfl dR_whereIs_20 rfl rfl rfl ?_
    refine x_iload_n dR_whereIs_23 rfl ?_
    refine x_ialdJ dR_whereIs_24 rfl rfl rfl (by omega) ?_
    -- at 25: .istore_n 3
    refine at25 _ ?_
    unfold startV
    exact (if_neg (show ¬ rV I 9 p = -1 from c1)).symm
  · refine x_aload_n dR_whereIs_10 rfl ?_
    refine x_getR fl_R_23 rfl dR_whereIs_11 rfl rfl rfl ?_
    refine x_iload_n dR_whereIs_14 rfl ?_
    refine x_ialdJ dR_whereIs_15 rfl rfl rfl (by omega) ?_
    refine x_goto (tgt := 25) dR_whereIs_16 (by decide) ?_
    -- at 25: .istore_n 3
    refine at25 _ ?_
    unfold startV
    exact (if_pos (show rV I 9 p = -1 from c1)).symm
def rFadd (I : IM) (n : Nat) (k w ws ld : Int32) : IM := up2 (up2 (up2 (up2 (up2 (up2 (up2 (up2 (up2 I 62 n k) 63 n (w / 100)) 64 n (rem (w / 10) 10)) 65 n (rem w 10)) 66 n ws) 67 n (ld / 100)) 68 n (rem ld 100)) 69 n (-1)) 59 3 (nI n + 1)
theorem rE_addP (I : IM) (k w ws ld : Int32) (hn : I 59 3 = nI (pN (rE I))) (h8 : pN (rE I) ≤ 8) : rE (rFadd I (pN (rE I)) k w ws ld) = addP (rE I) (pN (rE I)) k w ws ld := by
  have e0 : cl (I 59 3) = pN (rE I) := rfl
  generalize pN (rE I) = n at hn h8 e0 ⊢
  unfold rFadd addP
  rw [rE_n1, show nI n + 1 = nI (n + 1) from nI_1 n, cl_nI (by omega), show up2 (up2 (up2 (up2 (up2 (up2 (up2 (up2 I 62 n k) 63 n (w / 100)) 64 n (rem (w / 10) 10)) 65 n (rem w 10)) 66 n ws) 67 n (ld / 100)) 68 n (rem ld 100)) 69 n (-1) 69 = up1 (I 69) n (-1) by simp only [up2_n, up2_s, ne_eq, Nat.reduceEqDiff, not_false_eq_true], mk_up]
  rw [show ∀ J : IM, rE (up2 J 69 n (-1)) = upr (rE J) 9 (mk (cl (J 59 3)) (up1 (J 69) n (-1))) from fun J => rE_9 J _]
  rw [rE_u8, rE_u7, rE_u6, rE_u5, rE_u4, rE_u3, rE_u2]
  funext a
  by_cases h9 : a = 9
  · subst h9
    simp only [up2_n, up2_s, ne_eq, Nat.reduceEqDiff, not_false_eq_true, upr_s, upr_n]
    rw [show rE I 9 = mk (cl (I 59 3)) (I 69) from rfl, e0]
  · by_cases h29 : a = 29
    · subst h29
      simp only [up2_n, up2_s, ne_eq, Nat.reduceEqDiff, not_false_eq_true, upr_s, upr_n]
    · rw [upr_n _ _ h9, up2_n _ _ _ h29, upr_n _ _ h9, up2_n _ _ _ h29, up2_n _ _ _ h9]
theorem perC_w {w : Int32} (h : 0 ≤ w) : w / 100 ≤ 5 ↔ w ≤ 599 := by
  obtain ⟨k, hk, rfl⟩ := nat_any h
  have e : nI k / 100 = nI (k / 100) := pk_div (d := 100) hk (by omega) (by omega)
  rw [e]
  constructor
  · intro q
    by_cases z : k ≤ 599
    · exact nI_le (b := 599) z (by omega)
    · exact absurd q (nI_ge (a := 5) (by omega) (by omega))
  · intro q
    by_cases z : k ≤ 599
    · exact nI_le (b := 5) (by omega) (by omega)
    · exact absurd q (nI_ge (a := 599) (by omega) (by omega))
theorem perC_l {w : Int32} (h : 0 ≤ w) : (1 ≤ w / 100 ∧ w / 100 ≤ 9) ↔ (100 ≤ w ∧ w ≤ 999) := by
  obtain ⟨k, hk, rfl⟩ := nat_any h
  have e : nI k / 100 = nI (k / 100) := pk_div (d := 100) hk (by omega) (by omega)
  rw [e]
  constructor
  · rintro ⟨q1, q2⟩
    by_cases z : 100 ≤ k ∧ k ≤ 999
    · exact ⟨nI_le (a := 100) z.1 (by omega), nI_le (b := 999) z.2 (by omega)⟩
    · by_cases y : 100 ≤ k
      · exact absurd q2 (nI_ge (a := 9) (by omega) (by omega))
      · exact absurd q1 (nI_ge (b := 1) (by omega) (by omega))
  · rintro ⟨q1, q2⟩
    by_cases z : 100 ≤ k ∧ k ≤ 999
    · exact ⟨nI_le (a := 1) (by omega) (by omega), nI_le (b := 9) (by omega) (by omega)⟩
    · by_cases y : 100 ≤ k
      · exact absurd q2 (nI_ge (a := 999) (by omega) (by omega))
      · exact absurd q1 (nI_ge (b := 100) (by omega) (by omega))
def sp_R_person : SpT := fun as S I L Post => ∃ k w ws ld : Int32, rSp [.int k, .int w, .int ws, .int ld] (fun E => .int (personS E k w ws ld)) (fun E => personU E k w ws ld) as S I L Post
set_option maxHeartbeats 4000000 in
set_option maxRecDepth 100000 in
theorem c_R_person : Con mR_person 3 0 0 sp_R_person := by
  refine con_of_X rfl fun G as S I L Post hs => ?_
  obtain ⟨k, w, ws, ld, rfl, rfl, ⟨hok, own⟩, h1⟩ := hs
  dsimp only at h1
  refine ⟨1, Nat.le_of_ble_eq_true rfl, ?_⟩
  show X mR_person G _ S1 I L 0 [.ref 59, .int k, .int w, .int ws, .int ld, .null] [] Post
  have hn : I 59 3 = nI (pN (rE I)) := hok.1.1
  have h8 := hok.1.2.1
  have bad : ¬ perC k w ws ld → ∀ a5 : Value, X mR_person G (3, 0, 0) S1 I L 63 [.ref 59, .int k, .int w, .int ws, .int ld, a5] [] Post := by
    intro hc a5
    rw [personS, personU, if_pos hc, if_pos hc] at h1
    refine x_bipush (v := -2) dR_person_63 rfl ?_
    -- at 65: .ireturn
    refine x_ireturn dR_person_65 rfl rfl ?_
    exact h1 I L (fun _ _ => rfl) own rfl
  have at47 : ∀ x : Int32, (x = 1 ∧ (inR w 0 599 ∧ inR ws 0 255 ∧ inR ld 100 999)) ∨ (x = 0 ∧ ¬ (inR w 0 599 ∧ inR ws 0 255 ∧ inR ld 100 999)) → X mR_person G (3, 0, 0) S1 I L 47 [.ref 59, .int k, .int w, .int ws, .int ld, .null] [.int x] Post := by
    intro x hx
    refine x_istore_5 dR_person_47 rfl rfl ?_
    refine x_iload_n dR_person_49 rfl ?_
    refine x_iconst (v := 0) dR_person_50 rfl ?_
    refine x_iconst (v := 5) dR_person_51 rfl ?_
    -- at 52: .invokestatic 151
    refine x_callS_3 c_R_in ok_R_in ml_R_151 dR_person_52 rfl rfl ?_
    refine ⟨_, _, _, rfl, fun a1 => ?_, fun a1 => ?_⟩
    · have a1 : inR k 0 5 := a1
      refine x_if_eq (tgt := 63) dR_person_55 (by decide) (fun h => absurd h (by decide)) (fun _ => ?_)
      refine x_iload dR_person_58 rfl ?_
      -- at 60: .ifCond .ne 6
      rcases hx with ⟨rfl, hx⟩ | ⟨rfl, hx⟩
      · refine x_if_ne (tgt := 66) dR_person_60 (by decide) (fun _ => ?_) (fun h => absurd h (by decide))
        have hc : perC k w ws ld := ⟨a1, hx⟩
        rw [personS, personU, if_neg (not_not_intro hc), if_neg (not_not_intro hc)] at h1
        refine x_aload_n dR_person_66 rfl ?_
        refine x_getI fl_R_148 rfl dR_person_67 rfl rfl ?_
        refine x_bipush (v := 8) dR_person_70 rfl ?_
        -- at 72: .if_icmp .ne 6
        rw [hn]
        refine x_icmp_ne (tgt := 78) dR_person_72 (by decide) (fun c1 => ?_) (fun c1 => ?_)
        · have hlt : pN (rE I) < 8 := by
            by_cases z : pN (rE I) = 8
            · rw [z] at c1
              exact absurd rfl c1
            · omega
          have hl : rE I 29 1 < 8 := by
            rw [show rE I 29 1 = nI (pN (rE I)) from hn]
            exact (nI_ltI (b := 8) (by omega) (by omega)).mpr hlt
          rw [if_neg (not_not_intro hl), if_neg (not_not_intro hl)] at h1
          refine x_aload_n dR_person_78 rfl ?_
          refine x_getR fl_R_20 rfl dR_person_79 rfl rfl rfl ?_
          refine x_aload_n dR_person_82 rfl ?_
          refine x_getI fl_R_148 rfl dR_person_83 rfl rfl ?_
          -- at 86: .iload_n 1
          rw [hn]
          refine x_iload_n dR_person_86 rfl ?_
          refine x_iastJ (j := pN (rE I)) dR_person_87 rfl rfl (by first | rfl | (simp only [← nI_add, ← pk_mul]; rfl)) (by omega) ?_
          refine x_aload_n dR_person_88 rfl ?_
          refine x_getR fl_R_23 rfl dR_person_89 rfl rfl rfl ?_
          refine x_aload_n dR_person_92 rfl ?_
          refine x_getI fl_R_148 rfl dR_person_93 rfl rfl ?_
          -- at 96: .iload_n 2
          simp only [up2_n, up2_s, ne_eq, Nat.reduceEqDiff, not_false_eq_true, hn]
          refine x_iload_n dR_person_96 rfl ?_
          refine x_bipush (v := 100) dR_person_97 rfl ?_
          refine x_idiv dR_person_99 (by decide) ?_
          refine x_iastJ (j := pN (rE I)) dR_person_100 rfl rfl (by first | rfl | (simp only [← nI_add, ← pk_mul]; rfl)) (by omega) ?_
          refine x_aload_n dR_person_101 rfl ?_
          refine x_getR fl_R_26 rfl dR_person_102 rfl rfl rfl ?_
          refine x_aload_n dR_person_105 rfl ?_
          refine x_getI fl_R_148 rfl dR_person_106 rfl rfl ?_
          -- at 109: .iload_n 2
          simp only [up2_n, up2_s, ne_eq, Nat.reduceEqDiff, not_false_eq_true, hn]
          refine x_iload_n dR_person_109 rfl ?_
          refine x_bipush (v := 10) dR_person_110 rfl ?_
          refine x_idiv dR_person_112 (by decide) ?_
          refine x_bipush (v := 10) dR_person_113 rfl ?_
          refine x_irem dR_person_115 (by decide) ?_
          refine x_iastJ (j := pN (rE I)) dR_person_116 rfl rfl (by first | rfl | (simp only [← nI_add, ← pk_mul]; rfl)) (by omega) ?_
          refine x_aload_n dR_person_117 rfl ?_
          refine x_getR fl_R_29 rfl dR_person_118 rfl rfl rfl ?_
          refine x_aload_n dR_person_121 rfl ?_
          refine x_getI fl_R_148 rfl dR_person_122 rfl rfl ?_
          -- at 125: .iload_n 2
          simp only [up2_n, up2_s, ne_eq, Nat.reduceEqDiff, not_false_eq_true, hn]
          refine x_iload_n dR_person_125 rfl ?_
          refine x_bipush (v := 10) dR_person_126 rfl ?_
          refine x_irem dR_person_128 (by decide) ?_
          refine x_iastJ (j := pN (rE I)) dR_person_129 rfl rfl (by first | rfl | (simp only [← nI_add, ← pk_mul]; rfl)) (by omega) ?_
          refine x_aload_n dR_person_130 rfl ?_
          refine x_getR fl_R_32 rfl dR_person_131 rfl rfl rfl ?_
          refine x_aload_n dR_person_134 rfl ?_
          refine x_getI fl_R_148 rfl dR_person_135 rfl rfl ?_
          -- at 138: .iload_n 3
          simp only [up2_n, up2_s, ne_eq, Nat.reduceEqDiff, not_false_eq_true, hn]
          refine x_iload_n dR_person_138 rfl ?_
          refine x_iastJ (j := pN (rE I)) dR_person_139 rfl rfl (by first | rfl | (simp only [← nI_add, ← pk_mul]; rfl)) (by omega) ?_
          refine x_aload_n dR_person_140 rfl ?_
          refine x_getR fl_R_35 rfl dR_person_141 rfl rfl rfl ?_
          refine x_aload_n dR_person_144 rfl ?_
          refine x_getI fl_R_148 rfl dR_person_145 rfl rfl ?_
          -- at 148: .iload 4
          simp only [up2_n, up2_s, ne_eq, Nat.reduceEqDiff, not_false_eq_true, hn]
          refine x_iload dR_person_148 rfl ?_
          refine x_bipush (v := 100) dR_person_150 rfl ?_
          refine x_idiv dR_person_152 (by decide) ?_
          refine x_iastJ (j := pN (rE I)) dR_person_153 rfl rfl (by first | rfl | (simp only [← nI_add, ← pk_mul]; rfl)) (by omega) ?_
          refine x_aload_n dR_person_154 rfl ?_
          refine x_getR fl_R_38 rfl dR_person_155 rfl rfl rfl ?_
          refine x_aload_n dR_person_158 rfl ?_
          refine x_getI fl_R_148 rfl dR_person_159 rfl rfl ?_
          -- at 162: .iload 4
          simp only [up2_n, up2_s, ne_eq, Nat.reduceEqDiff, not_false_eq_true, hn]
          refine x_iload dR_person_162 rfl ?_
          refine x_bipush (v := 100) dR_person_164 rfl ?_
          refine x_irem dR_person_166 (by decide) ?_
          refine x_iastJ (j := pN (rE I)) dR_person_167 rfl rfl (by first | rfl | (simp only [← nI_add, ← pk_mul]; rfl)) (by omega) ?_
          refine x_aload_n dR_person_168 rfl ?_
          refine x_getR fl_R_41 rfl dR_person_169 rfl rfl rfl ?_
          refine x_aload_n dR_person_172 rfl ?_
          refine x_getI fl_R_148 rfl dR_person_173 rfl rfl ?_
          -- at 176: .iconst (-1)
          simp only [up2_n, up2_s, ne_eq, Nat.reduceEqDiff, not_false_eq_true, hn]
          refine x_iconst (v := -1) dR_person_176 rfl ?_
          refine x_iastJ (j := pN (rE I)) dR_person_177 rfl rfl (by first | rfl | (simp only [← nI_add, ← pk_mul]; rfl)) (by omega) ?_
          refine x_aload_n dR_person_178 rfl ?_
          refine x_dup dR_person_179 rfl ?_
          refine x_getI fl_R_148 rfl dR_person_180 rfl rfl ?_
          -- at 183: .iconst 1
          simp only [up2_n, up2_s, ne_eq, Nat.reduceEqDiff, not_false_eq_true, hn]
          refine x_iconst (v := 1) dR_person_183 rfl ?_
          refine x_iadd dR_person_184 ?_
          refine x_putI fl_R_148 rfl dR_person_185 (by decide) rfl rfl rfl rfl ?_
          refine x_aload_n dR_person_188 rfl ?_
          refine x_getI fl_R_148 rfl dR_person_189 rfl rfl ?_
          -- at 192: .iconst 1
          simp only [up2_n, up2_s, ne_eq, Nat.reduceEqDiff, not_false_eq_true, up1, if_true]
          refine x_iconst (v := 1) dR_person_192 rfl ?_
          refine x_isub dR_person_193 ?_
          -- at 194: .ireturn
          refine x_eqi (y := nI (pN (rE I))) ?_ ?_
          · rw [nI_1]
            exact pk_sub (b := 1) (by omega)
          refine x_ireturn dR_person_194 rfl rfl ?_
          have := h1 (rFadd I (pN (rE I)) k w ws ld) L (fun j hj => by unfold rFadd; rw [up2_n _ _ _ (by omega), up2_n _ _ _ (by omega), up2_n _ _ _ (by omega), up2_n _ _ _ (by omega), up2_n _ _ _ (by omega), up2_n _ _ _ (by omega), up2_n _ _ _ (by omega), up2_n _ _ _ (by omega), up2_n _ _ _ (by omega)])
            (((((((((own.up (by decide) (Or.inl (by decide))).up (by decide) (Or.inl (by decide))).up (by decide) (Or.inl (by decide))).up (by decide) (Or.inl (by decide))).up (by decide) (Or.inl (by decide))).up (by decide) (Or.inl (by decide))).up (by decide) (Or.inl (by decide))).up (by decide) (Or.inl (by decide))).up (by decide) (Or.inr (by decide))) (rE_addP I k w ws ld hn h8)
          rw [show rE I 29 1 = nI (pN (rE I)) from hn] at this
          exact this
        · have hl : ¬ rE I 29 1 < 8 := by
            rw [show rE I 29 1 = nI (pN (rE I)) from hn, c1]
            decide
          rw [if_pos hl, if_pos hl] at h1
          refine x_bipush (v := -4) dR_person_75 rfl ?_
          -- at 77: .ireturn
          refine x_ireturn dR_person_77 rfl rfl ?_
          exact h1 I L (fun _ _ => rfl) own rfl
      · refine x_if_ne (tgt := 66) dR_person_60 (by decide) (fun h => absurd rfl h) (fun _ => ?_)
        exact bad (fun z => hx z.2) _
    · refine x_if_eq (tgt := 63) dR_person_55 (by decide) (fun _ => ?_) (fun h => absurd (by decide) h)
      exact bad (fun z => a1 z.1) _
  have bad46 : ¬ (inR w 0 599 ∧ inR ws 0 255 ∧ inR ld 100 999) → X mR_person G (3, 0, 0) S1 I L 46 [.ref 59, .int k, .int w, .int ws, .int ld, .null] [] Post := by
    intro hc
    refine x_iconst (v := 0) dR_person_46 rfl ?_
    -- at 47: .istore 5
    exact at47 0 (Or.inr ⟨rfl, hc⟩)
  refine x_iload_n dR_person_0 rfl ?_
  -- at 1: .ifCond .lt 45
  refine x_if_lt (tgt := 46) dR_person_1 (by decide) (fun c1 => ?_) (fun c1 => ?_)
  · exact bad46 (fun z => absurd z.1.1 (Int32.not_le.mpr c1))
  · have c1 : 0 ≤ w := Int32.not_lt.mp c1
    refine x_iload_n dR_person_4 rfl ?_
    refine x_bipush (v := 100) dR_person_5 rfl ?_
    refine x_idiv dR_person_7 (by decide) ?_
    refine x_iconst (v := 5) dR_person_8 rfl ?_
    -- at 9: .if_icmp .gt 37
    refine x_icmp_gt (tgt := 46) dR_person_9 (by decide) (fun c2 => ?_) (fun c2 => ?_)
    · exact bad46 (fun z => absurd ((perC_w c1).mpr z.1.2) (Int32.not_le.mpr c2))
    · have hw : inR w 0 599 := ⟨c1, (perC_w c1).mp (Int32.not_lt.mp c2)⟩
      refine x_iload_n dR_person_12 rfl ?_
      refine x_iconst (v := 0) dR_person_13 rfl ?_
      refine x_sipush (v := 255) dR_person_14 rfl ?_
      -- at 17: .invokestatic 151
      refine x_callS_3 c_R_in ok_R_in ml_R_151 dR_person_17 rfl rfl ?_
      refine ⟨_, _, _, rfl, fun a3 => ?_, fun a3 => ?_⟩
      · have a3 : inR ws 0 255 := a3
        refine x_if_eq (tgt := 46) dR_person_20 (by decide) (fun h => absurd h (by decide)) (fun _ => ?_)
        refine x_iload dR_person_23 rfl ?_
        -- at 25: .ifCond .lt 21
        refine x_if_lt (tgt := 46) dR_person_25 (by decide) (fun c4 => ?_) (fun c4 => ?_)
        · exact bad46 (fun z => absurd (Int32.le_trans (by decide) z.2.2.1) (Int32.not_le.mpr c4))
        · have c4 : 0 ≤ ld := Int32.not_lt.mp c4
          refine x_iload dR_person_28 rfl ?_
          refine x_bipush (v := 100) dR_person_30 rfl ?_
          refine x_idiv dR_person_32 (by decide) ?_
          refine x_iconst (v := 1) dR_person_33 rfl ?_
          refine x_bipush (v := 9) dR_person_34 rfl ?_
          -- at 36: .invokestatic 151
          refine x_callS_3 c_R_in ok_R_in ml_R_151 dR_person_36 rfl rfl ?_
          refine ⟨_, _, _, rfl, fun a5 => ?_, fun a5 => ?_⟩
          · refine x_if_eq (tgt := 46) dR_person_39 (by decide) (fun h => absurd h (by decide)) (fun _ => ?_)
            refine x_iconst (v := 1) dR_person_42 rfl ?_
            refine x_goto (tgt := 47) dR_person_43 (by decide) ?_
            -- at 47: .istore 5
            exact at47 1 (Or.inl ⟨rfl, hw, a3, (perC_l c4).mp a5⟩)
          · refine x_if_eq (tgt := 46) dR_person_39 (by decide) (fun _ => ?_) (fun h => absurd (by decide) h)
            exact bad46 (fun z => a5 ((perC_l c4).mpr z.2.2))
      · refine x_if_eq (tgt := 46) dR_person_20 (by decide) (fun _ => ?_) (fun h => absurd (by decide) h)
        exact bad46 (fun z => a3 z.2.1)
def sp_R_told : SpT := fun as S I L Post => ∃ p w : Int32, rSp [.int p, .int w] (fun E => .int (toldS E p w)) (fun E => E) as S I L Post
set_option maxHeartbeats 4000000 in
set_option maxRecDepth 100000 in
theorem c_R_told : Con mR_told 4 0 0 sp_R_told := by
  refine con_of_X rfl fun G as S I L Post hs => ?_
  obtain ⟨p, w, rfl, rfl, ⟨hok, own⟩, h1⟩ := hs
  dsimp only at h1
  refine ⟨0, Nat.le_of_ble_eq_true rfl, ?_⟩
  show X mR_told G _ S1 I L 0 [.ref 59, .int p, .int w] [] Post
  have hn : I 59 3 = nI (pN (rE I)) := hok.1.1
  have h8 := hok.1.2.1
  have h1 := h1 I L (fun _ _ => rfl) own rfl
  refine x_aload_n dR_told_0 rfl ?_
  refine x_iload_n dR_told_1 rfl ?_
  -- at 2: .invokevirtual 230
  refine x_callV_1 c_R_isOne ok_R_isOne ml_R_230 dR_told_2 rfl rfl rfl rfl rfl ?_
  refine ⟨_, rfl, rfl, fun a1 => ?_, fun a1 => ?_⟩
  · have a1 : inR p 0 (rE I 29 1 - 1) := a1
    refine x_if_ne (tgt := 11) dR_told_5 (by decide) (fun _ => ?_) (fun h => absurd h (by decide))
    rw [toldS, if_neg (not_not_intro a1)] at h1
    rw [show rE I 29 1 = nI (pN (rE I)) from hn] at a1
    obtain ⟨k, hk, rfl⟩ := has_nat (by omega) a1
    rw [cl_nI (by omega)] at h1
    refine x_iload_n dR_told_11 rfl ?_
    -- at 12: .tableswitch 93 0 6 #[44, 51, 58, 65, 72, 79, 86]
    by_cases w0 : w = 0
    · subst w0
      refine x_tableIn (tgt := 56) dR_told_12 (by decide) (by decide) rfl (by decide) ?_
      refine x_aload_n dR_told_56 rfl ?_
      refine x_getR fl_R_20 rfl dR_told_57 rfl rfl rfl ?_
      refine x_iload_n dR_told_60 rfl ?_
      refine x_ialdJ (j := k) dR_told_61 rfl rfl (by first | rfl | (simp only [← nI_add, ← pk_mul]; rfl)) (by omega) ?_
      -- at 62: .ireturn
      refine x_ireturn dR_told_62 rfl rfl ?_
      exact h1
    by_cases w1 : w = 1
    · subst w1
      refine x_tableIn (tgt := 63) dR_told_12 (by decide) (by decide) rfl (by decide) ?_
      refine x_aload_n dR_told_63 rfl ?_
      refine x_getR fl_R_23 rfl dR_told_64 rfl rfl rfl ?_
      refine x_iload_n dR_told_67 rfl ?_
      refine x_ialdJ (j := k) dR_told_68 rfl rfl (by first | rfl | (simp only [← nI_add, ← pk_mul]; rfl)) (by omega) ?_
      -- at 69: .ireturn
      refine x_ireturn dR_told_69 rfl rfl ?_
      exact h1
    by_cases w2 : w = 2
    · subst w2
      refine x_tableIn (tgt := 70) dR_told_12 (by decide) (by decide) rfl (by decide) ?_
      refine x_aload_n dR_told_70 rfl ?_
      refine x_getR fl_R_26 rfl dR_told_71 rfl rfl rfl ?_
      refine x_iload_n dR_told_74 rfl ?_
      refine x_ialdJ (j := k) dR_told_75 rfl rfl (by first | rfl | (simp only [← nI_add, ← pk_mul]; rfl)) (by omega) ?_
      -- at 76: .ireturn
      refine x_ireturn dR_told_76 rfl rfl ?_
      exact h1
    by_cases w3 : w = 3
    · subst w3
      refine x_tableIn (tgt := 77) dR_told_12 (by decide) (by decide) rfl (by decide) ?_
      refine x_aload_n dR_told_77 rfl ?_
      refine x_getR fl_R_29 rfl dR_told_78 rfl rfl rfl ?_
      refine x_iload_n dR_told_81 rfl ?_
      refine x_ialdJ (j := k) dR_told_82 rfl rfl (by first | rfl | (simp only [← nI_add, ← pk_mul]; rfl)) (by omega) ?_
      -- at 83: .ireturn
      refine x_ireturn dR_told_83 rfl rfl ?_
      exact h1
    by_cases w4 : w = 4
    · subst w4
      refine x_tableIn (tgt := 84) dR_told_12 (by decide) (by decide) rfl (by decide) ?_
      refine x_aload_n dR_told_84 rfl ?_
      refine x_getR fl_R_32 rfl dR_told_85 rfl rfl rfl ?_
      refine x_iload_n dR_told_88 rfl ?_
      refine x_ialdJ (j := k) dR_told_89 rfl rfl (by first | rfl | (simp only [← nI_add, ← pk_mul]; rfl)) (by omega) ?_
      -- at 90: .ireturn
      refine x_ireturn dR_told_90 rfl rfl ?_
      exact h1
    by_cases w5 : w = 5
    · subst w5
      refine x_tableIn (tgt := 91) dR_told_12 (by decide) (by decide) rfl (by decide) ?_
      refine x_aload_n dR_told_91 rfl ?_
      refine x_getR fl_R_35 rfl dR_told_92 rfl rfl rfl ?_
      refine x_iload_n dR_told_95 rfl ?_
      refine x_ialdJ (j := k) dR_told_96 rfl rfl (by first | rfl | (simp only [← nI_add, ← pk_mul]; rfl)) (by omega) ?_
      -- at 97: .ireturn
      refine x_ireturn dR_told_97 rfl rfl ?_
      exact h1
    by_cases w6 : w = 6
    · subst w6
      refine x_tableIn (tgt := 98) dR_told_12 (by decide) (by decide) rfl (by decide) ?_
      refine x_aload_n dR_told_98 rfl ?_
      refine x_getR fl_R_38 rfl dR_told_99 rfl rfl rfl ?_
      refine x_iload_n dR_told_102 rfl ?_
      refine x_ialdJ (j := k) dR_told_103 rfl rfl (by first | rfl | (simp only [← nI_add, ← pk_mul]; rfl)) (by omega) ?_
      -- at 104: .ireturn
      refine x_ireturn dR_told_104 rfl rfl ?_
      exact h1
    have ho := toInt_out (w := w) (n := 6) (by omega) (fun k hk => by
      rcases (show k = 0 ∨ k = 1 ∨ k = 2 ∨ k = 3 ∨ k = 4 ∨ k = 5 ∨ k = 6 by omega) with rfl | rfl | rfl | rfl | rfl | rfl | rfl <;> assumption)
    rw [if_neg w0, if_neg w1, if_neg w2, if_neg w3, if_neg w4, if_neg w5, if_neg w6] at h1
    refine x_tableOut (tgt := 105) dR_told_12 ho (by decide) ?_
    refine x_iload_n dR_told_105 rfl ?_
    refine x_bipush (v := 7) dR_told_106 rfl ?_
    refine x_bipush (v := 12) dR_told_108 rfl ?_
    -- at 110: .invokestatic 151
    refine x_callS_3 c_R_in ok_R_in ml_R_151 dR_told_110 rfl rfl ?_
    refine ⟨_, _, _, rfl, fun a2 => ?_, fun a2 => ?_⟩
    · have a2 : inR w 7 12 := a2
      refine x_if_eq (tgt := 128) dR_told_113 (by decide) (fun h => absurd h (by decide)) (fun _ => ?_)
      rw [if_pos a2] at h1
      refine x_aload_n dR_told_116 rfl ?_
      refine x_iload_n dR_told_117 rfl ?_
      refine x_iload_n dR_told_118 rfl ?_
      refine x_bipush (v := 7) dR_told_119 rfl ?_
      refine x_isub dR_told_121 ?_
      -- at 122: .invokevirtual 233
      refine x_callV_2 c_R_whereIs ok_R_whereIs ml_R_233 dR_told_122 rfl rfl rfl rfl rfl ?_
      refine ⟨k, _, rfl, rfl, by omega, perV_of hok.1 rfl (rVE I) hk, ?_⟩
      refine x_goto (tgt := 130) dR_told_125 (by decide) ?_
      -- at 130: .ireturn
      refine x_ireturn dR_told_130 rfl rfl ?_
      rw [where_eq (rVE I) hk]
      exact h1
    · have a2 : ¬ inR w 7 12 := a2
      refine x_if_eq (tgt := 128) dR_told_113 (by decide) (fun _ => ?_) (fun h => absurd (by decide) h)
      rw [if_neg a2] at h1
      refine x_bipush (v := -7) dR_told_128 rfl ?_
      -- at 130: .ireturn
      refine x_ireturn dR_told_130 rfl rfl ?_
      exact h1
  · have a1 : ¬ inR p 0 (rE I 29 1 - 1) := a1
    refine x_if_ne (tgt := 11) dR_told_5 (by decide) (fun h => absurd (by decide) h) (fun _ => ?_)
    rw [toldS, if_pos a1] at h1
    refine x_bipush (v := -5) dR_told_8 rfl ?_
    -- at 10: .ireturn
    refine x_ireturn dR_told_10 rfl rfl ?_
    exact h1
