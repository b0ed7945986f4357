/-! texts reckoned -/
def sp_Texts_giveNothing : SpT := fun as S I L Post => as = [.ref 30] ∧ S = S1 ∧ ∀ I' : IM, Fr [33] I I' → (∀ j, j < 6 → I' 33 j = 0) → Post none S I' L
set_option maxHeartbeats 4000000 in
set_option maxRecDepth 100000 in
theorem c_Texts_giveNothing : Con mTexts_giveNothing 2 0 0 sp_Texts_giveNothing := by
  refine con_of_X rfl fun G as S I L Post hs => ?_
  obtain ⟨rfl, rfl, h1⟩ := hs
  refine ⟨1, Nat.le_of_ble_eq_true rfl, ?_⟩
  show X mTexts_giveNothing G _ S1 I L 0 [.ref 30, .null] [] Post
  refine x_iconst (v := 0) dTexts_giveNothing_0 rfl ?_
  refine x_istoren_1 dTexts_giveNothing_1 rfl rfl ?_
  -- at 2: .iload_n 1
  have loop : ∀ (n i : Nat) (I' : IM), i + n = 6 → Fr [33] I I' → (∀ j, j < i → I' 33 j = 0) → X mTexts_giveNothing G (2, 0, 0) S1 I' L 2 [.ref 30, .int (nI i)] [] Post := by
    intro n
    induction n with
    | zero =>
      intro i I' hi hF hz
      obtain rfl : i = 6 := by omega
      refine x_iload_n dTexts_giveNothing_2 rfl ?_
      refine x_bipush (v := 6) dTexts_giveNothing_3 rfl ?_
      -- at 5: .if_icmp .ge 16
      refine x_icmp_ge (tgt := 21) dTexts_giveNothing_5 (by decide) (fun _ => ?_) (fun h => absurd (by decide) h)
      refine x_return dTexts_giveNothing_21 rfl ?_
      exact h1 I' hF hz
    | succ n ih =>
      intro i I' hi hF hz
      refine x_iload_n dTexts_giveNothing_2 rfl ?_
      refine x_bipush (v := 6) dTexts_giveNothing_3 rfl ?_
      -- at 5: .if_icmp .ge 16
      refine x_icmp_ge (tgt := 21) dTexts_giveNothing_5 (by decide) (fun h => absurd h (nI_ge (b := 6) (by omega) (by omega))) (fun _ => ?_)
      refine x_aload_n dTexts_giveNothing_8 rfl ?_
      refine x_getR fl_Texts_25 rfl dTexts_giveNothing_9 rfl rfl rfl ?_
      refine x_iload_n dTexts_giveNothing_12 rfl ?_
      refine x_iconst (v := 0) dTexts_giveNothing_13 rfl ?_
      refine x_iastJ dTexts_giveNothing_14 rfl rfl rfl (by omega) ?_
      refine x_iincp_1 dTexts_giveNothing_15 rfl rfl ?_
      refine x_goto (tgt := 2) dTexts_giveNothing_18 (by decide) ?_
      -- at 2: .iload_n 1
      rw [nI_1]
      refine ih (i + 1) _ (by omega) (hF.up (by decide) _ _) fun j hj => ?_
      rw [up2_s]
      by_cases h : j = i
      · simp [up1, h]
      · simp [up1, h]
        exact hz j (by omega)
  exact loop 6 0 I rfl Fr.rfl (fun j hj => absurd hj (Nat.not_lt_zero j))
/-- what a sign of the class does -/
def jnS (c l r : Int32) : Int32 := if c = 13 then b2i (l = 0) else if c = 19 then -l else two c l r
def sp_Texts_joined : SpT := fun as S I L Post => ∃ s l r : Int32, as = [.int s, .int l, .int r] ∧ (s = 7 ∨ s = 8 ∨ s = 9 ∨ s = 10 ∨ s = 42 ∨ s = 43 ∨ s = 45 ∨ s = 60 ∨ s = 61) ∧ Post (some (.int (jnS (enc (s + 20000)) l r))) S I L
set_option maxHeartbeats 4000000 in
set_option maxRecDepth 100000 in
theorem c_Texts_joined : Con mTexts_joined 2 0 0 sp_Texts_joined := by
  refine con_of_X rfl fun G as S I L Post hs => ?_
  obtain ⟨s, l, r, rfl, hs, h1⟩ := hs
  refine ⟨0, Nat.le_of_ble_eq_true rfl, ?_⟩
  show X mTexts_joined G _ S I L 0 [.int s, .int l, .int r] [] Post
  refine x_iload_n dTexts_joined_0 rfl ?_
  -- at 1: .lookupswitch 136 #[(8, 122), (9, 78), (10, 75), (42, 96), (43, 88), (45, 92), (60, 100), (61, 111)]
  rcases hs with rfl | rfl | rfl | rfl | rfl | rfl | rfl | rfl | rfl
  · refine x_lookup (tgt := 137) dTexts_joined_1 (by decide) rfl (by decide) ?_
    rw [show jnS (enc ((7 : Int32) + 20000)) l r = b2i (¬ l = 0 ∨ ¬ r = 0) by rw [show enc ((7 : Int32) + 20000) = 11 by decide]; rfl] at h1
    refine x_iload_n dTexts_joined_137 rfl ?_
    -- at 138: .ifCond .ne 7
    refine x_if_ne (tgt := 145) dTexts_joined_138 (by decide) (fun c1 => ?_) (fun c1 => ?_)
    · refine x_iconst (v := 1) dTexts_joined_145 rfl ?_
      refine x_goto (tgt := 150) dTexts_joined_146 (by decide) ?_
      -- at 150: .ireturn
      refine x_ireturn dTexts_joined_150 rfl rfl ?_
      rw [b2i, if_pos (Or.inl c1)] at h1
      exact h1
    · refine x_iload_n dTexts_joined_141 rfl ?_
      -- at 142: .ifCond .eq 7
      refine x_if_eq (tgt := 149) dTexts_joined_142 (by decide) (fun c2 => ?_) (fun c2 => ?_)
      · refine x_iconst (v := 0) dTexts_joined_149 rfl ?_
        -- at 150: .ireturn
        refine x_ireturn dTexts_joined_150 rfl rfl ?_
        rw [b2i, if_neg (fun z => z.elim (fun y => y c1) (fun y => y c2))] at h1
        exact h1
      · refine x_iconst (v := 1) dTexts_joined_145 rfl ?_
        refine x_goto (tgt := 150) dTexts_joined_146 (by decide) ?_
        -- at 150: .ireturn
        refine x_ireturn dTexts_joined_150 rfl rfl ?_
        rw [b2i, if_pos (Or.inr c2)] at h1
        exact h1
  · refine x_lookup (tgt := 123) dTexts_joined_1 (by decide) rfl (by decide) ?_
    rw [show jnS (enc ((8 : Int32) + 20000)) l r = b2i (¬ l = 0 ∧ ¬ r = 0) by rw [show enc ((8 : Int32) + 20000) = 12 by decide]; rfl] at h1
    refine x_iload_n dTexts_joined_123 rfl ?_
    -- at 124: .ifCond .eq 11
    refine x_if_eq (tgt := 135) dTexts_joined_124 (by decide) (fun c1 => ?_) (fun c1 => ?_)
    · refine x_iconst (v := 0) dTexts_joined_135 rfl ?_
      -- at 136: .ireturn
      refine x_ireturn dTexts_joined_136 rfl rfl ?_
      rw [b2i, if_neg (fun z => z.1 c1)] at h1
      exact h1
    · refine x_iload_n dTexts_joined_127 rfl ?_
      -- at 128: .ifCond .eq 7
      refine x_if_eq (tgt := 135) dTexts_joined_128 (by decide) (fun c2 => ?_) (fun c2 => ?_)
      · refine x_iconst (v := 0) dTexts_joined_135 rfl ?_
        -- at 136: .ireturn
        refine x_ireturn dTexts_joined_136 rfl rfl ?_
        rw [b2i, if_neg (fun z => z.2 c2)] at h1
        exact h1
      · refine x_iconst (v := 1) dTexts_joined_131 rfl ?_
        refine x_goto (tgt := 136) dTexts_joined_132 (by decide) ?_
        -- at 136: .ireturn
        refine x_ireturn dTexts_joined_136 rfl rfl ?_
        rw [b2i, if_pos ⟨c1, c2⟩] at h1
        exact h1
  · refine x_lookup (tgt := 79) dTexts_joined_1 (by decide) rfl (by decide) ?_
    rw [show jnS (enc ((9 : Int32) + 20000)) l r = b2i (l = 0) by rw [show enc ((9 : Int32) + 20000) = 13 by decide]; rfl] at h1
    refine x_iload_n dTexts_joined_79 rfl ?_
    -- at 80: .ifCond .ne 7
    refine x_if_ne (tgt := 87) dTexts_joined_80 (by decide) (fun c1 => ?_) (fun c1 => ?_)
    · refine x_iconst (v := 0) dTexts_joined_87 rfl ?_
      -- at 88: .ireturn
      refine x_ireturn dTexts_joined_88 rfl rfl ?_
      rw [b2i, if_neg c1] at h1
      exact h1
    · refine x_iconst (v := 1) dTexts_joined_83 rfl ?_
      refine x_goto (tgt := 88) dTexts_joined_84 (by decide) ?_
      -- at 88: .ireturn
      refine x_ireturn dTexts_joined_88 rfl rfl ?_
      rw [b2i, if_pos c1] at h1
      exact h1
  · refine x_lookup (tgt := 76) dTexts_joined_1 (by decide) rfl (by decide) ?_
    refine x_iload_n dTexts_joined_76 rfl ?_
    refine x_ineg dTexts_joined_77 ?_
    -- at 78: .ireturn
    refine x_ireturn dTexts_joined_78 rfl rfl ?_
    exact h1
  · refine x_lookup (tgt := 97) dTexts_joined_1 (by decide) rfl (by decide) ?_
    refine x_iload_n dTexts_joined_97 rfl ?_
    refine x_iload_n dTexts_joined_98 rfl ?_
    refine x_imul dTexts_joined_99 ?_
    -- at 100: .ireturn
    refine x_ireturn dTexts_joined_100 rfl rfl ?_
    exact h1
  · refine x_lookup (tgt := 89) dTexts_joined_1 (by decide) rfl (by decide) ?_
    refine x_iload_n dTexts_joined_89 rfl ?_
    refine x_iload_n dTexts_joined_90 rfl ?_
    refine x_iadd dTexts_joined_91 ?_
    -- at 92: .ireturn
    refine x_ireturn dTexts_joined_92 rfl rfl ?_
    exact h1
  · refine x_lookup (tgt := 93) dTexts_joined_1 (by decide) rfl (by decide) ?_
    refine x_iload_n dTexts_joined_93 rfl ?_
    refine x_iload_n dTexts_joined_94 rfl ?_
    refine x_isub dTexts_joined_95 ?_
    -- at 96: .ireturn
    refine x_ireturn dTexts_joined_96 rfl rfl ?_
    exact h1
  · refine x_lookup (tgt := 101) dTexts_joined_1 (by decide) rfl (by decide) ?_
    rw [show jnS (enc ((60 : Int32) + 20000)) l r = b2i (l < r) by rw [show enc ((60 : Int32) + 20000) = 14 by decide]; rfl] at h1
    refine x_iload_n dTexts_joined_101 rfl ?_
    refine x_iload_n dTexts_joined_102 rfl ?_
    -- at 103: .if_icmp .ge 7
    refine x_icmp_ge (tgt := 110) dTexts_joined_103 (by decide) (fun c1 => ?_) (fun c1 => ?_)
    · refine x_iconst (v := 0) dTexts_joined_110 rfl ?_
      -- at 111: .ireturn
      refine x_ireturn dTexts_joined_111 rfl rfl ?_
      rw [b2i, if_neg (Int32.not_lt.mpr c1)] at h1
      exact h1
    · refine x_iconst (v := 1) dTexts_joined_106 rfl ?_
      refine x_goto (tgt := 111) dTexts_joined_107 (by decide) ?_
      -- at 111: .ireturn
      refine x_ireturn dTexts_joined_111 rfl rfl ?_
      rw [b2i, if_pos (Int32.not_le.mp c1)] at h1
      exact h1
  · refine x_lookup (tgt := 112) dTexts_joined_1 (by decide) rfl (by decide) ?_
    rw [show jnS (enc ((61 : Int32) + 20000)) l r = b2i (l = r) by rw [show enc ((61 : Int32) + 20000) = 15 by decide]; rfl] at h1
    refine x_iload_n dTexts_joined_112 rfl ?_
    refine x_iload_n dTexts_joined_113 rfl ?_
    -- at 114: .if_icmp .ne 7
    refine x_icmp_ne (tgt := 121) dTexts_joined_114 (by decide) (fun c1 => ?_) (fun c1 => ?_)
    · refine x_iconst (v := 0) dTexts_joined_121 rfl ?_
      -- at 122: .ireturn
      refine x_ireturn dTexts_joined_122 rfl rfl ?_
      rw [b2i, if_neg c1] at h1
      exact h1
    · refine x_iconst (v := 1) dTexts_joined_117 rfl ?_
      refine x_goto (tgt := 122) dTexts_joined_118 (by decide) ?_
      -- at 122: .ireturn
      refine x_ireturn dTexts_joined_122 rfl rfl ?_
      rw [b2i, if_pos c1] at h1
      exact h1
