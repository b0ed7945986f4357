/-! the reference: the host, THE TAPE -/
def rshU (I : IM) (s : Nat) (k n : Int32) : IM := upr (up2 (up2 I 88 s k) 89 s n) 90 (zer40 (I 90) s)
theorem rE_shU (I : IM) (s : Nat) (k n : Int32) : rE (rshU I s k n) = shU (rE I) s k n := by
  unfold rshU shU
  rw [rE_28, rE_u27, rE_u26]
  rfl
theorem rsh_own {I : IM} (h : rOwn I) (s : Nat) (k n : Int32) : rOwn (rshU I s k n) := by
  unfold rshU
  exact ((h.up (by decide) (Or.inl (by decide))).up (by decide) (Or.inl (by decide))).upr (by decide) (by decide)
def sp_R_sheet : SpT := fun as S I L Post => ∃ s k n : Int32, rSp [.int s, .int k, .int n] (fun _ => .int (sheetS s k n)) (fun E => sheetU E s k n) as S I L Post
set_option maxHeartbeats 4000000 in
set_option maxRecDepth 100000 in
theorem c_R_sheet : Con mR_sheet 3 0 0 sp_R_sheet := by
  refine con_of_X rfl fun G as S I L Post hs => ?_
  obtain ⟨s, k, n, rfl, rfl, hok, h1⟩ := hs
  dsimp only at h1
  refine ⟨1, Nat.le_of_ble_eq_true rfl, ?_⟩
  show X mR_sheet G _ S1 I L 0 [.ref 59, .int s, .int k, .int n, .null] [] Post
  have bad : ¬ shC s k n → X mR_sheet G (3, 0, 0) S1 I L 29 [.ref 59, .int s, .int k, .int n, .null] [] Post := by
    intro hc
    rw [sheetS, sheetU, if_pos hc, if_pos hc] at h1
    refine x_bipush (v := -2) dR_sheet_29 rfl ?_
    -- at 31: .ireturn
    refine x_ireturn dR_sheet_31 rfl rfl ?_
    exact h1 I L (fun _ _ => rfl) hok.2 rfl
  refine x_iload_n dR_sheet_0 rfl ?_
  refine x_iconst (v := 0) dR_sheet_1 rfl ?_
  refine x_iconst (v := 3) dR_sheet_2 rfl ?_
  -- at 3: .invokestatic 151
  refine x_callS_3 c_R_in ok_R_in ml_R_151 dR_sheet_3 rfl rfl ?_
  refine ⟨_, _, _, rfl, fun a1 => ?_, fun a1 => ?_⟩
  · have a1 : inR s 0 3 := a1
    refine x_if_eq (tgt := 29) dR_sheet_6 (by decide) (fun h => absurd h (by decide)) (fun _ => ?_)
    refine x_iload_n dR_sheet_9 rfl ?_
    refine x_iconst (v := -1) dR_sheet_10 rfl ?_
    refine x_iconst (v := 2) dR_sheet_11 rfl ?_
    -- at 12: .invokestatic 151
    refine x_callS_3 c_R_in ok_R_in ml_R_151 dR_sheet_12 rfl rfl ?_
    refine ⟨_, _, _, rfl, fun a2 => ?_, fun a2 => ?_⟩
    · refine x_if_eq (tgt := 29) dR_sheet_15 (by decide) (fun h => absurd h (by decide)) (fun _ => ?_)
      obtain ⟨i, hi, rfl⟩ := inR_of (n := 3) (by decide) a1
      have fin : ∀ n' : Int32, shC (nI i) k n → ¬ (¬ k = -1 ∧ n < 0) → n' = (if k = -1 then 0 else n) → X mR_sheet G (3, 0, 0) S1 (up2 I 88 i k) L 66 [.ref 59, .int (nI i), .int k, .int n, .null] [.int n', .int (nI i), .ref 89] Post := by
        intro n' hc hc2 hn'
        rw [sheetS, sheetU, if_neg (not_not_intro hc), if_neg (not_not_intro hc), if_neg hc2, if_neg hc2, cl_nI (by omega)] at h1
        refine x_iastJ (j := i) dR_sheet_66 rfl rfl (by first | rfl | (simp only [← nI_add, ← pk_mul]; rfl)) (by omega) ?_
        refine x_iconst (v := 0) dR_sheet_67 rfl ?_
        refine x_istore_4 dR_sheet_68 rfl rfl ?_
        -- at 70: .iload 4
        have loop : ∀ (m j : Nat) (I' : IM), j + m = 40 → I' = upr (up2 (up2 I 88 i k) 89 i n') 90 (fun x => if i * 40 ≤ x ∧ x < i * 40 + j then 0 else I 90 x) →
            X mR_sheet G (3, 0, 0) S1 I' L 70 [.ref 59, .int (nI i), .int k, .int n, .int (nI j)] [] Post := by
          intro m
          induction m with
          | zero =>
            intro j I' hj hI
            obtain rfl : j = 40 := by omega
            refine x_iload dR_sheet_70 rfl ?_
            refine x_bipush (v := 40) dR_sheet_72 rfl ?_
            -- at 74: .if_icmp .ge 22
            refine x_icmp_ge (tgt := 96) dR_sheet_74 (by decide) (fun _ => ?_) (fun h => absurd (Int32.le_refl _) h)
            refine x_iconst (v := 1) dR_sheet_96 rfl ?_
            -- at 97: .ireturn
            refine x_ireturn dR_sheet_97 rfl rfl ?_
            have e : I' = rshU I i k n' := hI
            rw [e]
            refine h1 _ L (fun q hq => by unfold rshU; rw [upr_n _ _ (by omega), up2_n _ _ _ (by omega), up2_n _ _ _ (by omega)]) (rsh_own hok.2 _ _ _) ?_
            rw [rE_shU, hn']
          | succ m ih =>
            intro j I' hj hI
            refine x_iload dR_sheet_70 rfl ?_
            refine x_bipush (v := 40) dR_sheet_72 rfl ?_
            -- at 74: .if_icmp .ge 22
            refine x_icmp_ge (tgt := 96) dR_sheet_74 (by decide) (fun h => absurd h (nI_ge (b := 40) (by omega) (by omega))) (fun _ => ?_)
            refine x_aload_n dR_sheet_77 rfl ?_
            refine x_getR fl_R_104 rfl dR_sheet_78 rfl rfl rfl ?_
            refine x_bipush (v := 40) dR_sheet_81 rfl ?_
            refine x_iload_n dR_sheet_83 rfl ?_
            refine x_imul dR_sheet_84 ?_
            refine x_iload dR_sheet_85 rfl ?_
            refine x_iadd dR_sheet_87 ?_
            refine x_iconst (v := 0) dR_sheet_88 rfl ?_
            refine x_iastJ dR_sheet_89 rfl rfl (r40 i j) (by omega) ?_
            -- at 90: .iinc 4 1
            refine x_iincp_4 dR_sheet_90 rfl rfl ?_
            refine x_goto (tgt := 70) dR_sheet_93 (by decide) ?_
            -- at 70: .iload 4
            rw [nI_1]
            refine ih (j + 1) _ (by omega) ?_
            rw [hI]
            funext a
            by_cases h : a = 90
            · subst h
              rw [up2_s, upr_s, upr_s]
              funext x
              unfold up1
              dsimp only
              by_cases hx : x = i * 40 + j
              · rw [if_pos hx, if_pos ⟨by omega, by omega⟩]
              · rw [if_neg hx]
                by_cases h2 : i * 40 ≤ x ∧ x < i * 40 + j
                · rw [if_pos h2, if_pos ⟨h2.1, by omega⟩]
                · rw [if_neg h2, if_neg (fun z => h2 ⟨z.1, by omega⟩)]
            · rw [up2_n _ _ _ h, upr_n _ _ h, upr_n _ _ h]
        refine loop 40 0 _ rfl ?_
        funext a
        by_cases h : a = 90
        · subst h
          rw [upr_s]
          simp only [up2_n, up2_s, ne_eq, Nat.reduceEqDiff, not_false_eq_true]
          funext x
          rw [if_neg (fun z => by omega)]
        · rw [upr_n _ _ h]
      refine x_iload_n dR_sheet_18 rfl ?_
      refine x_iconst (v := -1) dR_sheet_19 rfl ?_
      -- at 20: .if_icmp .eq 12
      refine x_icmp_eq (tgt := 32) dR_sheet_20 (by decide) (fun c1 => ?_) (fun c1 => ?_)
      · have hc : shC (nI i) k n := ⟨a1, a2, Or.inl c1⟩
        refine x_iload_n dR_sheet_32 rfl ?_
        refine x_iconst (v := -1) dR_sheet_33 rfl ?_
        -- at 34: .if_icmp .eq 10
        refine x_icmp_eq (tgt := 44) dR_sheet_34 (by decide) (fun _ => ?_) (fun h => absurd c1 h)
        refine x_aload_n dR_sheet_44 rfl ?_
        refine x_getR fl_R_98 rfl dR_sheet_45 rfl rfl rfl ?_
        refine x_iload_n dR_sheet_48 rfl ?_
        refine x_iload_n dR_sheet_49 rfl ?_
        refine x_iastJ (j := i) dR_sheet_50 rfl rfl (by first | rfl | (simp only [← nI_add, ← pk_mul]; rfl)) (by omega) ?_
        refine x_aload_n dR_sheet_51 rfl ?_
        refine x_getR fl_R_101 rfl dR_sheet_52 rfl rfl rfl ?_
        refine x_iload_n dR_sheet_55 rfl ?_
        refine x_iload_n dR_sheet_56 rfl ?_
        refine x_iconst (v := -1) dR_sheet_57 rfl ?_
        -- at 58: .if_icmp .ne 7
        refine x_icmp_ne (tgt := 65) dR_sheet_58 (by decide) (fun h => absurd c1 h) (fun _ => ?_)
        refine x_iconst (v := 0) dR_sheet_61 rfl ?_
        refine x_goto (tgt := 66) dR_sheet_62 (by decide) ?_
        -- at 66: .iastore
        exact fin 0 hc (fun z => z.1 c1) (by rw [if_pos c1])
      · refine x_iload_n dR_sheet_23 rfl ?_
        refine x_bipush (v := 40) dR_sheet_24 rfl ?_
        -- at 26: .if_icmp .le 6
        refine x_icmp_le (tgt := 32) dR_sheet_26 (by decide) (fun c2 => ?_) (fun c2 => ?_)
        · have hc : shC (nI i) k n := ⟨a1, a2, Or.inr c2⟩
          refine x_iload_n dR_sheet_32 rfl ?_
          refine x_iconst (v := -1) dR_sheet_33 rfl ?_
          -- at 34: .if_icmp .eq 10
          refine x_icmp_eq (tgt := 44) dR_sheet_34 (by decide) (fun h => absurd h c1) (fun _ => ?_)
          refine x_iload_n dR_sheet_37 rfl ?_
          -- at 38: .ifCond .ge 6
          refine x_if_ge (tgt := 44) dR_sheet_38 (by decide) (fun c3 => ?_) (fun c3 => ?_)
          · refine x_aload_n dR_sheet_44 rfl ?_
            refine x_getR fl_R_98 rfl dR_sheet_45 rfl rfl rfl ?_
            refine x_iload_n dR_sheet_48 rfl ?_
            refine x_iload_n dR_sheet_49 rfl ?_
            refine x_iastJ (j := i) dR_sheet_50 rfl rfl (by first | rfl | (simp only [← nI_add, ← pk_mul]; rfl)) (by omega) ?_
            refine x_aload_n dR_sheet_51 rfl ?_
            refine x_getR fl_R_101 rfl dR_sheet_52 rfl rfl rfl ?_
            refine x_iload_n dR_sheet_55 rfl ?_
            refine x_iload_n dR_sheet_56 rfl ?_
            refine x_iconst (v := -1) dR_sheet_57 rfl ?_
            -- at 58: .if_icmp .ne 7
            refine x_icmp_ne (tgt := 65) dR_sheet_58 (by decide) (fun _ => ?_) (fun h => absurd h c1)
            refine x_iload_n dR_sheet_65 rfl ?_
            -- at 66: .iastore
            exact fin n hc (fun z => absurd z.2 (Int32.not_lt.mpr c3)) (by rw [if_neg c1])
          · rw [sheetS, sheetU, if_neg (not_not_intro hc), if_neg (not_not_intro hc), if_pos ⟨c1, Int32.not_le.mp c3⟩, if_pos ⟨c1, Int32.not_le.mp c3⟩] at h1
            refine x_bipush (v := -14) dR_sheet_41 rfl ?_
            -- at 43: .ireturn
            refine x_ireturn dR_sheet_43 rfl rfl ?_
            exact h1 I L (fun _ _ => rfl) hok.2 rfl
        · exact bad (fun z => z.2.2.elim c1 c2)
    · refine x_if_eq (tgt := 29) dR_sheet_15 (by decide) (fun _ => ?_) (fun h => absurd (by decide) h)
      exact bad (fun z => a2 z.2.1)
  · refine x_if_eq (tgt := 29) dR_sheet_6 (by decide) (fun _ => ?_) (fun h => absurd (by decide) h)
    exact bad (fun z => a1 z.1)
def sp_R_cell : SpT := fun as S I L Post => ∃ s i v : Int32, rSp [.int s, .int i, .int v] (fun E => .int (cellBad E s i)) (fun E => cellU E s i v) as S I L Post
set_option maxHeartbeats 4000000 in
set_option maxRecDepth 100000 in
theorem c_R_cell : Con mR_cell 3 0 0 sp_R_cell := by
  refine con_of_X rfl fun G as S I L Post hs => ?_
  obtain ⟨s, i, v, rfl, rfl, hok, h1⟩ := hs
  dsimp only at h1
  refine ⟨0, Nat.le_of_ble_eq_true rfl, ?_⟩
  show X mR_cell G _ S1 I L 0 [.ref 59, .int s, .int i, .int v] [] Post
  rw [cellU] at h1
  refine x_iload_n dR_cell_0 rfl ?_
  refine x_iconst (v := 0) dR_cell_1 rfl ?_
  refine x_iconst (v := 3) dR_cell_2 rfl ?_
  -- at 3: .invokestatic 151
  refine x_callS_3 c_R_in ok_R_in ml_R_151 dR_cell_3 rfl rfl ?_
  refine ⟨_, _, _, rfl, fun a1 => ?_, fun a1 => ?_⟩
  · have a1 : inR s 0 3 := a1
    refine x_if_ne (tgt := 12) dR_cell_6 (by decide) (fun _ => ?_) (fun h => absurd h (by decide))
    rw [cellBad, if_neg (not_not_intro a1)] at h1
    obtain ⟨j, hj, rfl⟩ := inR_of (n := 3) (by decide) a1
    obtain ⟨n, hn, en⟩ := sz_nat hok.1 (s := j) (by omega)
    have en : I 89 j = nI n := en
    rw [cl_nI (by omega), show rE I 27 j = nI n from en] at h1
    refine x_aload_n dR_cell_12 rfl ?_
    refine x_getR fl_R_98 rfl dR_cell_13 rfl rfl rfl ?_
    refine x_iload_n dR_cell_16 rfl ?_
    refine x_ialdJ (j := j) dR_cell_17 rfl rfl (by first | rfl | (simp only [← nI_add, ← pk_mul]; rfl)) (by omega) ?_
    refine x_iconst (v := -1) dR_cell_18 rfl ?_
    -- at 19: .if_icmp .ne 6
    refine x_icmp_ne (tgt := 25) dR_cell_19 (by decide) (fun a2 => ?_) (fun a2 => ?_)
    · have a2 : ¬ rE I 26 j = -1 := a2
      rw [if_neg a2] at h1
      refine x_iload_n dR_cell_25 rfl ?_
      refine x_iconst (v := 0) dR_cell_26 rfl ?_
      refine x_aload_n dR_cell_27 rfl ?_
      refine x_getR fl_R_101 rfl dR_cell_28 rfl rfl rfl ?_
      refine x_iload_n dR_cell_31 rfl ?_
      refine x_ialdJ (j := j) dR_cell_32 rfl rfl (by first | rfl | (simp only [← nI_add, ← pk_mul]; rfl)) (by omega) ?_
      -- at 33: .iconst 1
      rw [en]
      refine x_iconst (v := 1) dR_cell_33 rfl ?_
      refine x_isub dR_cell_34 ?_
      -- at 35: .invokestatic 151
      refine x_callS_3 c_R_in ok_R_in ml_R_151 dR_cell_35 rfl rfl ?_
      refine ⟨_, _, _, rfl, fun a3 => ?_, fun a3 => ?_⟩
      · have a3 : inR i 0 (nI n - 1) := a3
        refine x_if_ne (tgt := 44) dR_cell_38 (by decide) (fun _ => ?_) (fun h => absurd h (by decide))
        rw [if_neg (not_not_intro a3), if_pos rfl] at h1
        obtain ⟨q, hq, rfl⟩ := has_nat (by omega) a3
        rw [cl_nI (by omega)] at h1
        have fin : ∀ x : Int32, x = shV (I 88 j) v → X mR_cell G (3, 0, 0) S1 I L 84 [.ref 59, .int (nI j), .int (nI q), .int v] [.int x, .int (40 * nI j + nI q), .ref 90] Post := by
          intro x hx
          refine x_iastJ dR_cell_84 rfl rfl (r40 j q) (by omega) ?_
          refine x_iconst (v := 1) dR_cell_85 rfl ?_
          -- at 86: .ireturn
          refine x_ireturn dR_cell_86 rfl rfl ?_
          rw [hx]
          exact h1 _ L (fun k hk => up2_n _ _ _ (by omega)) (hok.2.up (by decide) (Or.inl (by decide))) (rE_u28 I _ _)
        refine x_aload_n dR_cell_44 rfl ?_
        refine x_getR fl_R_104 rfl dR_cell_45 rfl rfl rfl ?_
        refine x_bipush (v := 40) dR_cell_48 rfl ?_
        refine x_iload_n dR_cell_50 rfl ?_
        refine x_imul dR_cell_51 ?_
        refine x_iload_n dR_cell_52 rfl ?_
        refine x_iadd dR_cell_53 ?_
        refine x_aload_n dR_cell_54 rfl ?_
        refine x_getR fl_R_98 rfl dR_cell_55 rfl rfl rfl ?_
        refine x_iload_n dR_cell_58 rfl ?_
        refine x_ialdJ (j := j) dR_cell_59 rfl rfl (by first | rfl | (simp only [← nI_add, ← pk_mul]; rfl)) (by omega) ?_
        -- at 60: .ifCond .ne 8
        refine x_if_ne (tgt := 68) dR_cell_60 (by decide) (fun c1 => ?_) (fun c1 => ?_)
        · refine x_aload_n dR_cell_68 rfl ?_
          refine x_getR fl_R_98 rfl dR_cell_69 rfl rfl rfl ?_
          refine x_iload_n dR_cell_72 rfl ?_
          refine x_ialdJ (j := j) dR_cell_73 rfl rfl (by first | rfl | (simp only [← nI_add, ← pk_mul]; rfl)) (by omega) ?_
          refine x_iconst (v := 1) dR_cell_74 rfl ?_
          -- at 75: .if_icmp .ne 8
          refine x_icmp_ne (tgt := 83) dR_cell_75 (by decide) (fun c2 => ?_) (fun c2 => ?_)
          · refine x_iload_n dR_cell_83 rfl ?_
            -- at 84: .iastore
            exact fin _ (by rw [shV, if_neg c1, if_neg c2])
          · refine x_iload_n dR_cell_78 rfl ?_
            refine x_i2s dR_cell_79 ?_
            refine x_goto (tgt := 84) dR_cell_80 (by decide) ?_
            -- at 84: .iastore
            exact fin _ (by rw [shV, if_neg c1, if_pos c2])
        · refine x_iload_n dR_cell_63 rfl ?_
          refine x_i2b dR_cell_64 ?_
          refine x_goto (tgt := 84) dR_cell_65 (by decide) ?_
          -- at 84: .iastore
          exact fin _ (by rw [shV, if_pos c1])
      · have a3 : ¬ inR i 0 (nI n - 1) := a3
        refine x_if_ne (tgt := 44) dR_cell_38 (by decide) (fun h => absurd (by decide) h) (fun _ => ?_)
        rw [if_pos a3] at h1
        refine x_bipush (v := -12) dR_cell_41 rfl ?_
        -- at 43: .ireturn
        refine x_ireturn dR_cell_43 rfl rfl ?_
        exact h1 I L (fun _ _ => rfl) hok.2 rfl
    · have a2 : rE I 26 j = -1 := a2
      rw [if_pos a2] at h1
      refine x_bipush (v := -11) dR_cell_22 rfl ?_
      -- at 24: .ireturn
      refine x_ireturn dR_cell_24 rfl rfl ?_
      exact h1 I L (fun _ _ => rfl) hok.2 rfl
  · have a1 : ¬ inR s 0 3 := a1
    refine x_if_ne (tgt := 12) dR_cell_6 (by decide) (fun h => absurd (by decide) h) (fun _ => ?_)
    rw [cellBad, if_pos a1] at h1
    refine x_bipush (v := -2) dR_cell_9 rfl ?_
    -- at 11: .ireturn
    refine x_ireturn dR_cell_11 rfl rfl ?_
    exact h1 I L (fun _ _ => rfl) hok.2 rfl
/-- how both sides ask whether three numbers fit -/
theorem cp_iff {i n : Int32} {Z : Nat} (hZ : Z ≤ 40) (hn : 0 ≤ n) : (0 ≤ i ∧ i ≤ nI Z ∧ n ≤ nI Z - i) ↔ inR i 0 (nI Z - n) := by
  constructor
  · rintro ⟨h1, h2, h3⟩
    obtain ⟨a, ha, rfl⟩ := nI_of2 (x := i) (M := nI Z) (n := Z) (nI_toInt (by omega)) (Int32.not_lt.mpr h1) h2
    rw [pk_sub ha] at h3
    obtain ⟨b, hb, rfl⟩ := nI_of2 (x := n) (M := nI (Z - a)) (n := Z - a) (nI_toInt (by omega)) (Int32.not_lt.mpr hn) h3
    refine ⟨h1, ?_⟩
    rw [pk_sub (by omega)]
    exact nI_le (by omega) (by omega)
  · intro h
    obtain ⟨a, b, rfl, rfl, hab⟩ := cp_nat rfl hZ hn h
    refine ⟨h.1, nI_le (by omega) (by omega), ?_⟩
    rw [pk_sub (by omega)]
    exact nI_le (by omega) (by omega)
def cpF (f : Nat → Int32) (a b k : Nat) : Nat → Int32 := fun j => if b ≤ j ∧ j < b + k then f (a + (j - b)) else f j
def cpB (f : Nat → Int32) (a b n k : Nat) : Nat → Int32 := fun j => if b + n - k ≤ j ∧ j < b + n then f (a + (j - b)) else f j
theorem cpF_n (f : Nat → Int32) (a b n : Nat) : cpF f a b n = va_cpy f f a b n := by
  funext j
  unfold cpF
  by_cases h : b ≤ j ∧ j < b + n
  · rw [if_pos h, pk_cpy_in h.1 h.2]
  · rw [if_neg h, pk_cpy_out (by omega)]
theorem cpB_n (f : Nat → Int32) (a b n : Nat) : cpB f a b n n = va_cpy f f a b n := by
  funext j
  unfold cpB
  rw [Nat.add_sub_cancel]
  by_cases h : b ≤ j ∧ j < b + n
  · rw [if_pos h, pk_cpy_in h.1 h.2]
  · rw [if_neg h, pk_cpy_out (by omega)]
theorem cpF_s (f : Nat → Int32) (a b k : Nat) (h : b ≤ a) : up1 (cpF f a b k) (b + k) (cpF f a b k (a + k)) = cpF f a b (k + 1) := by
  funext j
  have e : cpF f a b k (a + k) = f (a + k) := by unfold cpF; rw [if_neg (by omega)]
  rw [e]
  by_cases hj : j = b + k
  · subst hj
    rw [up1_s]
    unfold cpF
    rw [if_pos (by omega)]
    congr 1
    omega
  · rw [up1_n _ _ hj]
    unfold cpF
    by_cases h2 : b ≤ j ∧ j < b + k
    · rw [if_pos h2, if_pos (by omega)]
    · rw [if_neg h2, if_neg (by omega)]
theorem cpB_s (f : Nat → Int32) (a b n k : Nat) (h : a < b) (hk : k < n) : up1 (cpB f a b n k) (b + (n - 1 - k)) (cpB f a b n k (a + (n - 1 - k))) = cpB f a b n (k + 1) := by
  funext j
  have e : cpB f a b n k (a + (n - 1 - k)) = f (a + (n - 1 - k)) := by unfold cpB; rw [if_neg (by omega)]
  rw [e]
  by_cases hj : j = b + (n - 1 - k)
  · subst hj
    rw [up1_s]
    unfold cpB
    rw [if_pos (by omega)]
    congr 1
    omega
  · rw [up1_n _ _ hj]
    unfold cpB
    by_cases h2 : b + n - k ≤ j ∧ j < b + n
    · rw [if_pos h2, if_pos (by omega)]
    · rw [if_neg h2, if_neg (by omega)]
theorem up2_upr (I : IM) (k j : Nat) (f : Nat → Int32) (x : Int32) : up2 (upr I k f) k j x = upr I k (up1 f j x) := by
  funext q
  by_cases h : q = k
  · subst h; rw [up2_s, upr_s, upr_s]
  · rw [up2_n _ _ _ h, upr_n _ _ h, upr_n _ _ h]
def sp_R_copy : SpT := fun as S I L Post => ∃ s i o j n : Int32, rSp [.int s, .int i, .int o, .int j, .int n] (fun E => .int (copyS E s i o j n)) (fun E => copyU E s i o j n) as S I L Post
set_option maxHeartbeats 4000000 in
set_option maxRecDepth 100000 in
theorem c_R_copy : Con mR_copy 3 0 0 sp_R_copy := by
  refine con_of_X rfl fun G as S I L Post hs => ?_
  obtain ⟨s, i, o, j, n, rfl, rfl, hok, h1⟩ := hs
  dsimp only at h1
  refine ⟨4, Nat.le_of_ble_eq_true rfl, ?_⟩
  show X mR_copy G _ S1 I L 0 [.ref 59, .int s, .int i, .int o, .int j, .int n, .null, .null, .null, .null] [] Post
  have bad : ¬ (inR s 0 3 ∧ inR o 0 3) → X mR_copy G (3, 0, 0) S1 I L 18 [.ref 59, .int s, .int i, .int o, .int j, .int n, .null, .null, .null, .null] [] Post := by
    intro hc
    rw [copyS, copyU, if_pos hc, if_pos hc] at h1
    refine x_bipush (v := -2) dR_copy_18 rfl ?_
    -- at 20: .ireturn
    refine x_ireturn dR_copy_20 rfl rfl ?_
    exact h1 I L (fun _ _ => rfl) hok.2 rfl
  refine x_iload_n dR_copy_0 rfl ?_
  refine x_iconst (v := 0) dR_copy_1 rfl ?_
  refine x_iconst (v := 3) dR_copy_2 rfl ?_
  -- at 3: .invokestatic 151
  refine x_callS_3 c_R_in ok_R_in ml_R_151 dR_copy_3 rfl rfl ?_
  refine ⟨_, _, _, rfl, fun a1 => ?_, fun a1 => ?_⟩
  · have a1 : inR s 0 3 := a1
    refine x_if_eq (tgt := 18) dR_copy_6 (by decide) (fun h => absurd h (by decide)) (fun _ => ?_)
    refine x_iload_n dR_copy_9 rfl ?_
    refine x_iconst (v := 0) dR_copy_10 rfl ?_
    refine x_iconst (v := 3) dR_copy_11 rfl ?_
    -- at 12: .invokestatic 151
    refine x_callS_3 c_R_in ok_R_in ml_R_151 dR_copy_12 rfl rfl ?_
    refine ⟨_, _, _, rfl, fun a2 => ?_, fun a2 => ?_⟩
    · have a2 : inR o 0 3 := a2
      refine x_if_ne (tgt := 21) dR_copy_15 (by decide) (fun _ => ?_) (fun h => absurd h (by decide))
      have hso : inR s 0 3 ∧ inR o 0 3 := ⟨a1, a2⟩
      rw [copyS, copyU, if_neg (not_not_intro hso), if_neg (not_not_intro hso)] at h1
      obtain ⟨p, hp, rfl⟩ := inR_of (n := 3) (by decide) a1
      obtain ⟨q, hq, rfl⟩ := inR_of (n := 3) (by decide) a2
      obtain ⟨zp, hzp, ep⟩ := sz_nat hok.1 (s := p) (by omega)
      obtain ⟨zq, hzq, eq⟩ := sz_nat hok.1 (s := q) (by omega)
      have ep : I 89 p = nI zp := ep
      have eq : I 89 q = nI zq := eq
      unfold cpC cpU at h1
      rw [cl_nI (by omega), cl_nI (by omega), show rE I 27 p = nI zp from ep, show rE I 27 q = nI zq from eq] at h1
      have no : (rE I 26 p = -1 ∨ rE I 26 q = -1) → X mR_copy G (3, 0, 0) S1 I L 41 [.ref 59, .int (nI p), .int i, .int (nI q), .int j, .int n, .null, .null, .null, .null] [] Post := by
        intro hc
        rw [if_pos hc, if_pos hc] at h1
        refine x_bipush (v := -11) dR_copy_41 rfl ?_
        -- at 43: .ireturn
        refine x_ireturn dR_copy_43 rfl rfl ?_
        exact h1 I L (fun _ _ => rfl) hok.2 rfl
      refine x_aload_n dR_copy_21 rfl ?_
      refine x_getR fl_R_98 rfl dR_copy_22 rfl rfl rfl ?_
      refine x_iload_n dR_copy_25 rfl ?_
      refine x_ialdJ (j := p) dR_copy_26 rfl rfl (by first | rfl | (simp only [← nI_add, ← pk_mul]; rfl)) (by omega) ?_
      refine x_iconst (v := -1) dR_copy_27 rfl ?_
      -- at 28: .if_icmp .eq 13
      refine x_icmp_eq (tgt := 41) dR_copy_28 (by decide) (fun a3 => ?_) (fun a3 => ?_)
      · exact no (Or.inl a3)
      · have a3 : ¬ rE I 26 p = -1 := a3
        refine x_aload_n dR_copy_31 rfl ?_
        refine x_getR fl_R_98 rfl dR_copy_32 rfl rfl rfl ?_
        refine x_iload_n dR_copy_35 rfl ?_
        refine x_ialdJ (j := q) dR_copy_36 rfl rfl (by first | rfl | (simp only [← nI_add, ← pk_mul]; rfl)) (by omega) ?_
        refine x_iconst (v := -1) dR_copy_37 rfl ?_
        -- at 38: .if_icmp .ne 6
        refine x_icmp_ne (tgt := 44) dR_copy_38 (by decide) (fun a4 => ?_) (fun a4 => ?_)
        · have a4 : ¬ rE I 26 q = -1 := a4
          have hc : ¬ (rE I 26 p = -1 ∨ rE I 26 q = -1) := fun z => z.elim a3 a4
          rw [if_neg hc, if_neg hc] at h1
          refine x_aload_n dR_copy_44 rfl ?_
          refine x_getR fl_R_98 rfl dR_copy_45 rfl rfl rfl ?_
          refine x_iload_n dR_copy_48 rfl ?_
          refine x_ialdJ (j := p) dR_copy_49 rfl rfl (by first | rfl | (simp only [← nI_add, ← pk_mul]; rfl)) (by omega) ?_
          refine x_aload_n dR_copy_50 rfl ?_
          refine x_getR fl_R_98 rfl dR_copy_51 rfl rfl rfl ?_
          refine x_iload_n dR_copy_54 rfl ?_
          refine x_ialdJ (j := q) dR_copy_55 rfl rfl (by first | rfl | (simp only [← nI_add, ← pk_mul]; rfl)) (by omega) ?_
          -- at 56: .if_icmp .eq 6
          refine x_icmp_eq (tgt := 62) dR_copy_56 (by decide) (fun c5 => ?_) (fun c5 => ?_)
          · have c5 : rE I 26 p = rE I 26 q := c5
            rw [if_neg (not_not_intro c5), if_neg (not_not_intro c5)] at h1
            have out : ¬ (0 ≤ n ∧ inR i 0 (nI zp - n) ∧ inR j 0 (nI zq - n)) → X mR_copy G (3, 0, 0) S1 I L 124 [.ref 59, .int (nI p), .int i, .int (nI q), .int j, .int n, .null, .null, .null, .null] [] Post := by
              intro hc
              rw [if_pos hc, if_pos hc] at h1
              refine x_bipush (v := -12) dR_copy_124 rfl ?_
              -- at 126: .ireturn
              refine x_ireturn dR_copy_126 rfl rfl ?_
              exact h1 I L (fun _ _ => rfl) hok.2 rfl
            refine x_iload dR_copy_62 rfl ?_
            -- at 64: .ifCond .lt 60
            refine x_if_lt (tgt := 124) dR_copy_64 (by decide) (fun c6 => ?_) (fun c6 => ?_)
            · exact out (fun z => absurd z.1 (Int32.not_le.mpr c6))
            · have c6 : 0 ≤ n := Int32.not_lt.mp c6
              have ii := cp_iff (i := i) hzp c6
              have jj := cp_iff (i := j) hzq c6
              refine x_iload_n dR_copy_67 rfl ?_
              -- at 68: .ifCond .lt 56
              refine x_if_lt (tgt := 124) dR_copy_68 (by decide) (fun c7 => ?_) (fun c7 => ?_)
              · exact out (fun z => absurd z.2.1.1 (Int32.not_le.mpr c7))
              · have c7 : 0 ≤ i := Int32.not_lt.mp c7
                refine x_iload dR_copy_71 rfl ?_
                -- at 73: .ifCond .lt 51
                refine x_if_lt (tgt := 124) dR_copy_73 (by decide) (fun c8 => ?_) (fun c8 => ?_)
                · exact out (fun z => absurd z.2.2.1 (Int32.not_le.mpr c8))
                · have c8 : 0 ≤ j := Int32.not_lt.mp c8
                  refine x_iload_n dR_copy_76 rfl ?_
                  refine x_aload_n dR_copy_77 rfl ?_
                  refine x_getR fl_R_101 rfl dR_copy_78 rfl rfl rfl ?_
                  refine x_iload_n dR_copy_81 rfl ?_
                  refine x_ialdJ (j := p) dR_copy_82 rfl rfl (by first | rfl | (simp only [← nI_add, ← pk_mul]; rfl)) (by omega) ?_
                  -- at 83: .if_icmp .gt 41
                  rw [ep]
                  refine x_icmp_gt (tgt := 124) dR_copy_83 (by decide) (fun d1 => ?_) (fun d1 => ?_)
                  · exact out (fun z => absurd (ii.mpr z.2.1).2.1 (Int32.not_le.mpr d1))
                  · refine x_iload dR_copy_86 rfl ?_
                    refine x_aload_n dR_copy_88 rfl ?_
                    refine x_getR fl_R_101 rfl dR_copy_89 rfl rfl rfl ?_
                    refine x_iload_n dR_copy_92 rfl ?_
                    refine x_ialdJ (j := q) dR_copy_93 rfl rfl (by first | rfl | (simp only [← nI_add, ← pk_mul]; rfl)) (by omega) ?_
                    -- at 94: .if_icmp .gt 30
                    rw [eq]
                    refine x_icmp_gt (tgt := 124) dR_copy_94 (by decide) (fun d2 => ?_) (fun d2 => ?_)
                    · exact out (fun z => absurd (jj.mpr z.2.2).2.1 (Int32.not_le.mpr d2))
                    · refine x_iload dR_copy_97 rfl ?_
                      refine x_aload_n dR_copy_99 rfl ?_
                      refine x_getR fl_R_101 rfl dR_copy_100 rfl rfl rfl ?_
                      refine x_iload_n dR_copy_103 rfl ?_
                      refine x_ialdJ (j := p) dR_copy_104 rfl rfl (by first | rfl | (simp only [← nI_add, ← pk_mul]; rfl)) (by omega) ?_
                      -- at 105: .iload_n 2
                      rw [ep]
                      refine x_iload_n dR_copy_105 rfl ?_
                      refine x_isub dR_copy_106 ?_
                      -- at 107: .if_icmp .gt 17
                      refine x_icmp_gt (tgt := 124) dR_copy_107 (by decide) (fun d3 => ?_) (fun d3 => ?_)
                      · exact out (fun z => absurd (ii.mpr z.2.1).2.2 (Int32.not_le.mpr d3))
                      · refine x_iload dR_copy_110 rfl ?_
                        refine x_aload_n dR_copy_112 rfl ?_
                        refine x_getR fl_R_101 rfl dR_copy_113 rfl rfl rfl ?_
                        refine x_iload_n dR_copy_116 rfl ?_
                        refine x_ialdJ (j := q) dR_copy_117 rfl rfl (by first | rfl | (simp only [← nI_add, ← pk_mul]; rfl)) (by omega) ?_
                        -- at 118: .iload 4
                        rw [eq]
                        refine x_iload dR_copy_118 rfl ?_
                        refine x_isub dR_copy_120 ?_
                        -- at 121: .if_icmp .le 6
                        refine x_icmp_le (tgt := 127) dR_copy_121 (by decide) (fun d4 => ?_) (fun d4 => ?_)
                        · have a7 : inR i 0 (nI zp - n) := ii.mp ⟨c7, Int32.not_lt.mp d1, Int32.not_lt.mp d3⟩
                          have a8 : inR j 0 (nI zq - n) := jj.mp ⟨c8, Int32.not_lt.mp d2, d4⟩
                          have hc3 : 0 ≤ n ∧ inR i 0 (nI zp - n) ∧ inR j 0 (nI zq - n) := ⟨c6, a7, a8⟩
                          rw [if_neg (not_not_intro hc3), if_neg (not_not_intro hc3)] at h1
                          obtain ⟨a, b, ea, eb, hab⟩ := cp_nat rfl hzp c6 a7
                          obtain ⟨a', b', ea', eb', hab'⟩ := cp_nat rfl hzq c6 a8
                          have ebb : b' = b := by
                            rw [eb'] at eb
                            exact (nI_eq (by omega) (by omega)).mp eb
                          subst ebb
                          subst ea ea' eb
                          rw [cl_nI (by omega), cl_nI (by omega), cl_nI (by omega)] at h1
                          refine x_bipush (v := 40) dR_copy_127 rfl ?_
                          refine x_iload_n dR_copy_129 rfl ?_
                          refine x_imul dR_copy_130 ?_
                          refine x_iload_n dR_copy_131 rfl ?_
                          refine x_iadd dR_copy_132 ?_
                          -- at 133: .istore 6
                          refine x_eqi (y := nI (p * 40 + a)) (r40 p a) ?_
                          refine x_istore_6 dR_copy_133 rfl rfl ?_
                          refine x_bipush (v := 40) dR_copy_135 rfl ?_
                          refine x_iload_n dR_copy_137 rfl ?_
                          refine x_imul dR_copy_138 ?_
                          refine x_iload dR_copy_139 rfl ?_
                          refine x_iadd dR_copy_141 ?_
                          -- at 142: .istore 7
                          refine x_eqi (y := nI (q * 40 + a')) (r40 q a') ?_
                          refine x_istore_7 dR_copy_142 rfl rfl ?_
                          refine x_iconst (v := 0) dR_copy_144 rfl ?_
                          refine x_istore_8 dR_copy_145 rfl rfl ?_
                          -- at 147: .iload 8
                          have fin : ∀ g : Nat → Int32, g = va_cpy (I 90) (I 90) (p * 40 + a) (q * 40 + a') b' → Post (some (.int (nI b'))) S1 (upr I 90 g) L := by
                            intro g hg
                            rw [hg]
                            exact h1 _ L (fun k hk => upr_n _ _ (by omega)) (hok.2.upr (by decide) (by decide)) (rE_28 I _)
                          by_cases hdir : p * 40 + a < q * 40 + a'
                          · have loop : ∀ (m k : Nat) (a9 : Value), k + m = b' → X mR_copy G (3, 0, 0) S1 (upr I 90 (cpB (I 90) (p * 40 + a) (q * 40 + a') b' k)) L 147 [.ref 59, .int (nI p), .int (nI a), .int (nI q), .int (nI a'), .int (nI b'), .int (nI (p * 40 + a)), .int (nI (q * 40 + a')), .int (nI k), a9] [] Post := by
                              intro m
                              induction m with
                              | zero =>
                                intro k a9 hk
                                obtain rfl : k = b' := by omega
                                refine x_iload dR_copy_147 rfl ?_
                                refine x_iload dR_copy_149 rfl ?_
                                -- at 151: .if_icmp .ge 50
                                refine x_icmp_ge (tgt := 201) dR_copy_151 (by decide) (fun _ => ?_) (fun h => absurd (Int32.le_refl _) h)
                                refine x_iload dR_copy_201 rfl ?_
                                -- at 203: .ireturn
                                refine x_ireturn dR_copy_203 rfl rfl ?_
                                exact fin _ (cpB_n _ _ _ _)
                              | succ m ih =>
                                intro k a9 hk
                                refine x_iload dR_copy_147 rfl ?_
                                refine x_iload dR_copy_149 rfl ?_
                                -- at 151: .if_icmp .ge 50
                                refine x_icmp_ge (tgt := 201) dR_copy_151 (by decide) (fun h => absurd h (nI_ge (by omega) (by omega))) (fun _ => ?_)
                                refine x_iload dR_copy_154 rfl ?_
                                refine x_iload dR_copy_156 rfl ?_
                                -- at 158: .if_icmp .ge 13
                                refine x_icmp_ge (tgt := 171) dR_copy_158 (by decide) (fun h => absurd h (nI_ge hdir (by omega))) (fun _ => ?_)
                                refine x_iload dR_copy_161 rfl ?_
                                refine x_iconst (v := 1) dR_copy_163 rfl ?_
                                refine x_isub dR_copy_164 ?_
                                refine x_iload dR_copy_165 rfl ?_
                                refine x_isub dR_copy_167 ?_
                                -- at 168: .goto 5
                                refine x_eqi (y := nI (b' - 1 - k)) (by rw [show (1 : Int32) = nI 1 from rfl, pk_sub (by omega), pk_sub (by omega)]) ?_
                                refine x_goto (tgt := 173) dR_copy_168 (by decide) ?_
                                refine x_istore_9 dR_copy_173 rfl rfl ?_
                                refine x_aload_n dR_copy_175 rfl ?_
                                refine x_getR fl_R_104 rfl dR_copy_176 rfl rfl rfl ?_
                                refine x_iload dR_copy_179 rfl ?_
                                refine x_iload dR_copy_181 rfl ?_
                                refine x_iadd dR_copy_183 ?_
                                refine x_aload_n dR_copy_184 rfl ?_
                                refine x_getR fl_R_104 rfl dR_copy_185 rfl rfl rfl ?_
                                refine x_iload dR_copy_188 rfl ?_
                                refine x_iload dR_copy_190 rfl ?_
                                refine x_iadd dR_copy_192 ?_
                                -- at 193: .iaload
                                rw [nI_add, nI_add]
                                refine x_ialdJ dR_copy_193 rfl rfl rfl (by omega) ?_
                                refine x_iastJ dR_copy_194 rfl rfl rfl (by omega) ?_
                                -- at 195: .iinc 8 1
                                rw [upr_s, up2_upr, cpB_s _ _ _ _ _ hdir (by omega)]
                                refine x_iincp_8 dR_copy_195 rfl rfl ?_
                                refine x_goto (tgt := 147) dR_copy_198 (by decide) ?_
                                -- at 147: .iload 8
                                rw [nI_1]
                                exact ih (k + 1) _ (by omega)
                            have e := loop b' 0 .null (by omega)
                            have e0 : cpB (I 90) (p * 40 + a) (q * 40 + a') b' 0 = I 90 := by
                              funext x
                              unfold cpB
                              rw [if_neg (by omega)]
                            rw [e0, upr_id] at e
                            exact e
                          · have loop : ∀ (m k : Nat) (a9 : Value), k + m = b' → X mR_copy G (3, 0, 0) S1 (upr I 90 (cpF (I 90) (p * 40 + a) (q * 40 + a') k)) L 147 [.ref 59, .int (nI p), .int (nI a), .int (nI q), .int (nI a'), .int (nI b'), .int (nI (p * 40 + a)), .int (nI (q * 40 + a')), .int (nI k), a9] [] Post := by
                              intro m
                              induction m with
                              | zero =>
                                intro k a9 hk
                                obtain rfl : k = b' := by omega
                                refine x_iload dR_copy_147 rfl ?_
                                refine x_iload dR_copy_149 rfl ?_
                                -- at 151: .if_icmp .ge 50
                                refine x_icmp_ge (tgt := 201) dR_copy_151 (by decide) (fun _ => ?_) (fun h => absurd (Int32.le_refl _) h)
                                refine x_iload dR_copy_201 rfl ?_
                                -- at 203: .ireturn
                                refine x_ireturn dR_copy_203 rfl rfl ?_
                                exact fin _ (cpF_n _ _ _ _)
                              | succ m ih =>
                                intro k a9 hk
                                refine x_iload dR_copy_147 rfl ?_
                                refine x_iload dR_copy_149 rfl ?_
                                -- at 151: .if_icmp .ge 50
                                refine x_icmp_ge (tgt := 201) dR_copy_151 (by decide) (fun h => absurd h (nI_ge (by omega) (by omega))) (fun _ => ?_)
                                refine x_iload dR_copy_154 rfl ?_
                                refine x_iload dR_copy_156 rfl ?_
                                -- at 158: .if_icmp .ge 13
                                refine x_icmp_ge (tgt := 171) dR_copy_158 (by decide) (fun _ => ?_) (fun h => absurd (nI_le (by omega) (by omega)) h)
                                refine x_iload dR_copy_171 rfl ?_
                                refine x_istore_9 dR_copy_173 rfl rfl ?_
                                refine x_aload_n dR_copy_175 rfl ?_
                                refine x_getR fl_R_104 rfl dR_copy_176 rfl rfl rfl ?_
                                refine x_iload dR_copy_179 rfl ?_
                                refine x_iload dR_copy_181 rfl ?_
                                refine x_iadd dR_copy_183 ?_
                                refine x_aload_n dR_copy_184 rfl ?_
                                refine x_getR fl_R_104 rfl dR_copy_185 rfl rfl rfl ?_
                                refine x_iload dR_copy_188 rfl ?_
                                refine x_iload dR_copy_190 rfl ?_
                                refine x_iadd dR_copy_192 ?_
                                -- at 193: .iaload
                                rw [nI_add, nI_add]
                                refine x_ialdJ dR_copy_193 rfl rfl rfl (by omega) ?_
                                refine x_iastJ dR_copy_194 rfl rfl rfl (by omega) ?_
                                -- at 195: .iinc 8 1
                                rw [upr_s, up2_upr, cpF_s _ _ _ _ (by omega)]
                                refine x_iincp_8 dR_copy_195 rfl rfl ?_
                                refine x_goto (tgt := 147) dR_copy_198 (by decide) ?_
                                -- at 147: .iload 8
                                rw [nI_1]
                                exact ih (k + 1) _ (by omega)
                            have e := loop b' 0 .null (by omega)
                            have e0 : cpF (I 90) (p * 40 + a) (q * 40 + a') 0 = I 90 := by
                              funext x
                              unfold cpF
                              rw [if_neg (by omega)]
                            rw [e0, upr_id] at e
                            exact e
                        · exact out (fun z => d4 (jj.mpr z.2.2).2.2)
          · have c5 : ¬ rE I 26 p = rE I 26 q := c5
            rw [if_pos c5, if_pos c5] at h1
            refine x_bipush (v := -13) dR_copy_59 rfl ?_
            -- at 61: .ireturn
            refine x_ireturn dR_copy_61 rfl rfl ?_
            exact h1 I L (fun _ _ => rfl) hok.2 rfl
        · exact no (Or.inr a4)
    · refine x_if_ne (tgt := 21) dR_copy_15 (by decide) (fun h => absurd (by decide) h) (fun _ => ?_)
      exact bad (fun z => a2 z.2)
  · refine x_if_eq (tgt := 18) dR_copy_6 (by decide) (fun _ => ?_) (fun h => absurd (by decide) h)
    exact bad (fun z => a1 z.1)
theorem pb_iff {z k : Nat} {a0 : Int32} (hz : z ≤ 40) (hk : k ≤ 8) : (0 ≤ a0 ∧ a0 ≤ a0 + 4 * nI k ∧ a0 + 4 * nI k ≤ nI z - 4) ↔ inR a0 0 (nI z - 4 - 4 * nI k) := by
  have e4 : (4 : Int32) * nI k = nI (4 * k) := pk_mul 4 k
  constructor
  · rintro ⟨h1, h2, h3⟩
    obtain ⟨a, ha, rfl⟩ := nat_any h1
    rw [e4, nI_add] at h2 h3
    have hb : a + 4 * k < 2 ^ 31 := by
      by_cases y : a + 4 * k < 2 ^ 31
      · exact y
      · exfalso
        have h5 := Int32.le_iff_toInt_le.mp h2
        rw [nI_toInt ha] at h5
        have e : (nI (a + 4 * k)).toInt = ((a + 4 * k : Nat) : Int) - 2 ^ 32 := by
          rw [← nI_add, Int32.toInt_add, nI_toInt ha, nI_toInt (show 4 * k < 2 ^ 31 by omega), Int.bmod_eq_emod, if_pos (by omega)]
          omega
        omega
    have h5 := Int32.le_iff_toInt_le.mp h3
    rw [show (nI z - 4 : Int32) = nI z - nI 4 from rfl, pk_sub_toInt (by omega) (by omega), nI_toInt hb] at h5
    refine ⟨h1, ?_⟩
    rw [e4, show (nI z - 4 : Int32) = nI z - nI 4 from rfl, pk_sub (by omega), pk_sub (by omega)]
    exact nI_le (by omega) (by omega)
  · intro h
    obtain ⟨a, rfl, hza⟩ := pb_nat hz hk h
    refine ⟨h.1, ?_, ?_⟩
    · rw [e4, nI_add]
      exact nI_le (by omega) (by omega)
    · rw [e4, nI_add, show (nI z - 4 : Int32) = nI z - nI 4 from rfl, pk_sub (by omega)]
      exact nI_le (by omega) (by omega)
def sp_R_promisesBy : SpT := fun as S I L Post => ∃ s so a0 n : Int32, rSp [.int s, .int so, .int a0, .int n] (fun E => .int (pbS E s so a0 n)) (fun E => pbU E s so a0 n) as S I L Post
set_option maxHeartbeats 4000000 in
set_option maxRecDepth 100000 in
theorem c_R_promisesBy : Con mR_promisesBy 4 0 0 sp_R_promisesBy := by
  refine con_of_X rfl fun G as S I0 L Post hs => ?_
  obtain ⟨s, so, a0, n, rfl, rfl, hok, h1⟩ := hs
  dsimp only at h1
  refine ⟨4, Nat.le_of_ble_eq_true rfl, ?_⟩
  show X mR_promisesBy G _ S1 I0 L 0 [.ref 59, .int s, .int so, .int a0, .int n, .null, .null, .null, .null] [] Post
  have bad : ¬ pbOk s so n → X mR_promisesBy G (4, 0, 0) S1 I0 L 29 [.ref 59, .int s, .int so, .int a0, .int n, .null, .null, .null, .null] [] Post := by
    intro hc
    rw [pbS, pbU, if_pos hc, if_pos hc] at h1
    refine x_bipush (v := -2) dR_promisesBy_29 rfl ?_
    -- at 31: .ireturn
    refine x_ireturn dR_promisesBy_31 rfl rfl ?_
    exact h1 I0 L (fun _ _ => rfl) hok.2 rfl
  refine x_iload_n dR_promisesBy_0 rfl ?_
  refine x_iconst (v := 0) dR_promisesBy_1 rfl ?_
  refine x_iconst (v := 3) dR_promisesBy_2 rfl ?_
  -- at 3: .invokestatic 151
  refine x_callS_3 c_R_in ok_R_in ml_R_151 dR_promisesBy_3 rfl rfl ?_
  refine ⟨_, _, _, rfl, fun a1 => ?_, fun a1 => ?_⟩
  · have a1 : inR s 0 3 := a1
    refine x_if_eq (tgt := 29) dR_promisesBy_6 (by decide) (fun h => absurd h (by decide)) (fun _ => ?_)
    refine x_iload_n dR_promisesBy_9 rfl ?_
    refine x_iconst (v := 0) dR_promisesBy_10 rfl ?_
    refine x_iconst (v := 2) dR_promisesBy_11 rfl ?_
    -- at 12: .invokestatic 151
    refine x_callS_3 c_R_in ok_R_in ml_R_151 dR_promisesBy_12 rfl rfl ?_
    refine ⟨_, _, _, rfl, fun a2 => ?_, fun a2 => ?_⟩
    · refine x_if_eq (tgt := 29) dR_promisesBy_15 (by decide) (fun h => absurd h (by decide)) (fun _ => ?_)
      refine x_iload dR_promisesBy_18 rfl ?_
      refine x_iconst (v := 0) dR_promisesBy_20 rfl ?_
      refine x_bipush (v := 8) dR_promisesBy_21 rfl ?_
      -- at 23: .invokestatic 151
      refine x_callS_3 c_R_in ok_R_in ml_R_151 dR_promisesBy_23 rfl rfl ?_
      refine ⟨_, _, _, rfl, fun a3 => ?_, fun a3 => ?_⟩
      · have a3 : inR n 0 8 := a3
        refine x_if_ne (tgt := 32) dR_promisesBy_26 (by decide) (fun _ => ?_) (fun h => absurd h (by decide))
        have hc : pbOk s so n := ⟨a1, a2, a3⟩
        rw [pbS, pbU, if_neg (not_not_intro hc), if_neg (not_not_intro hc)] at h1
        obtain ⟨i, hi, rfl⟩ := inR_of (n := 3) (by decide) a1
        obtain ⟨N, hN, rfl⟩ := inR_of (n := 8) (by decide) a3
        rw [cl_nI (by omega), cl_nI (by omega)] at h1
        refine x_aload_n dR_promisesBy_32 rfl ?_
        refine x_getR fl_R_98 rfl dR_promisesBy_33 rfl rfl rfl ?_
        refine x_iload_n dR_promisesBy_36 rfl ?_
        refine x_ialdJ (j := i) dR_promisesBy_37 rfl rfl (by first | rfl | (simp only [← nI_add, ← pk_mul]; rfl)) (by omega) ?_
        refine x_iconst (v := -1) dR_promisesBy_38 rfl ?_
        -- at 39: .if_icmp .ne 6
        refine x_icmp_ne (tgt := 45) dR_promisesBy_39 (by decide) (fun a4 => ?_) (fun a4 => ?_)
        · have a4 : ¬ rE I0 26 i = -1 := a4
          rw [if_neg a4, if_neg a4] at h1
          refine x_aload_n dR_promisesBy_45 rfl ?_
          refine x_getR fl_R_98 rfl dR_promisesBy_46 rfl rfl rfl ?_
          refine x_iload_n dR_promisesBy_49 rfl ?_
          refine x_ialdJ (j := i) dR_promisesBy_50 rfl rfl (by first | rfl | (simp only [← nI_add, ← pk_mul]; rfl)) (by omega) ?_
          refine x_iload_n dR_promisesBy_51 rfl ?_
          -- at 52: .if_icmp .eq 6
          refine x_icmp_eq (tgt := 58) dR_promisesBy_52 (by decide) (fun c5 => ?_) (fun c5 => ?_)
          · have c5 : rE I0 26 i = so := c5
            rw [if_neg (not_not_intro c5), if_neg (not_not_intro c5)] at h1
            refine x_iconst (v := 0) dR_promisesBy_58 rfl ?_
            refine x_istore_5 dR_promisesBy_59 rfl rfl ?_
            refine x_iconst (v := 0) dR_promisesBy_61 rfl ?_
            refine x_istore_6 dR_promisesBy_62 rfl rfl ?_
            -- at 64: .iload 6
            have loop : ∀ (m k : Nat) (I : IM) (L : LM) (came : Int32) (a7 a8 : Value), k + m = N → rOk I → (∀ k, k < 59 → I k = I0 k) →
                (∀ (I' : IM) (L' : LM), (∀ k, k < 59 → I' k = I0 k) → rOwn I' → rE I' = (pbR i a0 m k came (rE I)).2 → Post (some (.int (pbR i a0 m k came (rE I)).1)) S1 I' L') →
                X mR_promisesBy G (4, 0, 0) S1 I L 64 [.ref 59, .int (nI i), .int so, .int a0, .int (nI N), .int came, .int (nI k), a7, a8] [] Post := by
              intro m
              induction m with
              | zero =>
                intro k I L came a7 a8 hk ok st hcc
                obtain rfl : k = N := by omega
                refine x_iload dR_promisesBy_64 rfl ?_
                refine x_iload dR_promisesBy_66 rfl ?_
                -- at 68: .if_icmp .ge 103
                refine x_icmp_ge (tgt := 171) dR_promisesBy_68 (by decide) (fun _ => ?_) (fun h => absurd (Int32.le_refl _) h)
                refine x_iload dR_promisesBy_171 rfl ?_
                -- at 173: .ireturn
                refine x_ireturn dR_promisesBy_173 rfl rfl ?_
                exact hcc I L st ok.2 rfl
              | succ m ih =>
                intro k I L came a7 a8 hk ok st hcc
                obtain ⟨z, hz, ez⟩ := sz_nat ok.1 (s := i) (by omega)
                have ez : I 89 i = nI z := ez
                rw [pbR, show rE I 27 i = nI z from ez] at hcc
                have iff := pb_iff (k := k) (a0 := a0) hz (by omega)
                have out : ¬ inR a0 0 (nI z - 4 - 4 * nI k) → ∀ x : Int32, X mR_promisesBy G (4, 0, 0) S1 I L 102 [.ref 59, .int (nI i), .int so, .int a0, .int (nI N), .int came, .int (nI k), .int x, a8] [] Post := by
                  intro g x
                  rw [if_pos g] at hcc
                  refine x_bipush (v := -12) dR_promisesBy_102 rfl ?_
                  -- at 104: .ireturn
                  refine x_ireturn dR_promisesBy_104 rfl rfl ?_
                  exact hcc I L st ok.2 rfl
                refine x_iload dR_promisesBy_64 rfl ?_
                refine x_iload dR_promisesBy_66 rfl ?_
                -- at 68: .if_icmp .ge 103
                refine x_icmp_ge (tgt := 171) dR_promisesBy_68 (by decide) (fun h => absurd h (nI_ge (b := N) (by omega) (by omega))) (fun _ => ?_)
                refine x_iload_n dR_promisesBy_71 rfl ?_
                refine x_iconst (v := 4) dR_promisesBy_72 rfl ?_
                refine x_iload dR_promisesBy_73 rfl ?_
                refine x_imul dR_promisesBy_75 ?_
                refine x_iadd dR_promisesBy_76 ?_
                refine x_istore_7 dR_promisesBy_77 rfl rfl ?_
                refine x_iload_n dR_promisesBy_79 rfl ?_
                -- at 80: .ifCond .lt 22
                refine x_if_lt (tgt := 102) dR_promisesBy_80 (by decide) (fun c6 => ?_) (fun c6 => ?_)
                · exact out (fun z => absurd z.1 (Int32.not_le.mpr c6)) _
                · refine x_iload dR_promisesBy_83 rfl ?_
                  refine x_iload_n dR_promisesBy_85 rfl ?_
                  -- at 86: .if_icmp .lt 16
                  refine x_icmp_lt (tgt := 102) dR_promisesBy_86 (by decide) (fun c7 => ?_) (fun c7 => ?_)
                  · exact out (fun z => absurd (iff.mpr z).2.1 (Int32.not_le.mpr c7)) _
                  · refine x_iload dR_promisesBy_89 rfl ?_
                    refine x_aload_n dR_promisesBy_91 rfl ?_
                    refine x_getR fl_R_101 rfl dR_promisesBy_92 rfl rfl rfl ?_
                    refine x_iload_n dR_promisesBy_95 rfl ?_
                    refine x_ialdJ (j := i) dR_promisesBy_96 rfl rfl (by first | rfl | (simp only [← nI_add, ← pk_mul]; rfl)) (by omega) ?_
                    -- at 97: .iconst 4
                    rw [ez]
                    refine x_iconst (v := 4) dR_promisesBy_97 rfl ?_
                    refine x_isub dR_promisesBy_98 ?_
                    -- at 99: .if_icmp .le 6
                    refine x_icmp_le (tgt := 105) dR_promisesBy_99 (by decide) (fun c8 => ?_) (fun c8 => ?_)
                    · have g : inR a0 0 (nI z - 4 - 4 * nI k) := iff.mp ⟨Int32.not_lt.mp c6, Int32.not_lt.mp c7, c8⟩
                      rw [if_neg (not_not_intro g)] at hcc
                      obtain ⟨a, rfl, hza⟩ := pb_nat hz (by omega) g
                      have ec : pbC i (nI a) k = i * 40 + a + 4 * k := by unfold pbC; rw [cl_nI (by omega)]
                      rw [ec] at hcc
                      refine x_bipush (v := 40) dR_promisesBy_105 rfl ?_
                      refine x_iload_n dR_promisesBy_107 rfl ?_
                      refine x_imul dR_promisesBy_108 ?_
                      refine x_iload dR_promisesBy_109 rfl ?_
                      refine x_iadd dR_promisesBy_111 ?_
                      -- at 112: .istore 8
                      refine x_eqi (y := nI (i * 40 + a + 4 * k)) (by rw [show (4 : Int32) * nI k = nI (4 * k) from pk_mul 4 k, nI_add, r40, ← Nat.add_assoc]) ?_
                      refine x_istore_8 dR_promisesBy_112 rfl rfl ?_
                      refine x_iload dR_promisesBy_114 rfl ?_
                      refine x_aload_n dR_promisesBy_116 rfl ?_
                      refine x_aload_n dR_promisesBy_117 rfl ?_
                      refine x_getR fl_R_104 rfl dR_promisesBy_118 rfl rfl rfl ?_
                      refine x_iload dR_promisesBy_121 rfl ?_
                      refine x_ialdJ (j := i * 40 + a + 4 * k) dR_promisesBy_123 rfl rfl (by first | rfl | (simp only [← nI_add, ← pk_mul]; rfl)) (by omega) ?_
                      refine x_aload_n dR_promisesBy_124 rfl ?_
                      refine x_getR fl_R_104 rfl dR_promisesBy_125 rfl rfl rfl ?_
                      refine x_iload dR_promisesBy_128 rfl ?_
                      refine x_iconst (v := 1) dR_promisesBy_130 rfl ?_
                      refine x_iadd dR_promisesBy_131 ?_
                      refine x_ialdJ (j := i * 40 + a + 4 * k + 1) dR_promisesBy_132 rfl rfl (by first | rfl | (simp only [← nI_add, ← pk_mul]; rfl)) (by omega) ?_
                      refine x_aload_n dR_promisesBy_133 rfl ?_
                      refine x_getR fl_R_104 rfl dR_promisesBy_134 rfl rfl rfl ?_
                      refine x_iload dR_promisesBy_137 rfl ?_
                      refine x_iconst (v := 2) dR_promisesBy_139 rfl ?_
                      refine x_iadd dR_promisesBy_140 ?_
                      refine x_ialdJ (j := i * 40 + a + 4 * k + 2) dR_promisesBy_141 rfl rfl (by first | rfl | (simp only [← nI_add, ← pk_mul]; rfl)) (by omega) ?_
                      refine x_aload_n dR_promisesBy_142 rfl ?_
                      refine x_getR fl_R_104 rfl dR_promisesBy_143 rfl rfl rfl ?_
                      refine x_iload dR_promisesBy_146 rfl ?_
                      refine x_iconst (v := 3) dR_promisesBy_148 rfl ?_
                      refine x_iadd dR_promisesBy_149 ?_
                      refine x_ialdJ (j := i * 40 + a + 4 * k + 3) dR_promisesBy_150 rfl rfl (by first | rfl | (simp only [← nI_add, ← pk_mul]; rfl)) (by omega) ?_
                      -- at 151: .invokevirtual 376
                      refine x_callV_4 c_R_promise ok_R_promise ml_R_376 dR_promisesBy_151 rfl rfl rfl rfl rfl ?_
                      refine ⟨_, _, _, _, rfl, rfl, ok, fun I' L' st' own' e' => ?_⟩
                      have ok' : rOk I' := by
                        refine ⟨?_, own'⟩
                        rw [e']
                        exact Inv_promise ok.1 _ _ _ _
                      have st2 : ∀ k, k < 59 → I' k = I0 k := fun k hk => (st' k hk).trans (st k hk)
                      refine x_if_lt (tgt := 161) dR_promisesBy_154 (by decide) (fun d1 => ?_) (fun d1 => ?_)
                      · have d1 : promiseS (rE I) (rE I 28 (i * 40 + a + 4 * k)) (rE I 28 (i * 40 + a + 4 * k + 1)) (rE I 28 (i * 40 + a + 4 * k + 2)) (rE I 28 (i * 40 + a + 4 * k + 3)) < 0 := d1
                        refine x_iconst (v := 0) dR_promisesBy_161 rfl ?_
                        refine x_iadd dR_promisesBy_162 ?_
                        -- at 163: .istore 5
                        refine x_eqi (y := came) (Int32.add_zero came) ?_
                        refine x_istore_5 dR_promisesBy_163 rfl rfl ?_
                        refine x_iincp_6 dR_promisesBy_165 rfl rfl ?_
                        refine x_goto (tgt := 64) dR_promisesBy_168 (by decide) ?_
                        -- at 64: .iload 6
                        rw [nI_1]
                        refine ih (k + 1) I' L' _ _ _ (by omega) ok' st2 ?_
                        rw [e']
                        rw [if_neg (Int32.not_le.mpr d1)] at hcc
                        exact hcc
                      · have d1 : ¬ promiseS (rE I) (rE I 28 (i * 40 + a + 4 * k)) (rE I 28 (i * 40 + a + 4 * k + 1)) (rE I 28 (i * 40 + a + 4 * k + 2)) (rE I 28 (i * 40 + a + 4 * k + 3)) < 0 := d1
                        refine x_iconst (v := 1) dR_promisesBy_157 rfl ?_
                        refine x_goto (tgt := 162) dR_promisesBy_158 (by decide) ?_
                        refine x_iadd dR_promisesBy_162 ?_
                        refine x_istore_5 dR_promisesBy_163 rfl rfl ?_
                        refine x_iincp_6 dR_promisesBy_165 rfl rfl ?_
                        refine x_goto (tgt := 64) dR_promisesBy_168 (by decide) ?_
                        -- at 64: .iload 6
                        rw [nI_1]
                        refine ih (k + 1) I' L' _ _ _ (by omega) ok' st2 ?_
                        rw [e']
                        rw [if_pos (Int32.not_lt.mp d1)] at hcc
                        exact hcc
                    · exact out (fun z => absurd (iff.mpr z).2.2 c8) _
            exact loop N 0 I0 L 0 _ _ (by omega) hok (fun _ _ => rfl) h1
          · have c5 : ¬ rE I0 26 i = so := c5
            rw [if_pos c5, if_pos c5] at h1
            refine x_bipush (v := -13) dR_promisesBy_55 rfl ?_
            -- at 57: .ireturn
            refine x_ireturn dR_promisesBy_57 rfl rfl ?_
            exact h1 I0 L (fun _ _ => rfl) hok.2 rfl
        · have a4 : rE I0 26 i = -1 := a4
          rw [if_pos a4, if_pos a4] at h1
          refine x_bipush (v := -11) dR_promisesBy_42 rfl ?_
          -- at 44: .ireturn
          refine x_ireturn dR_promisesBy_44 rfl rfl ?_
          exact h1 I0 L (fun _ _ => rfl) hok.2 rfl
      · refine x_if_ne (tgt := 32) dR_promisesBy_26 (by decide) (fun h => absurd (by decide) h) (fun _ => ?_)
        exact bad (fun z => a3 z.2.2)
    · refine x_if_eq (tgt := 29) dR_promisesBy_15 (by decide) (fun _ => ?_) (fun h => absurd (by decide) h)
      exact bad (fun z => a2 z.2.1)
  · refine x_if_eq (tgt := 29) dR_promisesBy_6 (by decide) (fun _ => ?_) (fun h => absurd (by decide) h)
    exact bad (fun z => a1 z.1)
