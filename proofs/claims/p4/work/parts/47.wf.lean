/-! the class's calls: the host -/
def zer40 (f : Nat → Int32) (s : Nat) : Nat → Int32 := fun j => if s * 40 ≤ j ∧ j < s * 40 + 40 then 0 else f j
def shU (E : IM) (s : Nat) (k n : Int32) : IM := upr (up2 (up2 E 26 s k) 27 s n) 28 (zer40 (E 28) s)
def cshU (I : IM) (s : Nat) (k n : Int32) : IM := upr (up2 (up2 I 56 s k) 57 s n) 58 (zer40 (I 58) s)
def sp_Sheets_become : SpT := fun as S I L Post => ∃ (s : Nat) (k n : Int32), as = [.ref 55, .int (nI s), .int k, .int n] ∧ S = S1 ∧ s < 4 ∧ Post none S1 (cshU I s k n) L
set_option maxHeartbeats 4000000 in
set_option maxRecDepth 100000 in
theorem c_Sheets_become : Con mSheets_become 2 0 0 sp_Sheets_become := by
  refine con_of_X rfl fun G as S I L Post hs => ?_
  obtain ⟨s, k0, n, rfl, rfl, hs, h1⟩ := hs
  refine ⟨1, Nat.le_of_ble_eq_true rfl, ?_⟩
  show X mSheets_become G _ S1 I L 0 [.ref 55, .int (nI s), .int k0, .int n, .null] [] Post
  refine x_aload_n dSheets_become_0 rfl ?_
  refine x_getR fl_Sheets_9 rfl dSheets_become_1 rfl rfl rfl ?_
  refine x_iload_n dSheets_become_4 rfl ?_
  refine x_iload_n dSheets_become_5 rfl ?_
  refine x_iastJ (j := s) dSheets_become_6 rfl rfl (by first | rfl | (simp only [← nI_add, ← pk_mul]; rfl)) (by omega) ?_
  refine x_aload_n dSheets_become_7 rfl ?_
  refine x_getR fl_Sheets_15 rfl dSheets_become_8 rfl rfl rfl ?_
  refine x_iload_n dSheets_become_11 rfl ?_
  refine x_iload_n dSheets_become_12 rfl ?_
  refine x_iastJ (j := s) dSheets_become_13 rfl rfl (by first | rfl | (simp only [← nI_add, ← pk_mul]; rfl)) (by omega) ?_
  refine x_iconst (v := 0) dSheets_become_14 rfl ?_
  refine x_istore_4 dSheets_become_15 rfl rfl ?_
  -- at 17: .iload 4
  have loop : ∀ (k i : Nat) (I' : IM), i + k = 40 → I' = upr (up2 (up2 I 56 s k0) 57 s n) 58 (fun j => if s * 40 ≤ j ∧ j < s * 40 + i then 0 else I 58 j) →
      X mSheets_become G (2, 0, 0) S1 I' L 17 [.ref 55, .int (nI s), .int k0, .int n, .int (nI i)] [] Post := by
    intro k
    induction k with
    | zero =>
      intro i I' hi hI
      obtain rfl : i = 40 := by omega
      refine x_iload dSheets_become_17 rfl ?_
      refine x_bipush (v := 40) dSheets_become_19 rfl ?_
      -- at 21: .if_icmp .ge 22
      refine x_icmp_ge (tgt := 43) dSheets_become_21 (by decide) (fun _ => ?_) (fun h => absurd (Int32.le_refl _) h)
      refine x_return dSheets_become_43 rfl ?_
      rw [hI]
      exact h1
    | succ k ih =>
      intro i I' hi hI
      refine x_iload dSheets_become_17 rfl ?_
      refine x_bipush (v := 40) dSheets_become_19 rfl ?_
      -- at 21: .if_icmp .ge 22
      refine x_icmp_ge (tgt := 43) dSheets_become_21 (by decide) (fun h => absurd h (nI_ge (b := 40) (by omega) (by omega))) (fun _ => ?_)
      refine x_aload_n dSheets_become_24 rfl ?_
      refine x_getR fl_Sheets_18 rfl dSheets_become_25 rfl rfl rfl ?_
      refine x_iload_n dSheets_become_28 rfl ?_
      refine x_bipush (v := 40) dSheets_become_29 rfl ?_
      refine x_imul dSheets_become_31 ?_
      refine x_iload dSheets_become_32 rfl ?_
      refine x_iadd dSheets_become_34 ?_
      refine x_iconst (v := 0) dSheets_become_35 rfl ?_
      refine x_iastJ (j := s * 40 + i) dSheets_become_36 rfl rfl (by first | rfl | (simp only [← nI_add, ← pk_mul]; rfl)) (by omega) ?_
      -- at 37: .iinc 4 1
      refine x_iincp_4 dSheets_become_37 rfl rfl ?_
      refine x_goto (tgt := 17) dSheets_become_40 (by decide) ?_
      -- at 17: .iload 4
      rw [nI_1]
      refine ih (i + 1) _ (by omega) ?_
      rw [hI]
      funext a
      by_cases h : a = 58
      · subst h
        rw [up2_s, upr_s, upr_s]
        funext j
        unfold up1
        dsimp only
        by_cases hj : j = s * 40 + i
        · rw [if_pos hj, if_pos ⟨by omega, by omega⟩]
        · rw [if_neg hj]
          by_cases h2 : s * 40 ≤ j ∧ j < s * 40 + i
          · rw [if_pos h2, if_pos ⟨h2.1, by omega⟩]
          · rw [if_neg h2, if_neg (fun z => h2 ⟨z.1, by omega⟩)]
      · rw [up2_n _ _ _ h, upr_n _ _ h, upr_n _ _ h]
  refine loop 40 0 _ rfl ?_
  funext a
  by_cases h : a = 58
  · subst h
    rw [upr_s]
    simp only [up2_n, up2_s, ne_eq, Nat.reduceEqDiff, not_false_eq_true]
    funext j
    rw [if_neg (fun z => by omega)]
  · rw [upr_n _ _ h]
abbrev shC (s k n : Int32) : Prop := inR s 0 3 ∧ inR k (-1) 2 ∧ (k = -1 ∨ n ≤ 40)
def sheetS (s k n : Int32) : Int32 := if ¬ shC s k n then -2 else if ¬ k = -1 ∧ n < 0 then -14 else 1
def sheetU (E : IM) (s k n : Int32) : IM := if ¬ shC s k n then E else if ¬ k = -1 ∧ n < 0 then E else shU E (cl s) k (if k = -1 then 0 else n)
theorem cE_shU (I : IM) (s : Nat) (k n : Int32) : cE (cshU I s k n) = shU (cE I) s k n := by
  unfold cshU shU
  rw [cE_28, cE_u27, cE_u26]
  rfl
def sp_W_sheet : SpT := fun as S I L Post => ∃ s k n : Int32, cSp [.int s, .int k, .int n] (fun _ => .int (sheetS s k n)) (fun E => sheetU E s k n) as S I L Post
set_option maxHeartbeats 4000000 in
set_option maxRecDepth 100000 in
theorem c_W_sheet : Con mW_sheet 3 0 0 sp_W_sheet := by
  refine con_of_X rfl fun G as S I L Post hs => ?_
  obtain ⟨s, k, n, rfl, rfl, hok, h1⟩ := hs
  dsimp only at h1
  refine ⟨0, Nat.le_of_ble_eq_true rfl, ?_⟩
  show X mW_sheet G _ S1 I L 0 [.ref 0, .int s, .int k, .int n] [] Post
  have bad : ¬ shC s k n → Post (some (.int (-2))) S1 I L := by
    intro hc
    rw [sheetS, sheetU, if_pos hc, if_pos hc] at h1
    exact h1 I (fun _ _ => rfl) rfl
  refine x_iload_n dW_sheet_0 rfl ?_
  refine x_iconst (v := 0) dW_sheet_1 rfl ?_
  refine x_iconst (v := 3) dW_sheet_2 rfl ?_
  -- at 3: .invokestatic 101
  refine x_callS_3 c_W_within ok_W_within ml_W_101 dW_sheet_3 rfl rfl ?_
  refine ⟨_, _, _, rfl, fun a1 => ?_, fun a1 => ?_⟩
  · have a1 : inR s 0 3 := a1
    refine x_if_eq (tgt := 18) dW_sheet_6 (by decide) (fun h => absurd h (by decide)) (fun _ => ?_)
    refine x_iload_n dW_sheet_9 rfl ?_
    refine x_iconst (v := -1) dW_sheet_10 rfl ?_
    refine x_iconst (v := 2) dW_sheet_11 rfl ?_
    -- at 12: .invokestatic 101
    refine x_callS_3 c_W_within ok_W_within ml_W_101 dW_sheet_12 rfl rfl ?_
    refine ⟨_, _, _, rfl, fun a2 => ?_, fun a2 => ?_⟩
    · refine x_if_ne (tgt := 21) dW_sheet_15 (by decide) (fun _ => ?_) (fun h => absurd h (by decide))
      obtain ⟨i, hi, rfl⟩ := inR_of (n := 3) (by decide) a1
      have fin : ∀ n' : Int32, shC (nI i) k n → ¬ (¬ k = -1 ∧ n < 0) → n' = (if k = -1 then 0 else n) → X mW_sheet G (3, 0, 0) S1 I L 63 [.ref 0, .int (nI i), .int k, .int n] [.int n', .int k, .int (nI i), .ref 55] Post := by
        intro n' hc hc2 hn'
        rw [sheetS, sheetU, if_neg (not_not_intro hc), if_neg (not_not_intro hc), if_neg hc2, if_neg hc2, cl_nI (by omega)] at h1
        refine x_callV_3 c_Sheets_become ok_Sheets_become ml_W_332 dW_sheet_63 rfl rfl rfl rfl rfl ?_
        refine ⟨i, k, n', rfl, rfl, by omega, ?_⟩
        refine x_iconst (v := 1) dW_sheet_66 rfl ?_
        -- at 67: .ireturn
        refine x_ireturn dW_sheet_67 rfl rfl ?_
        refine h1 _ (fun j hj => by unfold cshU; rw [upr_n _ _ (by omega), up2_n _ _ _ (by omega), up2_n _ _ _ (by omega)]) ?_
        rw [cE_shU, hn']
      refine x_iload_n dW_sheet_21 rfl ?_
      refine x_iconst (v := -1) dW_sheet_22 rfl ?_
      -- at 23: .if_icmp .eq 12
      refine x_icmp_eq (tgt := 35) dW_sheet_23 (by decide) (fun c1 => ?_) (fun c1 => ?_)
      · have hc : shC (nI i) k n := ⟨a1, a2, Or.inl c1⟩
        refine x_iload_n dW_sheet_35 rfl ?_
        refine x_iconst (v := -1) dW_sheet_36 rfl ?_
        -- at 37: .if_icmp .eq 10
        refine x_icmp_eq (tgt := 47) dW_sheet_37 (by decide) (fun _ => ?_) (fun h => absurd c1 h)
        refine x_aload_n dW_sheet_47 rfl ?_
        refine x_getR fl_W_70 rfl dW_sheet_48 rfl rfl rfl ?_
        refine x_iload_n dW_sheet_51 rfl ?_
        refine x_iload_n dW_sheet_52 rfl ?_
        refine x_iload_n dW_sheet_53 rfl ?_
        refine x_iconst (v := -1) dW_sheet_54 rfl ?_
        -- at 55: .if_icmp .ne 7
        refine x_icmp_ne (tgt := 62) dW_sheet_55 (by decide) (fun h => absurd c1 h) (fun _ => ?_)
        refine x_iconst (v := 0) dW_sheet_58 rfl ?_
        refine x_goto (tgt := 63) dW_sheet_59 (by decide) ?_
        -- at 63: .invokevirtual 332
        exact fin 0 hc (fun z => z.1 c1) (by rw [if_pos c1])
      · refine x_iload_n dW_sheet_26 rfl ?_
        refine x_bipush (v := 40) dW_sheet_27 rfl ?_
        -- at 29: .if_icmp .le 6
        refine x_icmp_le (tgt := 35) dW_sheet_29 (by decide) (fun c2 => ?_) (fun c2 => ?_)
        · have hc : shC (nI i) k n := ⟨a1, a2, Or.inr c2⟩
          refine x_iload_n dW_sheet_35 rfl ?_
          refine x_iconst (v := -1) dW_sheet_36 rfl ?_
          -- at 37: .if_icmp .eq 10
          refine x_icmp_eq (tgt := 47) dW_sheet_37 (by decide) (fun h => absurd h c1) (fun _ => ?_)
          refine x_iload_n dW_sheet_40 rfl ?_
          -- at 41: .ifCond .ge 6
          refine x_if_ge (tgt := 47) dW_sheet_41 (by decide) (fun c3 => ?_) (fun c3 => ?_)
          · refine x_aload_n dW_sheet_47 rfl ?_
            refine x_getR fl_W_70 rfl dW_sheet_48 rfl rfl rfl ?_
            refine x_iload_n dW_sheet_51 rfl ?_
            refine x_iload_n dW_sheet_52 rfl ?_
            refine x_iload_n dW_sheet_53 rfl ?_
            refine x_iconst (v := -1) dW_sheet_54 rfl ?_
            -- at 55: .if_icmp .ne 7
            refine x_icmp_ne (tgt := 62) dW_sheet_55 (by decide) (fun _ => ?_) (fun h => absurd h c1)
            refine x_iload_n dW_sheet_62 rfl ?_
            -- at 63: .invokevirtual 332
            exact fin n hc (fun z => absurd z.2 (Int32.not_lt.mpr c3)) (by rw [if_neg c1])
          · rw [sheetS, sheetU, if_neg (not_not_intro hc), if_neg (not_not_intro hc), if_pos ⟨c1, Int32.not_le.mp c3⟩, if_pos ⟨c1, Int32.not_le.mp c3⟩] at h1
            refine x_bipush (v := -14) dW_sheet_44 rfl ?_
            -- at 46: .ireturn
            refine x_ireturn dW_sheet_46 rfl rfl ?_
            exact h1 I (fun _ _ => rfl) rfl
        · refine x_bipush (v := -2) dW_sheet_32 rfl ?_
          -- at 34: .ireturn
          refine x_ireturn dW_sheet_34 rfl rfl ?_
          exact bad (fun z => z.2.2.elim c1 c2)
    · refine x_if_ne (tgt := 21) dW_sheet_15 (by decide) (fun h => absurd (by decide) h) (fun _ => ?_)
      refine x_bipush (v := -2) dW_sheet_18 rfl ?_
      -- at 20: .ireturn
      refine x_ireturn dW_sheet_20 rfl rfl ?_
      exact bad (fun z => a2 z.2.1)
  · refine x_if_eq (tgt := 18) dW_sheet_6 (by decide) (fun _ => ?_) (fun h => absurd (by decide) h)
    refine x_bipush (v := -2) dW_sheet_18 rfl ?_
    -- at 20: .ireturn
    refine x_ireturn dW_sheet_20 rfl rfl ?_
    exact bad (fun z => a1 z.1)
def shV (k v : Int32) : Int32 := if k = 0 then v.toInt8.toInt32 else if k = 1 then v.toInt16.toInt32 else v
def sp_Sheets_set : SpT := fun as S I L Post => ∃ (s i : Nat) (v : Int32), as = [.ref 55, .int (nI s), .int (nI i), .int v] ∧ S = S1 ∧ s < 4 ∧ i < 40 ∧ Post none S1 (up2 I 58 (s * 40 + i) (shV (I 56 s) v)) L
set_option maxHeartbeats 4000000 in
set_option maxRecDepth 100000 in
theorem c_Sheets_set : Con mSheets_set 2 0 0 sp_Sheets_set := by
  refine con_of_X rfl fun G as S I L Post hs => ?_
  obtain ⟨s, i, v, rfl, rfl, hs, hi, h1⟩ := hs
  refine ⟨0, Nat.le_of_ble_eq_true rfl, ?_⟩
  show X mSheets_set G _ S1 I L 0 [.ref 55, .int (nI s), .int (nI i), .int v] [] Post
  have fin : ∀ x : Int32, x = shV (I 56 s) v → X mSheets_set G (2, 0, 0) S1 I L 40 [.ref 55, .int (nI s), .int (nI i), .int v] [.int x, .int (nI s * 40 + nI i), .ref 58] Post := by
    intro x hx
    refine x_iastJ (j := s * 40 + i) dSheets_set_40 rfl rfl (by first | rfl | (simp only [← nI_add, ← pk_mul]; rfl)) (by omega) ?_
    -- at 41: .return_
    refine x_return dSheets_set_41 rfl ?_
    rw [hx]
    exact h1
  refine x_aload_n dSheets_set_0 rfl ?_
  refine x_getR fl_Sheets_18 rfl dSheets_set_1 rfl rfl rfl ?_
  refine x_iload_n dSheets_set_4 rfl ?_
  refine x_bipush (v := 40) dSheets_set_5 rfl ?_
  refine x_imul dSheets_set_7 ?_
  refine x_iload_n dSheets_set_8 rfl ?_
  refine x_iadd dSheets_set_9 ?_
  refine x_aload_n dSheets_set_10 rfl ?_
  refine x_getR fl_Sheets_9 rfl dSheets_set_11 rfl rfl rfl ?_
  refine x_iload_n dSheets_set_14 rfl ?_
  refine x_ialdJ dSheets_set_15 rfl rfl rfl (by omega) ?_
  -- at 16: .ifCond .ne 8
  refine x_if_ne (tgt := 24) dSheets_set_16 (by decide) (fun c1 => ?_) (fun c1 => ?_)
  · refine x_aload_n dSheets_set_24 rfl ?_
    refine x_getR fl_Sheets_9 rfl dSheets_set_25 rfl rfl rfl ?_
    refine x_iload_n dSheets_set_28 rfl ?_
    refine x_ialdJ dSheets_set_29 rfl rfl rfl (by omega) ?_
    refine x_iconst (v := 1) dSheets_set_30 rfl ?_
    -- at 31: .if_icmp .ne 8
    refine x_icmp_ne (tgt := 39) dSheets_set_31 (by decide) (fun c2 => ?_) (fun c2 => ?_)
    · refine x_iload_n dSheets_set_39 rfl ?_
      -- at 40: .iastore
      exact fin _ (by rw [shV, if_neg c1, if_neg c2])
    · refine x_iload_n dSheets_set_34 rfl ?_
      refine x_i2s dSheets_set_35 ?_
      refine x_goto (tgt := 40) dSheets_set_36 (by decide) ?_
      -- at 40: .iastore
      exact fin _ (by rw [shV, if_neg c1, if_pos c2])
  · refine x_iload_n dSheets_set_19 rfl ?_
    refine x_i2b dSheets_set_20 ?_
    refine x_goto (tgt := 40) dSheets_set_21 (by decide) ?_
    -- at 40: .iastore
    exact fin _ (by rw [shV, if_pos c1])
def cellBad (E : IM) (s i : Int32) : Int32 := if ¬ inR s 0 3 then -2 else if E 26 (cl s) = -1 then -11 else if ¬ inR i 0 (E 27 (cl s) - 1) then -12 else 1
def cellU (E : IM) (s i v : Int32) : IM := if cellBad E s i = 1 then up2 E 28 (cl s * 40 + cl i) (shV (E 26 (cl s)) v) else E
theorem sz_nat {E : IM} (h : Inv E) {s : Nat} (hs : s < 4) : ∃ n, n ≤ 40 ∧ E 27 s = nI n := by
  obtain ⟨k, hk, e⟩ := (h.2.2.2.2.2.2.2.1 s hs).2.1
  exact ⟨k, by omega, e⟩
def sp_W_cell : SpT := fun as S I L Post => ∃ s i v : Int32, cSp [.int s, .int i, .int v] (fun E => .int (cellBad E s i)) (fun E => cellU E s i v) as S I L Post
set_option maxHeartbeats 4000000 in
set_option maxRecDepth 100000 in
theorem c_W_cell : Con mW_cell 3 0 0 sp_W_cell := by
  refine con_of_X rfl fun G as S I L Post hs => ?_
  obtain ⟨s, i, v, rfl, rfl, hok, h1⟩ := hs
  dsimp only at h1
  refine ⟨0, Nat.le_of_ble_eq_true rfl, ?_⟩
  show X mW_cell G _ S1 I L 0 [.ref 0, .int s, .int i, .int v] [] Post
  rw [cellU] at h1
  refine x_iload_n dW_cell_0 rfl ?_
  refine x_iconst (v := 0) dW_cell_1 rfl ?_
  refine x_iconst (v := 3) dW_cell_2 rfl ?_
  -- at 3: .invokestatic 101
  refine x_callS_3 c_W_within ok_W_within ml_W_101 dW_cell_3 rfl rfl ?_
  refine ⟨_, _, _, rfl, fun a1 => ?_, fun a1 => ?_⟩
  · have a1 : inR s 0 3 := a1
    refine x_if_ne (tgt := 12) dW_cell_6 (by decide) (fun _ => ?_) (fun h => absurd h (by decide))
    rw [cellBad, if_neg (not_not_intro a1)] at h1
    obtain ⟨j, hj, rfl⟩ := inR_of (n := 3) (by decide) a1
    obtain ⟨n, hn, en⟩ := sz_nat hok (s := j) (by omega)
    have en : I 57 j = nI n := en
    rw [cl_nI (by omega), show cE I 27 j = nI n from en] at h1
    refine x_aload_n dW_cell_12 rfl ?_
    refine x_getR fl_W_70 rfl dW_cell_13 rfl rfl rfl ?_
    refine x_iload_n dW_cell_16 rfl ?_
    -- at 17: .invokevirtual 335
    refine x_callV_1 c_Sheets_isMissing ok_Sheets_isMissing ml_W_335 dW_cell_17 rfl rfl rfl rfl rfl ?_
    refine ⟨j, rfl, rfl, by omega, fun a2 => ?_, fun a2 => ?_⟩
    · have a2 : cE I 26 j = -1 := a2
      refine x_if_eq (tgt := 26) dW_cell_20 (by decide) (fun h => absurd h (by decide)) (fun _ => ?_)
      rw [if_pos a2] at h1
      refine x_bipush (v := -11) dW_cell_23 rfl ?_
      -- at 25: .ireturn
      refine x_ireturn dW_cell_25 rfl rfl ?_
      exact h1 I (fun _ _ => rfl) rfl
    · have a2 : ¬ cE I 26 j = -1 := a2
      refine x_if_eq (tgt := 26) dW_cell_20 (by decide) (fun _ => ?_) (fun h => absurd (by decide) h)
      rw [if_neg a2] at h1
      refine x_iload_n dW_cell_26 rfl ?_
      refine x_iconst (v := 0) dW_cell_27 rfl ?_
      refine x_aload_n dW_cell_28 rfl ?_
      refine x_getR fl_W_70 rfl dW_cell_29 rfl rfl rfl ?_
      refine x_getR fl_W_338 rfl dW_cell_32 rfl rfl rfl ?_
      refine x_iload_n dW_cell_35 rfl ?_
      refine x_ialdJ dW_cell_36 rfl rfl rfl (by omega) ?_
      -- at 37: .iconst 1
      rw [en]
      refine x_iconst (v := 1) dW_cell_37 rfl ?_
      refine x_isub dW_cell_38 ?_
      -- at 39: .invokestatic 101
      refine x_callS_3 c_W_within ok_W_within ml_W_101 dW_cell_39 rfl rfl ?_
      refine ⟨_, _, _, rfl, fun a3 => ?_, fun a3 => ?_⟩
      · have a3 : inR i 0 (nI n - 1) := a3
        refine x_if_ne (tgt := 48) dW_cell_42 (by decide) (fun _ => ?_) (fun h => absurd h (by decide))
        rw [if_neg (not_not_intro a3), if_pos rfl] at h1
        obtain ⟨q, hq, rfl⟩ := has_nat (by omega) a3
        rw [cl_nI (by omega)] at h1
        refine x_aload_n dW_cell_48 rfl ?_
        refine x_getR fl_W_70 rfl dW_cell_49 rfl rfl rfl ?_
        refine x_iload_n dW_cell_52 rfl ?_
        refine x_iload_n dW_cell_53 rfl ?_
        refine x_iload_n dW_cell_54 rfl ?_
        -- at 55: .invokevirtual 340
        refine x_callV_3 c_Sheets_set ok_Sheets_set ml_W_340 dW_cell_55 rfl rfl rfl rfl rfl ?_
        refine ⟨j, q, v, rfl, rfl, by omega, by omega, ?_⟩
        refine x_iconst (v := 1) dW_cell_58 rfl ?_
        -- at 59: .ireturn
        refine x_ireturn dW_cell_59 rfl rfl ?_
        exact h1 _ (fun k hk => up2_n _ _ _ (by omega)) (cE_u28 I _ _)
      · have a3 : ¬ inR i 0 (nI n - 1) := a3
        refine x_if_ne (tgt := 48) dW_cell_42 (by decide) (fun h => absurd (by decide) h) (fun _ => ?_)
        rw [if_pos a3] at h1
        refine x_bipush (v := -12) dW_cell_45 rfl ?_
        -- at 47: .ireturn
        refine x_ireturn dW_cell_47 rfl rfl ?_
        exact h1 I (fun _ _ => rfl) rfl
  · have a1 : ¬ inR s 0 3 := a1
    refine x_if_ne (tgt := 12) dW_cell_6 (by decide) (fun h => absurd (by decide) h) (fun _ => ?_)
    rw [cellBad, if_pos a1] at h1
    refine x_bipush (v := -2) dW_cell_9 rfl ?_
    -- at 11: .ireturn
    refine x_ireturn dW_cell_11 rfl rfl ?_
    exact h1 I (fun _ _ => rfl) rfl
abbrev cpC (E : IM) (s i o j n : Int32) : Prop := 0 ≤ n ∧ inR i 0 (E 27 (cl s) - n) ∧ inR j 0 (E 27 (cl o) - n)
def copyS (E : IM) (s i o j n : Int32) : Int32 := if ¬ (inR s 0 3 ∧ inR o 0 3) then -2 else if E 26 (cl s) = -1 ∨ E 26 (cl o) = -1 then -11 else if ¬ E 26 (cl s) = E 26 (cl o) then -13 else if ¬ cpC E s i o j n then -12 else n
def cpU (E : IM) (s i o j n : Int32) : IM := upr E 28 (va_cpy (E 28) (E 28) (cl s * 40 + cl i) (cl o * 40 + cl j) (cl n))
def copyU (E : IM) (s i o j n : Int32) : IM := if ¬ (inR s 0 3 ∧ inR o 0 3) then E else if E 26 (cl s) = -1 ∨ E 26 (cl o) = -1 then E else if ¬ E 26 (cl s) = E 26 (cl o) then E else if ¬ cpC E s i o j n then E else cpU E s i o j n
/-- three numbers that fit a SHEET -/
theorem cp_nat {z i n : Int32} {Z : Nat} (hz : z = nI Z) (hZ : Z ≤ 40) (hn : 0 ≤ n) (h : inR i 0 (z - n)) : ∃ a b, i = nI a ∧ n = nI b ∧ a + b ≤ Z := by
  subst hz
  have h1 := Int32.le_iff_toInt_le.mp hn
  have h2 := Int32.le_iff_toInt_le.mp h.1
  have h3 := Int32.le_iff_toInt_le.mp h.2
  have hl := n.toInt_lt
  have e : (nI Z - n).toInt = (Z : Int) - n.toInt := by
    rw [Int32.toInt_sub, nI_toInt (by omega)]
    exact Int.bmod_eq_of_le (by simp at h1; omega) (by simp at h1; omega)
  rw [e] at h3
  simp at h1 h2
  obtain ⟨a, ha, ea⟩ := nI_of2 (x := i) (M := nI 40) (n := 40) rfl (Int32.not_lt.mpr h.1) (Int32.le_iff_toInt_le.mpr (by rw [nI_toInt (by omega)]; omega))
  obtain ⟨b, hb, eb⟩ := nI_of2 (x := n) (M := nI 40) (n := 40) rfl (Int32.not_lt.mpr hn) (Int32.le_iff_toInt_le.mpr (by rw [nI_toInt (by omega)]; omega))
  refine ⟨a, b, ea, eb, ?_⟩
  rw [ea, eb, nI_toInt (by omega), nI_toInt (by omega)] at h3
  omega
def sp_W_copy : SpT := fun as S I L Post => ∃ s i o j n : Int32, cSp [.int s, .int i, .int o, .int j, .int n] (fun E => .int (copyS E s i o j n)) (fun E => copyU E s i o j n) as S I L Post
set_option maxHeartbeats 4000000 in
set_option maxRecDepth 100000 in
theorem c_W_copy : Con mW_copy 3 0 0 sp_W_copy := by
  refine con_of_X rfl fun G as S I L Post hs => ?_
  obtain ⟨s, i, o, j, n, rfl, rfl, hok, h1⟩ := hs
  dsimp only at h1
  refine ⟨0, Nat.le_of_ble_eq_true rfl, ?_⟩
  show X mW_copy G _ S1 I L 0 [.ref 0, .int s, .int i, .int o, .int j, .int n] [] Post
  have bad : ¬ (inR s 0 3 ∧ inR o 0 3) → X mW_copy G (3, 0, 0) S1 I L 18 [.ref 0, .int s, .int i, .int o, .int j, .int n] [] Post := by
    intro hc
    rw [copyS, copyU, if_pos hc, if_pos hc] at h1
    refine x_bipush (v := -2) dW_copy_18 rfl ?_
    -- at 20: .ireturn
    refine x_ireturn dW_copy_20 rfl rfl ?_
    exact h1 I (fun _ _ => rfl) rfl
  refine x_iload_n dW_copy_0 rfl ?_
  refine x_iconst (v := 0) dW_copy_1 rfl ?_
  refine x_iconst (v := 3) dW_copy_2 rfl ?_
  -- at 3: .invokestatic 101
  refine x_callS_3 c_W_within ok_W_within ml_W_101 dW_copy_3 rfl rfl ?_
  refine ⟨_, _, _, rfl, fun a1 => ?_, fun a1 => ?_⟩
  · have a1 : inR s 0 3 := a1
    refine x_if_eq (tgt := 18) dW_copy_6 (by decide) (fun h => absurd h (by decide)) (fun _ => ?_)
    refine x_iload_n dW_copy_9 rfl ?_
    refine x_iconst (v := 0) dW_copy_10 rfl ?_
    refine x_iconst (v := 3) dW_copy_11 rfl ?_
    -- at 12: .invokestatic 101
    refine x_callS_3 c_W_within ok_W_within ml_W_101 dW_copy_12 rfl rfl ?_
    refine ⟨_, _, _, rfl, fun a2 => ?_, fun a2 => ?_⟩
    · have a2 : inR o 0 3 := a2
      refine x_if_ne (tgt := 21) dW_copy_15 (by decide) (fun _ => ?_) (fun h => absurd h (by decide))
      have hso : inR s 0 3 ∧ inR o 0 3 := ⟨a1, a2⟩
      rw [copyS, copyU, if_neg (not_not_intro hso), if_neg (not_not_intro hso)] at h1
      obtain ⟨p, hp, rfl⟩ := inR_of (n := 3) (by decide) a1
      obtain ⟨q, hq, rfl⟩ := inR_of (n := 3) (by decide) a2
      obtain ⟨zp, hzp, ep⟩ := sz_nat hok (s := p) (by omega)
      obtain ⟨zq, hzq, eq⟩ := sz_nat hok (s := q) (by omega)
      have ep : I 57 p = nI zp := ep
      have eq : I 57 q = nI zq := eq
      unfold cpC cpU at h1
      rw [cl_nI (by omega), cl_nI (by omega), show cE I 27 p = nI zp from ep, show cE I 27 q = nI zq from eq] at h1
      have no : (cE I 26 p = -1 ∨ cE I 26 q = -1) → X mW_copy G (3, 0, 0) S1 I L 43 [.ref 0, .int (nI p), .int i, .int (nI q), .int j, .int n] [] Post := by
        intro hc
        rw [if_pos hc, if_pos hc] at h1
        refine x_bipush (v := -11) dW_copy_43 rfl ?_
        -- at 45: .ireturn
        refine x_ireturn dW_copy_45 rfl rfl ?_
        exact h1 I (fun _ _ => rfl) rfl
      refine x_aload_n dW_copy_21 rfl ?_
      refine x_getR fl_W_70 rfl dW_copy_22 rfl rfl rfl ?_
      refine x_iload_n dW_copy_25 rfl ?_
      -- at 26: .invokevirtual 335
      refine x_callV_1 c_Sheets_isMissing ok_Sheets_isMissing ml_W_335 dW_copy_26 rfl rfl rfl rfl rfl ?_
      refine ⟨p, rfl, rfl, by omega, fun a3 => ?_, fun a3 => ?_⟩
      · refine x_if_ne (tgt := 43) dW_copy_29 (by decide) (fun _ => ?_) (fun h => absurd h (by decide))
        exact no (Or.inl a3)
      · have a3 : ¬ cE I 26 p = -1 := a3
        refine x_if_ne (tgt := 43) dW_copy_29 (by decide) (fun h => absurd (by decide) h) (fun _ => ?_)
        refine x_aload_n dW_copy_32 rfl ?_
        refine x_getR fl_W_70 rfl dW_copy_33 rfl rfl rfl ?_
        refine x_iload_n dW_copy_36 rfl ?_
        -- at 37: .invokevirtual 335
        refine x_callV_1 c_Sheets_isMissing ok_Sheets_isMissing ml_W_335 dW_copy_37 rfl rfl rfl rfl rfl ?_
        refine ⟨q, rfl, rfl, by omega, fun a4 => ?_, fun a4 => ?_⟩
        · refine x_if_eq (tgt := 46) dW_copy_40 (by decide) (fun h => absurd h (by decide)) (fun _ => ?_)
          exact no (Or.inr a4)
        · have a4 : ¬ cE I 26 q = -1 := a4
          refine x_if_eq (tgt := 46) dW_copy_40 (by decide) (fun _ => ?_) (fun h => absurd (by decide) h)
          have hc : ¬ (cE I 26 p = -1 ∨ cE I 26 q = -1) := fun z => z.elim a3 a4
          rw [if_neg hc, if_neg hc] at h1
          refine x_aload_n dW_copy_46 rfl ?_
          refine x_getR fl_W_70 rfl dW_copy_47 rfl rfl rfl ?_
          refine x_getR fl_W_343 rfl dW_copy_50 rfl rfl rfl ?_
          refine x_iload_n dW_copy_53 rfl ?_
          refine x_ialdJ dW_copy_54 rfl rfl rfl (by omega) ?_
          refine x_aload_n dW_copy_55 rfl ?_
          refine x_getR fl_W_70 rfl dW_copy_56 rfl rfl rfl ?_
          refine x_getR fl_W_343 rfl dW_copy_59 rfl rfl rfl ?_
          refine x_iload_n dW_copy_62 rfl ?_
          refine x_ialdJ dW_copy_63 rfl rfl rfl (by omega) ?_
          -- at 64: .if_icmp .eq 6
          refine x_icmp_eq (tgt := 70) dW_copy_64 (by decide) (fun c5 => ?_) (fun c5 => ?_)
          · have c5 : cE I 26 p = cE I 26 q := c5
            rw [if_neg (not_not_intro c5), if_neg (not_not_intro c5)] at h1
            have out : ¬ (0 ≤ n ∧ inR i 0 (nI zp - n) ∧ inR j 0 (nI zq - n)) → X mW_copy G (3, 0, 0) S1 I L 116 [.ref 0, .int (nI p), .int i, .int (nI q), .int j, .int n] [] Post := by
              intro hc
              rw [if_pos hc, if_pos hc] at h1
              refine x_bipush (v := -12) dW_copy_116 rfl ?_
              -- at 118: .ireturn
              refine x_ireturn dW_copy_118 rfl rfl ?_
              exact h1 I (fun _ _ => rfl) rfl
            refine x_iload dW_copy_70 rfl ?_
            -- at 72: .ifCond .lt 44
            refine x_if_lt (tgt := 116) dW_copy_72 (by decide) (fun c6 => ?_) (fun c6 => ?_)
            · exact out (fun z => absurd z.1 (Int32.not_le.mpr c6))
            · have c6 : 0 ≤ n := Int32.not_lt.mp c6
              refine x_iload_n dW_copy_75 rfl ?_
              refine x_iconst (v := 0) dW_copy_76 rfl ?_
              refine x_aload_n dW_copy_77 rfl ?_
              refine x_getR fl_W_70 rfl dW_copy_78 rfl rfl rfl ?_
              refine x_getR fl_W_338 rfl dW_copy_81 rfl rfl rfl ?_
              refine x_iload_n dW_copy_84 rfl ?_
              refine x_ialdJ dW_copy_85 rfl rfl rfl (by omega) ?_
              -- at 86: .iload 5
              rw [ep]
              refine x_iload dW_copy_86 rfl ?_
              refine x_isub dW_copy_88 ?_
              -- at 89: .invokestatic 101
              refine x_callS_3 c_W_within ok_W_within ml_W_101 dW_copy_89 rfl rfl ?_
              refine ⟨_, _, _, rfl, fun a7 => ?_, fun a7 => ?_⟩
              · have a7 : inR i 0 (nI zp - n) := a7
                refine x_if_eq (tgt := 116) dW_copy_92 (by decide) (fun h => absurd h (by decide)) (fun _ => ?_)
                refine x_iload dW_copy_95 rfl ?_
                refine x_iconst (v := 0) dW_copy_97 rfl ?_
                refine x_aload_n dW_copy_98 rfl ?_
                refine x_getR fl_W_70 rfl dW_copy_99 rfl rfl rfl ?_
                refine x_getR fl_W_338 rfl dW_copy_102 rfl rfl rfl ?_
                refine x_iload_n dW_copy_105 rfl ?_
                refine x_ialdJ dW_copy_106 rfl rfl rfl (by omega) ?_
                -- at 107: .iload 5
                rw [eq]
                refine x_iload dW_copy_107 rfl ?_
                refine x_isub dW_copy_109 ?_
                -- at 110: .invokestatic 101
                refine x_callS_3 c_W_within ok_W_within ml_W_101 dW_copy_110 rfl rfl ?_
                refine ⟨_, _, _, rfl, fun a8 => ?_, fun a8 => ?_⟩
                · have a8 : inR j 0 (nI zq - n) := a8
                  refine x_if_ne (tgt := 119) dW_copy_113 (by decide) (fun _ => ?_) (fun h => absurd h (by decide))
                  have hc3 : 0 ≤ n ∧ inR i 0 (nI zp - n) ∧ inR j 0 (nI zq - n) := ⟨c6, a7, a8⟩
                  rw [if_neg (not_not_intro hc3), if_neg (not_not_intro hc3)] at h1
                  obtain ⟨a, b, ea, eb, hab⟩ := cp_nat rfl hzp c6 a7
                  obtain ⟨a', b', ea', eb', hab'⟩ := cp_nat rfl hzq c6 a8
                  have ebb : b' = b := by
                    rw [eb'] at eb
                    exact (nI_eq (by omega) (by omega)).mp eb
                  subst ebb
                  subst ea ea' eb
                  rw [cl_nI (by omega), cl_nI (by omega), cl_nI (by omega)] at h1
                  refine x_aload_n dW_copy_119 rfl ?_
                  refine x_getR fl_W_70 rfl dW_copy_120 rfl rfl rfl ?_
                  refine x_getR fl_W_346 rfl dW_copy_123 rfl rfl rfl ?_
                  refine x_iload_n dW_copy_126 rfl ?_
                  refine x_bipush (v := 40) dW_copy_127 rfl ?_
                  refine x_imul dW_copy_129 ?_
                  refine x_iload_n dW_copy_130 rfl ?_
                  refine x_iadd dW_copy_131 ?_
                  refine x_aload_n dW_copy_132 rfl ?_
                  refine x_getR fl_W_70 rfl dW_copy_133 rfl rfl rfl ?_
                  refine x_getR fl_W_346 rfl dW_copy_136 rfl rfl rfl ?_
                  refine x_iload_n dW_copy_139 rfl ?_
                  refine x_bipush (v := 40) dW_copy_140 rfl ?_
                  refine x_imul dW_copy_142 ?_
                  refine x_iload dW_copy_143 rfl ?_
                  refine x_iadd dW_copy_145 ?_
                  refine x_iload dW_copy_146 rfl ?_
                  -- at 148: .invokestatic 349
                  have es : nI p * 40 + nI a = nI (p * 40 + a) := by rw [← nI_add, ← pk_mul]; rfl
                  have eo : nI q * 40 + nI a' = nI (q * 40 + a') := by rw [← nI_add, ← pk_mul]; rfl
                  have f1 : (nI (p * 40 + a)).toNatClampNeg = p * 40 + a := nI_clamp (by omega)
                  have f2 : (nI (q * 40 + a')).toNatClampNeg = q * 40 + a' := nI_clamp (by omega)
                  have f3 : (nI b').toNatClampNeg = b' := nI_clamp (by omega)
                  have nn : ∀ k, k < 1000 → ¬ nI k < (0 : Int32) := fun k hk => Int32.not_lt.mpr (nI_le (a := 0) (by omega) (by omega))
                  rw [es, eo]
                  refine x_acopy dW_copy_148 ml_W_349 na_ac st_ac it_System rfl rfl rfl rfl rfl rfl (nn _ (by omega)) (nn _ (by omega)) (nn _ (by omega)) (by rw [f1, f3]; show _ ≤ 160; omega) (by rw [f2, f3]; show _ ≤ 160; omega) ?_
                  rw [f1, f2, f3]
                  refine x_iload dW_copy_151 rfl ?_
                  -- at 153: .ireturn
                  refine x_ireturn dW_copy_153 rfl rfl ?_
                  exact h1 _ (fun k hk => upr_n _ _ (by omega)) (cE_28 I _)
                · refine x_if_ne (tgt := 119) dW_copy_113 (by decide) (fun h => absurd (by decide) h) (fun _ => ?_)
                  exact out (fun z => a8 z.2.2)
              · refine x_if_eq (tgt := 116) dW_copy_92 (by decide) (fun _ => ?_) (fun h => absurd (by decide) h)
                exact out (fun z => a7 z.2.1)
          · have c5 : ¬ cE I 26 p = cE I 26 q := c5
            rw [if_pos c5, if_pos c5] at h1
            refine x_bipush (v := -13) dW_copy_67 rfl ?_
            -- at 69: .ireturn
            refine x_ireturn dW_copy_69 rfl rfl ?_
            exact h1 I (fun _ _ => rfl) rfl
    · refine x_if_ne (tgt := 21) dW_copy_15 (by decide) (fun h => absurd (by decide) h) (fun _ => ?_)
      exact bad (fun z => a2 z.2)
  · refine x_if_eq (tgt := 18) dW_copy_6 (by decide) (fun _ => ?_) (fun h => absurd (by decide) h)
    exact bad (fun z => a1 z.1)
