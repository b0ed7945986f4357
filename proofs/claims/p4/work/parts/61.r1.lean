/-! the reference: its state, and what it tells at once -/
def wordsL : List Int32 := [104, 101, 97, 114, 100, 32, 32, 32, 115, 104, 97, 114, 101, 32, 32, 32, 112, 97, 105, 110, 32, 32, 32, 32, 108, 111, 117, 100, 32, 32, 32, 32, 102, 97, 114, 32, 32, 32, 32, 32, 101, 97, 114, 32, 32, 32, 32, 32, 110, 101, 101, 100, 32, 32, 32, 32, 109, 97, 110, 121, 32, 32, 32, 32, 98, 97, 115, 101, 32, 32, 32, 32, 111, 114, 32, 32, 32, 32, 32, 32, 97, 110, 100, 32, 32, 32, 32, 32, 110, 111, 116, 32, 32, 32, 32, 32]
def rOwn (I : IM) : Prop := I 59 55 = 0 ∧ I 59 60 = -1 ∧ ∀ k, k < 96 → I 92 k = wordsL.getD k 0
def rOk (I : IM) : Prop := Inv (rE I) ∧ rOwn I
theorem rOwn.up {I : IM} (h : rOwn I) {k j : Nat} {x : Int32} (h1 : k ≠ 92) (h2 : k ≠ 59 ∨ (j ≠ 55 ∧ j ≠ 60)) : rOwn (up2 I k j x) := by
  obtain ⟨a1, a2, a3⟩ := h
  by_cases e : k = 59
  · subst e
    obtain ⟨b1, b2⟩ := h2.resolve_left (fun z => z rfl)
    exact ⟨by rw [up2_s, up1_n _ _ (Ne.symm b1)]; exact a1, by rw [up2_s, up1_n _ _ (Ne.symm b2)]; exact a2, fun k hk => by rw [up2_n _ _ _ (by decide)]; exact a3 k hk⟩
  · exact ⟨by rw [up2_n _ _ _ (Ne.symm e)]; exact a1, by rw [up2_n _ _ _ (Ne.symm e)]; exact a2, fun q hq => by rw [up2_n _ _ _ (Ne.symm h1)]; exact a3 q hq⟩
theorem rOwn.upr {I : IM} (h : rOwn I) {k : Nat} {f : Nat → Int32} (h1 : k ≠ 92) (h2 : k ≠ 59) : rOwn (upr I k f) := by
  obtain ⟨a1, a2, a3⟩ := h
  exact ⟨by rw [upr_n _ _ (Ne.symm h2)]; exact a1, by rw [upr_n _ _ (Ne.symm h2)]; exact a2, fun q hq => by rw [upr_n _ _ (Ne.symm h1)]; exact a3 q hq⟩
/-- a call of the reference that answers 'ans', and the state is 'upd' then -/
def rSp (args : List Value) (ans : IM → Value) (upd : IM → IM) : SpT := fun as S I L Post => as = .ref 59 :: args ∧ S = S1 ∧ rOk I ∧ ∀ (I' : IM) (L' : LM), (∀ k, k < 59 → I' k = I k) → rOwn I' → rE I' = upd (rE I) → Post (some (ans (rE I))) S1 I' L'
theorem r6 (a b : Nat) : (6 : Int32) * nI a + nI b = nI (a * 6 + b) := by
  rw [show (6 : Int32) = nI 6 from rfl, pk_mul, nI_add, Nat.mul_comm]
theorem r40 (a b : Nat) : (40 : Int32) * nI a + nI b = nI (a * 40 + b) := by
  rw [show (40 : Int32) = nI 40 from rfl, pk_mul, nI_add, Nat.mul_comm]
theorem nat_any {x : Int32} (h : 0 ≤ x) : ∃ k, k < 2 ^ 31 ∧ x = nI k := by
  have h1 := Int32.le_iff_toInt_le.mp h
  have h2 := x.toInt_lt
  have e0 : (0 : Int32).toInt = 0 := by decide
  refine ⟨x.toInt.toNat, by omega, ?_⟩
  apply Int32.toInt_inj.mp
  rw [nI_toInt (by omega)]
  omega
def sp_R_in : SpT := fun as S I L Post => ∃ v lo hi : Int32, as = [.int v, .int lo, .int hi] ∧ bPost (lo ≤ v ∧ v ≤ hi) S I L Post
set_option maxHeartbeats 4000000 in
set_option maxRecDepth 100000 in
theorem c_R_in : Con mR_in 2 0 0 sp_R_in := by
  refine con_of_X rfl fun G as S I L Post hs => ?_
  obtain ⟨v, lo, hi, rfl, h1, h2⟩ := hs
  refine ⟨0, Nat.le_of_ble_eq_true rfl, ?_⟩
  show X mR_in G _ S I L 0 [.int v, .int lo, .int hi] [] Post
  refine x_iload_n dR_in_0 rfl ?_
  refine x_iload_n dR_in_1 rfl ?_
  -- at 2: .if_icmp .lt 12
  refine x_icmp_lt (tgt := 14) dR_in_2 (by decide) (fun c1 => ?_) (fun c1 => ?_)
  · refine x_iconst (v := 0) dR_in_14 rfl ?_
    -- at 15: .ireturn
    refine x_ireturn dR_in_15 rfl rfl ?_
    exact h2 (fun q => absurd c1 (Int32.not_lt.mpr q.1))
  · refine x_iload_n dR_in_5 rfl ?_
    refine x_iload_n dR_in_6 rfl ?_
    -- at 7: .if_icmp .gt 7
    refine x_icmp_gt (tgt := 14) dR_in_7 (by decide) (fun c2 => ?_) (fun c2 => ?_)
    · refine x_iconst (v := 0) dR_in_14 rfl ?_
      -- at 15: .ireturn
      refine x_ireturn dR_in_15 rfl rfl ?_
      exact h2 (fun q => absurd c2 (Int32.not_lt.mpr q.2))
    · refine x_iconst (v := 1) dR_in_10 rfl ?_
      refine x_goto (tgt := 15) dR_in_11 (by decide) ?_
      -- at 15: .ireturn
      refine x_ireturn dR_in_15 rfl rfl ?_
      exact h1 ⟨Int32.not_lt.mp c1, Int32.not_lt.mp c2⟩
def sp_R_isByte : SpT := fun as S I L Post => ∃ v : Int32, as = [.int v] ∧ bPost (0 ≤ v ∧ v ≤ 255) S I L Post
set_option maxHeartbeats 4000000 in
set_option maxRecDepth 100000 in
theorem c_R_isByte : Con mR_isByte 3 0 0 sp_R_isByte := by
  refine con_of_X rfl fun G as S I L Post hs => ?_
  obtain ⟨v, rfl, h1, h2⟩ := hs
  refine ⟨0, Nat.le_of_ble_eq_true rfl, ?_⟩
  show X mR_isByte G _ S I L 0 [.int v] [] Post
  refine x_iload_n dR_isByte_0 rfl ?_
  refine x_iconst (v := 0) dR_isByte_1 rfl ?_
  refine x_sipush (v := 255) dR_isByte_2 rfl ?_
  -- at 5: .invokestatic 151
  refine x_callS_3 c_R_in ok_R_in ml_R_151 dR_isByte_5 rfl rfl ?_
  refine ⟨v, 0, 255, rfl, fun q => ?_, fun q => ?_⟩
  · refine x_ireturn dR_isByte_8 rfl rfl ?_
    exact h1 q
  · refine x_ireturn dR_isByte_8 rfl rfl ?_
    exact h2 q
def sp_R_within : SpT := fun as S I L Post => ∃ v lo hi : Int32, as = [.int v, .int lo, .int hi] ∧ lo ≤ hi ∧ Post (some (.int (imax lo (imin v hi)))) S I L
set_option maxHeartbeats 4000000 in
set_option maxRecDepth 100000 in
theorem c_R_within : Con mR_within 2 0 0 sp_R_within := by
  refine con_of_X rfl fun G as S I L Post hs => ?_
  obtain ⟨v, lo, hi, rfl, hle, h1⟩ := hs
  refine ⟨0, Nat.le_of_ble_eq_true rfl, ?_⟩
  show X mR_within G _ S I L 0 [.int v, .int lo, .int hi] [] Post
  refine x_iload_n dR_within_0 rfl ?_
  refine x_iload_n dR_within_1 rfl ?_
  -- at 2: .if_icmp .ge 7
  refine x_icmp_ge (tgt := 9) dR_within_2 (by decide) (fun c1 => ?_) (fun c1 => ?_)
  · refine x_iload_n dR_within_9 rfl ?_
    refine x_iload_n dR_within_10 rfl ?_
    -- at 11: .if_icmp .le 7
    refine x_icmp_le (tgt := 18) dR_within_11 (by decide) (fun c2 => ?_) (fun c2 => ?_)
    · refine x_iload_n dR_within_18 rfl ?_
      -- at 19: .ireturn
      refine x_ireturn dR_within_19 rfl rfl ?_
      rw [imin, if_neg (Int32.not_lt.mpr c2), imax] at h1
      by_cases e : lo < v
      · rw [if_pos e] at h1; exact h1
      · rw [if_neg e] at h1
        rw [Int32.le_antisymm (Int32.not_lt.mp e) c1]
        exact h1
    · refine x_iload_n dR_within_14 rfl ?_
      refine x_goto (tgt := 19) dR_within_15 (by decide) ?_
      -- at 19: .ireturn
      refine x_ireturn dR_within_19 rfl rfl ?_
      rw [imin, if_pos (Int32.not_le.mp c2), imax] at h1
      by_cases e : lo < hi
      · rw [if_pos e] at h1; exact h1
      · rw [if_neg e] at h1
        rw [Int32.le_antisymm (Int32.not_lt.mp e) hle]
        exact h1
  · have c1 : v < lo := Int32.not_le.mp c1
    refine x_iload_n dR_within_5 rfl ?_
    refine x_goto (tgt := 19) dR_within_6 (by decide) ?_
    -- at 19: .ireturn
    refine x_ireturn dR_within_19 rfl rfl ?_
    rw [imin, if_neg (Int32.not_lt.mpr (Int32.le_trans (Int32.le_of_lt c1) hle)), imax, if_neg (Int32.not_lt.mpr (Int32.le_of_lt c1))] at h1
    exact h1
def sp_R_isOne : SpT := fun as S I L Post => ∃ p : Int32, as = [.ref 59, .int p] ∧ S = S1 ∧ bPost (inR p 0 (I 59 3 - 1)) S1 I L Post
set_option maxHeartbeats 4000000 in
set_option maxRecDepth 100000 in
theorem c_R_isOne : Con mR_isOne 3 0 0 sp_R_isOne := by
  refine con_of_X rfl fun G as S I L Post hs => ?_
  obtain ⟨p, rfl, rfl, h1, h2⟩ := hs
  refine ⟨0, Nat.le_of_ble_eq_true rfl, ?_⟩
  show X mR_isOne G _ S1 I L 0 [.ref 59, .int p] [] Post
  refine x_iload_n dR_isOne_0 rfl ?_
  refine x_iconst (v := 0) dR_isOne_1 rfl ?_
  refine x_aload_n dR_isOne_2 rfl ?_
  refine x_getI fl_R_148 rfl dR_isOne_3 rfl rfl ?_
  refine x_iconst (v := 1) dR_isOne_6 rfl ?_
  refine x_isub dR_isOne_7 ?_
  -- at 8: .invokestatic 151
  refine x_callS_3 c_R_in ok_R_in ml_R_151 dR_isOne_8 rfl rfl ?_
  refine ⟨p, 0, _, rfl, fun q => ?_, fun q => ?_⟩
  · refine x_ireturn dR_isOne_11 rfl rfl ?_
    exact h1 q
  · refine x_ireturn dR_isOne_11 rfl rfl ?_
    exact h2 q
def sp_R_isPromise : SpT := fun as S I L Post => ∃ p : Int32, as = [.ref 59, .int p] ∧ S = S1 ∧ bPost (inR p 0 (I 59 12 - 1)) S1 I L Post
set_option maxHeartbeats 4000000 in
set_option maxRecDepth 100000 in
theorem c_R_isPromise : Con mR_isPromise 3 0 0 sp_R_isPromise := by
  refine con_of_X rfl fun G as S I L Post hs => ?_
  obtain ⟨p, rfl, rfl, h1, h2⟩ := hs
  refine ⟨0, Nat.le_of_ble_eq_true rfl, ?_⟩
  show X mR_isPromise G _ S1 I L 0 [.ref 59, .int p] [] Post
  refine x_iload_n dR_isPromise_0 rfl ?_
  refine x_iconst (v := 0) dR_isPromise_1 rfl ?_
  refine x_aload_n dR_isPromise_2 rfl ?_
  refine x_getI fl_R_155 rfl dR_isPromise_3 rfl rfl ?_
  refine x_iconst (v := 1) dR_isPromise_6 rfl ?_
  refine x_isub dR_isPromise_7 ?_
  -- at 8: .invokestatic 151
  refine x_callS_3 c_R_in ok_R_in ml_R_151 dR_isPromise_8 rfl rfl ?_
  refine ⟨p, 0, _, rfl, fun q => ?_, fun q => ?_⟩
  · refine x_ireturn dR_isPromise_11 rfl rfl ?_
    exact h1 q
  · refine x_ireturn dR_isPromise_11 rfl rfl ?_
    exact h2 q
def sp_R_isSaying : SpT := fun as S I L Post => ∃ p : Int32, as = [.ref 59, .int p] ∧ S = S1 ∧ bPost (inR p 0 (I 59 17 - 1)) S1 I L Post
set_option maxHeartbeats 4000000 in
set_option maxRecDepth 100000 in
theorem c_R_isSaying : Con mR_isSaying 3 0 0 sp_R_isSaying := by
  refine con_of_X rfl fun G as S I L Post hs => ?_
  obtain ⟨p, rfl, rfl, h1, h2⟩ := hs
  refine ⟨0, Nat.le_of_ble_eq_true rfl, ?_⟩
  show X mR_isSaying G _ S1 I L 0 [.ref 59, .int p] [] Post
  refine x_iload_n dR_isSaying_0 rfl ?_
  refine x_iconst (v := 0) dR_isSaying_1 rfl ?_
  refine x_aload_n dR_isSaying_2 rfl ?_
  refine x_getI fl_R_158 rfl dR_isSaying_3 rfl rfl ?_
  refine x_iconst (v := 1) dR_isSaying_6 rfl ?_
  refine x_isub dR_isSaying_7 ?_
  -- at 8: .invokestatic 151
  refine x_callS_3 c_R_in ok_R_in ml_R_151 dR_isSaying_8 rfl rfl ?_
  refine ⟨p, 0, _, rfl, fun q => ?_, fun q => ?_⟩
  · refine x_ireturn dR_isSaying_11 rfl rfl ?_
    exact h1 q
  · refine x_ireturn dR_isSaying_11 rfl rfl ?_
    exact h2 q
def sp_R_far : SpT := fun as S I L Post => ∃ u v d : Int32, rSp [.int u, .int v, .int d] (fun E => .int (farS E u v d)) (fun E => farU E u v d) as S I L Post
set_option maxHeartbeats 4000000 in
set_option maxRecDepth 100000 in
theorem c_R_far : Con mR_far 3 0 0 sp_R_far := by
  refine con_of_X rfl fun G as S I L Post hs => ?_
  obtain ⟨u, v, d, rfl, rfl, ⟨hok, own⟩, h1⟩ := hs
  dsimp only at h1
  refine ⟨1, Nat.le_of_ble_eq_true rfl, ?_⟩
  show X mR_far G _ S1 I L 0 [.ref 59, .int u, .int v, .int d, .null] [] Post
  have none1 : farN u v d → X mR_far G (3, 0, 0) S1 I L 23 [.ref 59, .int u, .int v, .int d, .null] [] Post := by
    intro hc
    refine x_iconst (v := -1) dR_far_23 rfl ?_
    -- at 24: .ireturn
    refine x_ireturn dR_far_24 rfl rfl ?_
    have := h1 I L (fun _ _ => rfl) own (by rw [farU, if_pos hc])
    rw [farS, if_pos hc] at this
    exact this
  refine x_iload_n dR_far_0 rfl ?_
  refine x_iconst (v := 0) dR_far_1 rfl ?_
  refine x_iconst (v := 5) dR_far_2 rfl ?_
  -- at 3: .invokestatic 151
  refine x_callS_3 c_R_in ok_R_in ml_R_151 dR_far_3 rfl rfl ?_
  refine ⟨_, _, _, rfl, fun hu => ?_, fun hu => ?_⟩
  · refine x_if_eq (tgt := 23) dR_far_6 (by decide) (fun h => absurd h (by decide)) (fun _ => ?_)
    refine x_iload_n dR_far_9 rfl ?_
    refine x_iconst (v := 0) dR_far_10 rfl ?_
    refine x_iconst (v := 5) dR_far_11 rfl ?_
    -- at 12: .invokestatic 151
    refine x_callS_3 c_R_in ok_R_in ml_R_151 dR_far_12 rfl rfl ?_
    refine ⟨_, _, _, rfl, fun hv => ?_, fun hv => ?_⟩
    · refine x_if_eq (tgt := 23) dR_far_15 (by decide) (fun h => absurd h (by decide)) (fun _ => ?_)
      refine x_iload_n dR_far_18 rfl ?_
      refine x_iload_n dR_far_19 rfl ?_
      -- at 20: .if_icmp .ne 5
      refine x_icmp_ne (tgt := 25) dR_far_20 (by decide) (fun c1 => ?_) (fun c1 => ?_)
      · have hn : ¬ farN u v d := fun z => z.elim (fun y => y hu) (fun y => y.elim (fun x => x hv) c1)
        rw [farS, if_neg hn, farU, if_neg hn] at h1
        refine x_iload_n dR_far_25 rfl ?_
        refine x_iconst (v := 0) dR_far_26 rfl ?_
        refine x_bipush (v := 9) dR_far_27 rfl ?_
        -- at 29: .invokestatic 151
        refine x_callS_3 c_R_in ok_R_in ml_R_151 dR_far_29 rfl rfl ?_
        refine ⟨_, _, _, rfl, fun hd => ?_, fun hd => ?_⟩
        · refine x_if_ne (tgt := 38) dR_far_32 (by decide) (fun _ => ?_) (fun h => absurd h (by decide))
          obtain ⟨a, ha, rfl⟩ := inR_of (n := 5) (by decide) hu
          obtain ⟨b, hb, rfl⟩ := inR_of (n := 5) (by decide) hv
          rw [if_neg (not_not_intro hd), if_neg (not_not_intro hd), cl_nI (by omega), cl_nI (by omega)] at h1
          refine x_aload_n dR_far_38 rfl ?_
          refine x_getR fl_R_7 rfl dR_far_39 rfl rfl rfl ?_
          refine x_bipush (v := 6) dR_far_42 rfl ?_
          refine x_iload_n dR_far_44 rfl ?_
          refine x_imul dR_far_45 ?_
          refine x_iload_n dR_far_46 rfl ?_
          refine x_iadd dR_far_47 ?_
          refine x_ialdJ dR_far_48 rfl rfl (r6 a b) (by omega) ?_
          refine x_istore_4 dR_far_49 rfl rfl ?_
          refine x_aload_n dR_far_51 rfl ?_
          refine x_getR fl_R_7 rfl dR_far_52 rfl rfl rfl ?_
          refine x_bipush (v := 6) dR_far_55 rfl ?_
          refine x_iload_n dR_far_57 rfl ?_
          refine x_imul dR_far_58 ?_
          refine x_iload_n dR_far_59 rfl ?_
          refine x_iadd dR_far_60 ?_
          refine x_iload_n dR_far_61 rfl ?_
          refine x_iastJ dR_far_62 rfl rfl (r6 a b) (by omega) ?_
          refine x_aload_n dR_far_63 rfl ?_
          refine x_getR fl_R_7 rfl dR_far_64 rfl rfl rfl ?_
          refine x_bipush (v := 6) dR_far_67 rfl ?_
          refine x_iload_n dR_far_69 rfl ?_
          refine x_imul dR_far_70 ?_
          refine x_iload_n dR_far_71 rfl ?_
          refine x_iadd dR_far_72 ?_
          refine x_iload_n dR_far_73 rfl ?_
          refine x_iastJ dR_far_74 rfl rfl (r6 b a) (by omega) ?_
          -- at 75: .iload 4
          refine x_iload dR_far_75 rfl ?_
          -- at 77: .ireturn
          refine x_ireturn dR_far_77 rfl rfl ?_
          refine h1 _ L (fun k hk => ?_) ((own.up (by decide) (Or.inl (by decide))).up (by decide) (Or.inl (by decide))) ?_
          · rw [up2_n _ _ _ (by omega), up2_n _ _ _ (by omega)]
          · rw [rE_u0, rE_u0]
        · refine x_if_ne (tgt := 38) dR_far_32 (by decide) (fun h => absurd (by decide) h) (fun _ => ?_)
          refine x_bipush (v := -2) dR_far_35 rfl ?_
          -- at 37: .ireturn
          refine x_ireturn dR_far_37 rfl rfl ?_
          have := h1 I L (fun _ _ => rfl) own (by rw [if_pos hd])
          rw [if_pos hd] at this
          exact this
      · exact none1 (Or.inr (Or.inr c1))
    · refine x_if_eq (tgt := 23) dR_far_15 (by decide) (fun _ => ?_) (fun h => absurd (by decide) h)
      exact none1 (Or.inr (Or.inl hv))
  · refine x_if_eq (tgt := 23) dR_far_6 (by decide) (fun _ => ?_) (fun h => absurd (by decide) h)
    exact none1 (Or.inl hu)
def sp_R_hush : SpT := fun as S I L Post => ∃ t v : Int32, rSp [.int t, .int v] (fun E => .int (hushS E t v)) (fun E => hushU E t v) as S I L Post
set_option maxHeartbeats 4000000 in
set_option maxRecDepth 100000 in
theorem c_R_hush : Con mR_hush 3 0 0 sp_R_hush := by
  refine con_of_X rfl fun G as S I L Post hs => ?_
  obtain ⟨t, v, rfl, rfl, ⟨hok, own⟩, h1⟩ := hs
  dsimp only at h1
  refine ⟨1, Nat.le_of_ble_eq_true rfl, ?_⟩
  show X mR_hush G _ S1 I L 0 [.ref 59, .int t, .int v, .null] [] Post
  refine x_iload_n dR_hush_0 rfl ?_
  refine x_iconst (v := 0) dR_hush_1 rfl ?_
  refine x_iconst (v := 5) dR_hush_2 rfl ?_
  -- at 3: .invokestatic 151
  refine x_callS_3 c_R_in ok_R_in ml_R_151 dR_hush_3 rfl rfl ?_
  refine ⟨_, _, _, rfl, fun a1 => ?_, fun a1 => ?_⟩
  · have a1 : inR t 0 5 := a1
    refine x_if_ne (tgt := 11) dR_hush_6 (by decide) (fun _ => ?_) (fun h => absurd h (by decide))
    rw [hushS, hushU, if_neg (not_not_intro a1), if_neg (not_not_intro a1)] at h1
    refine x_iload_n dR_hush_11 rfl ?_
    refine x_iconst (v := 0) dR_hush_12 rfl ?_
    refine x_bipush (v := 9) dR_hush_13 rfl ?_
    -- at 15: .invokestatic 151
    refine x_callS_3 c_R_in ok_R_in ml_R_151 dR_hush_15 rfl rfl ?_
    refine ⟨_, _, _, rfl, fun a2 => ?_, fun a2 => ?_⟩
    · have a2 : inR v 0 9 := a2
      refine x_if_ne (tgt := 24) dR_hush_18 (by decide) (fun _ => ?_) (fun h => absurd h (by decide))
      rw [if_neg (not_not_intro a2), if_neg (not_not_intro a2)] at h1
      obtain ⟨k, hk, rfl⟩ := inR_of (n := 5) (by decide) a1
      rw [cl_nI (by omega)] at h1
      refine x_aload_n dR_hush_24 rfl ?_
      refine x_getR fl_R_13 rfl dR_hush_25 rfl rfl rfl ?_
      refine x_iload_n dR_hush_28 rfl ?_
      refine x_ialdJ (j := k) dR_hush_29 rfl rfl (by first | rfl | (simp only [← nI_add, ← pk_mul]; rfl)) (by omega) ?_
      refine x_istoren_3 dR_hush_30 rfl rfl ?_
      refine x_aload_n dR_hush_31 rfl ?_
      refine x_getR fl_R_13 rfl dR_hush_32 rfl rfl rfl ?_
      refine x_iload_n dR_hush_35 rfl ?_
      refine x_iload_n dR_hush_36 rfl ?_
      refine x_iastJ (j := k) dR_hush_37 rfl rfl (by first | rfl | (simp only [← nI_add, ← pk_mul]; rfl)) (by omega) ?_
      refine x_iload_n dR_hush_38 rfl ?_
      -- at 39: .ireturn
      refine x_ireturn dR_hush_39 rfl rfl ?_
      exact h1 _ L (fun j hj => up2_n _ _ _ (by omega)) (own.up (by decide) (Or.inl (by decide))) (rE_u1 I _ _)
    · have a2 : ¬ inR v 0 9 := a2
      refine x_if_ne (tgt := 24) dR_hush_18 (by decide) (fun h => absurd (by decide) h) (fun _ => ?_)
      rw [if_pos a2, if_pos a2] at h1
      refine x_bipush (v := -2) dR_hush_21 rfl ?_
      -- at 23: .ireturn
      refine x_ireturn dR_hush_23 rfl rfl ?_
      exact h1 I L (fun _ _ => rfl) own rfl
  · have a1 : ¬ inR t 0 5 := a1
    refine x_if_ne (tgt := 11) dR_hush_6 (by decide) (fun h => absurd (by decide) h) (fun _ => ?_)
    rw [hushS, hushU, if_pos a1, if_pos a1] at h1
    refine x_iconst (v := -1) dR_hush_9 rfl ?_
    -- at 10: .ireturn
    refine x_ireturn dR_hush_10 rfl rfl ?_
    exact h1 I L (fun _ _ => rfl) own rfl
def sp_R_stride : SpT := fun as S I L Post => ∃ v : Int32, rSp [.int v] (fun E => .int (strideS E v)) (fun E => strideU E v) as S I L Post
set_option maxHeartbeats 4000000 in
set_option maxRecDepth 100000 in
theorem c_R_stride : Con mR_stride 3 0 0 sp_R_stride := by
  refine con_of_X rfl fun G as S I L Post hs => ?_
  obtain ⟨v, rfl, rfl, ⟨hok, own⟩, h1⟩ := hs
  dsimp only at h1
  refine ⟨1, Nat.le_of_ble_eq_true rfl, ?_⟩
  show X mR_stride G _ S1 I L 0 [.ref 59, .int v, .null] [] Post
  refine x_iload_n dR_stride_0 rfl ?_
  refine x_iconst (v := 0) dR_stride_1 rfl ?_
  refine x_bipush (v := 9) dR_stride_2 rfl ?_
  -- at 4: .invokestatic 151
  refine x_callS_3 c_R_in ok_R_in ml_R_151 dR_stride_4 rfl rfl ?_
  refine ⟨_, _, _, rfl, fun a1 => ?_, fun a1 => ?_⟩
  · have a1 : inR v 0 9 := a1
    refine x_if_ne (tgt := 13) dR_stride_7 (by decide) (fun _ => ?_) (fun h => absurd h (by decide))
    rw [strideS, strideU, if_neg (not_not_intro a1), if_neg (not_not_intro a1)] at h1
    refine x_aload_n dR_stride_13 rfl ?_
    refine x_getI fl_R_16 rfl dR_stride_14 rfl rfl ?_
    refine x_istoren_2 dR_stride_17 rfl rfl ?_
    refine x_aload_n dR_stride_18 rfl ?_
    refine x_iload_n dR_stride_19 rfl ?_
    refine x_putI fl_R_16 rfl dR_stride_20 (by decide) rfl rfl rfl rfl ?_
    refine x_iload_n dR_stride_23 rfl ?_
    -- at 24: .ireturn
    refine x_ireturn dR_stride_24 rfl rfl ?_
    exact h1 _ L (fun j hj => up2_n _ _ _ (by omega)) (own.up (by decide) (Or.inr (by decide))) (rE_s0 I _)
  · have a1 : ¬ inR v 0 9 := a1
    refine x_if_ne (tgt := 13) dR_stride_7 (by decide) (fun h => absurd (by decide) h) (fun _ => ?_)
    rw [strideS, strideU, if_pos a1, if_pos a1] at h1
    refine x_bipush (v := -2) dR_stride_10 rfl ?_
    -- at 12: .ireturn
    refine x_ireturn dR_stride_12 rfl rfl ?_
    exact h1 I L (fun _ _ => rfl) own rfl
def sp_R_count : SpT := fun as S I L Post => ∃ w : Int32, rSp [.int w] (fun E => .int (countS E w)) (fun E => E) as S I L Post
set_option maxHeartbeats 4000000 in
set_option maxRecDepth 100000 in
theorem c_R_count : Con mR_count 2 0 0 sp_R_count := by
  refine con_of_X rfl fun G as S I L Post hs => ?_
  obtain ⟨w, rfl, rfl, ⟨hok, own⟩, h1⟩ := hs
  dsimp only at h1
  have h1 := h1 I L (fun _ _ => rfl) own rfl
  refine ⟨0, Nat.le_of_ble_eq_true rfl, ?_⟩
  show X mR_count G _ S1 I L 0 [.ref 59, .int w] [] Post
  refine x_iload_n dR_count_0 rfl ?_
  -- at 1: .tableswitch 78 0 6 #[43, 48, 53, 58, 63, 68, 73]
  by_cases w0 : w = 0
  · subst w0
    refine x_tableIn (tgt := 44) dR_count_1 (by decide) (by decide) rfl (by decide) ?_
    refine x_aload_n dR_count_44 rfl ?_
    refine x_getI fl_R_16 rfl dR_count_45 rfl rfl ?_
    -- at 48: .ireturn
    refine x_ireturn dR_count_48 rfl rfl ?_
    exact h1
  by_cases w1 : w = 1
  · subst w1
    refine x_tableIn (tgt := 49) dR_count_1 (by decide) (by decide) rfl (by decide) ?_
    refine x_aload_n dR_count_49 rfl ?_
    refine x_getI fl_R_148 rfl dR_count_50 rfl rfl ?_
    -- at 53: .ireturn
    refine x_ireturn dR_count_53 rfl rfl ?_
    exact h1
  by_cases w2 : w = 2
  · subst w2
    refine x_tableIn (tgt := 54) dR_count_1 (by decide) (by decide) rfl (by decide) ?_
    refine x_aload_n dR_count_54 rfl ?_
    refine x_getI fl_R_155 rfl dR_count_55 rfl rfl ?_
    -- at 58: .ireturn
    refine x_ireturn dR_count_58 rfl rfl ?_
    exact h1
  by_cases w3 : w = 3
  · subst w3
    refine x_tableIn (tgt := 59) dR_count_1 (by decide) (by decide) rfl (by decide) ?_
    refine x_aload_n dR_count_59 rfl ?_
    refine x_getI fl_R_158 rfl dR_count_60 rfl rfl ?_
    -- at 63: .ireturn
    refine x_ireturn dR_count_63 rfl rfl ?_
    exact h1
  by_cases w4 : w = 4
  · subst w4
    refine x_tableIn (tgt := 64) dR_count_1 (by decide) (by decide) rfl (by decide) ?_
    refine x_aload_n dR_count_64 rfl ?_
    refine x_getI fl_R_161 rfl dR_count_65 rfl rfl ?_
    -- at 68: .ireturn
    refine x_ireturn dR_count_68 rfl rfl ?_
    exact h1
  by_cases w5 : w = 5
  · subst w5
    refine x_tableIn (tgt := 69) dR_count_1 (by decide) (by decide) rfl (by decide) ?_
    refine x_aload_n dR_count_69 rfl ?_
    refine x_getI fl_R_164 rfl dR_count_70 rfl rfl ?_
    -- at 73: .ireturn
    refine x_ireturn dR_count_73 rfl rfl ?_
    exact h1
  by_cases w6 : w = 6
  · subst w6
    refine x_tableIn (tgt := 74) dR_count_1 (by decide) (by decide) rfl (by decide) ?_
    refine x_aload_n dR_count_74 rfl ?_
    refine x_getI fl_R_137 rfl dR_count_75 rfl rfl ?_
    -- at 78: .ireturn
    refine x_ireturn dR_count_78 rfl rfl ?_
    exact h1
  have ho := toInt_out (w := w) (n := 6) (by omega) (fun k hk => by
    rcases (show k = 0 ∨ k = 1 ∨ k = 2 ∨ k = 3 ∨ k = 4 ∨ k = 5 ∨ k = 6 by omega) with rfl | rfl | rfl | rfl | rfl | rfl | rfl <;> assumption)
  rw [countS, if_neg w0, if_neg w1, if_neg w2, if_neg w3, if_neg w4, if_neg w5, if_neg w6] at h1
  refine x_tableOut (tgt := 79) dR_count_1 ho (by decide) ?_
  refine x_bipush (v := -2) dR_count_79 rfl ?_
  -- at 81: .ireturn
  refine x_ireturn dR_count_81 rfl rfl ?_
  exact h1
def sp_R_force : SpT := fun as S I L Post => ∃ t : Int32, rSp [.int t] (fun E => .int (forceS E t)) (fun E => forceU E t) as S I L Post
set_option maxHeartbeats 4000000 in
set_option maxRecDepth 100000 in
theorem c_R_force : Con mR_force 3 0 0 sp_R_force := by
  refine con_of_X rfl fun G as S I L Post hs => ?_
  obtain ⟨t, rfl, rfl, ⟨hok, own⟩, h1⟩ := hs
  dsimp only at h1
  refine ⟨1, Nat.le_of_ble_eq_true rfl, ?_⟩
  show X mR_force G _ S1 I L 0 [.ref 59, .int t, .null] [] Post
  refine x_iload_n dR_force_0 rfl ?_
  refine x_iconst (v := 0) dR_force_1 rfl ?_
  refine x_aload_n dR_force_2 rfl ?_
  refine x_getI fl_R_161 rfl dR_force_3 rfl rfl ?_
  refine x_iconst (v := 1) dR_force_6 rfl ?_
  refine x_isub dR_force_7 ?_
  -- at 8: .invokestatic 151
  refine x_callS_3 c_R_in ok_R_in ml_R_151 dR_force_8 rfl rfl ?_
  refine ⟨_, _, _, rfl, fun a1 => ?_, fun a1 => ?_⟩
  · have a1 : inR t 0 (rE I 29 4 - 1) := a1
    refine x_if_ne (tgt := 17) dR_force_11 (by decide) (fun _ => ?_) (fun h => absurd h (by decide))
    rw [forceS, forceU, if_neg (not_not_intro a1), if_neg (not_not_intro a1)] at h1
    refine x_aload_n dR_force_17 rfl ?_
    refine x_getI fl_R_164 rfl dR_force_18 rfl rfl ?_
    refine x_istoren_2 dR_force_21 rfl rfl ?_
    refine x_aload_n dR_force_22 rfl ?_
    refine x_iload_n dR_force_23 rfl ?_
    refine x_putI fl_R_164 rfl dR_force_24 (by decide) rfl rfl rfl rfl ?_
    refine x_iload_n dR_force_27 rfl ?_
    -- at 28: .ireturn
    refine x_ireturn dR_force_28 rfl rfl ?_
    exact h1 _ L (fun j hj => up2_n _ _ _ (by omega)) (own.up (by decide) (Or.inr (by decide))) (rE_s5 I _)
  · have a1 : ¬ inR t 0 (rE I 29 4 - 1) := a1
    refine x_if_ne (tgt := 17) dR_force_11 (by decide) (fun h => absurd (by decide) h) (fun _ => ?_)
    rw [forceS, forceU, if_pos a1, if_pos a1] at h1
    refine x_bipush (v := -2) dR_force_14 rfl ?_
    -- at 16: .ireturn
    refine x_ireturn dR_force_16 rfl rfl ?_
    exact h1 I L (fun _ _ => rfl) own rfl
def sp_R_move : SpT := fun as S I L Post => ∃ p u : Int32, rSp [.int p, .int u] (fun E => .int (moveS E p u)) (fun E => moveU E p u) as S I L Post
set_option maxHeartbeats 4000000 in
set_option maxRecDepth 100000 in
theorem c_R_move : Con mR_move 4 0 0 sp_R_move := by
  refine con_of_X rfl fun G as S I L Post hs => ?_
  obtain ⟨p, u, rfl, rfl, ⟨hok, own⟩, h1⟩ := hs
  dsimp only at h1
  refine ⟨1, Nat.le_of_ble_eq_true rfl, ?_⟩
  show X mR_move G _ S1 I L 0 [.ref 59, .int p, .int u, .null] [] Post
  have hn : I 59 3 = nI (pN (rE I)) := hok.1.1
  have h8 := hok.1.2.1
  refine x_aload_n dR_move_0 rfl ?_
  refine x_iload_n dR_move_1 rfl ?_
  -- at 2: .invokevirtual 230
  refine x_callV_1 c_R_isOne ok_R_isOne ml_R_230 dR_move_2 rfl rfl rfl rfl rfl ?_
  refine ⟨_, rfl, rfl, fun a1 => ?_, fun a1 => ?_⟩
  · have a1 : inR p 0 (rE I 29 1 - 1) := a1
    refine x_if_ne (tgt := 11) dR_move_5 (by decide) (fun _ => ?_) (fun h => absurd h (by decide))
    rw [moveS, moveU, if_neg (not_not_intro a1), if_neg (not_not_intro a1)] at h1
    rw [show rE I 29 1 = nI (pN (rE I)) from hn] at a1
    obtain ⟨k, hk, rfl⟩ := has_nat (by omega) a1
    rw [cl_nI (by omega)] at h1
    refine x_iload_n dR_move_11 rfl ?_
    refine x_iconst (v := -1) dR_move_12 rfl ?_
    refine x_iconst (v := 5) dR_move_13 rfl ?_
    -- at 14: .invokestatic 151
    refine x_callS_3 c_R_in ok_R_in ml_R_151 dR_move_14 rfl rfl ?_
    refine ⟨_, _, _, rfl, fun a2 => ?_, fun a2 => ?_⟩
    · have a2 : inR u (-1) 5 := a2
      refine x_if_ne (tgt := 23) dR_move_17 (by decide) (fun _ => ?_) (fun h => absurd h (by decide))
      rw [if_neg (not_not_intro a2), if_neg (not_not_intro a2)] at h1
      refine x_aload_n dR_move_23 rfl ?_
      refine x_getR fl_R_41 rfl dR_move_24 rfl rfl rfl ?_
      refine x_iload_n dR_move_27 rfl ?_
      refine x_ialdJ (j := k) dR_move_28 rfl rfl (by first | rfl | (simp only [← nI_add, ← pk_mul]; rfl)) (by omega) ?_
      refine x_istoren_3 dR_move_29 rfl rfl ?_
      refine x_aload_n dR_move_30 rfl ?_
      refine x_getR fl_R_41 rfl dR_move_31 rfl rfl rfl ?_
      refine x_iload_n dR_move_34 rfl ?_
      refine x_iload_n dR_move_35 rfl ?_
      refine x_iastJ (j := k) dR_move_36 rfl rfl (by first | rfl | (simp only [← nI_add, ← pk_mul]; rfl)) (by omega) ?_
      refine x_iload_n dR_move_37 rfl ?_
      -- at 38: .ireturn
      refine x_ireturn dR_move_38 rfl rfl ?_
      have e9 : rE I 9 k = I 69 k := mk_lt hk
      rw [e9] at h1
      exact h1 _ L (fun j hj => up2_n _ _ _ (by omega)) (own.up (by decide) (Or.inl (by decide))) (rE_u9 I _ hk)
    · have a2 : ¬ inR u (-1) 5 := a2
      refine x_if_ne (tgt := 23) dR_move_17 (by decide) (fun h => absurd (by decide) h) (fun _ => ?_)
      rw [if_pos a2, if_pos a2] at h1
      refine x_bipush (v := -7) dR_move_20 rfl ?_
      -- at 22: .ireturn
      refine x_ireturn dR_move_22 rfl rfl ?_
      exact h1 I L (fun _ _ => rfl) own rfl
  · have a1 : ¬ inR p 0 (rE I 29 1 - 1) := a1
    refine x_if_ne (tgt := 11) dR_move_5 (by decide) (fun h => absurd (by decide) h) (fun _ => ?_)
    rw [moveS, moveU, if_pos a1, if_pos a1] at h1
    refine x_bipush (v := -5) dR_move_8 rfl ?_
    -- at 10: .ireturn
    refine x_ireturn dR_move_10 rfl rfl ?_
    exact h1 I L (fun _ _ => rfl) own rfl
