section
-- 61.r1
/-! the reference: its state, and what it tells at once -/
def wordsL : List Int32 := [104, 101, 97, 114, 100, 32, 32, 32, 115, 104, 97, 114, 101, 32, 32, 32, 112, 97, 105, 110, 32, 32, 32, 32, 108, 111, 117, 100, 32, 32, 32, 32, 102, 97, 114, 32, 32, 32, 32, 32, 101, 97, 114, 32, 32, 32, 32, 32, 110, 101, 101, 100, 32, 32, 32, 32, 109, 97, 110, 121, 32, 32, 32, 32, 98, 97, 115, 101, 32, 32, 32, 32, 111, 114, 32, 32, 32, 32, 32, 32, 97, 110, 100, 32, 32, 32, 32, 32, 110, 111, 116, 32, 32, 32, 32, 32]
def rOwn (I : IM) : Prop := I 59 55 = 0 ∧ I 59 60 = -1 ∧ ∀ k, k < 96 → I 92 k = wordsL.getD k 0
def rOk (I : IM) : Prop := Inv (rE I) ∧ rOwn I
theorem rOwn.up {I : IM} (h : rOwn I) {k j : Nat} {x : Int32} (h1 : k ≠ 92) (h2 : k ≠ 59 ∨ (j ≠ 55 ∧ j ≠ 60)) : rOwn (up2 I k j x) := by
  obtain ⟨a1, a2, a3⟩ := h
  by_cases e : k = 59
  · subst e
    obtain ⟨b1, b2⟩ := h2.resolve_left (fun z => z rfl)
    exact ⟨by rw [up2_s, up1_n _ _ (Ne.symm b1)]; exact a1, by rw [up2_s, up1_n _ _ (Ne.symm b2)]; exact a2, fun k hk => by rw [up2_n _ _ _ (by decide)]; exact a3 k hk⟩
  · exact ⟨by rw [up2_n _ _ _ (Ne.symm e)]; exact a1, by rw [up2_n _ _ _ (Ne.symm e)]; exact a2, fun q hq => by rw [up2_n _ _ _ (Ne.symm h1)]; exact a3 q hq⟩
theorem rOwn.upr {I : IM} (h : rOwn I) {k : Nat} {f : Nat → Int32} (h1 : k ≠ 92) (h2 : k ≠ 59) : rOwn (upr I k f) := by
  obtain ⟨a1, a2, a3⟩ := h
  exact ⟨by rw [upr_n _ _ (Ne.symm h2)]; exact a1, by rw [upr_n _ _ (Ne.symm h2)]; exact a2, fun q hq => by rw [upr_n _ _ (Ne.symm h1)]; exact a3 q hq⟩
/-- a call of the reference that answers 'ans', and the state is 'upd' then -/
def rSp (args : List Value) (ans : IM → Value) (upd : IM → IM) : SpT := fun as S I L Post => as = .ref 59 :: args ∧ S = S1 ∧ rOk I ∧ ∀ (I' : IM) (L' : LM), (∀ k, k < 59 → I' k = I k) → rOwn I' → rE I' = upd (rE I) → Post (some (ans (rE I))) S1 I' L'
theorem r6 (a b : Nat) : (6 : Int32) * nI a + nI b = nI (a * 6 + b) := by
  rw [show (6 : Int32) = nI 6 from rfl, pk_mul, nI_add, Nat.mul_comm]
theorem r40 (a b : Nat) : (40 : Int32) * nI a + nI b = nI (a * 40 + b) := by
  rw [show (40 : Int32) = nI 40 from rfl, pk_mul, nI_add, Nat.mul_comm]
theorem nat_any {x : Int32} (h : 0 ≤ x) : ∃ k, k < 2 ^ 31 ∧ x = nI k := by
  have h1 := Int32.le_iff_toInt_le.mp h
  have h2 := x.toInt_lt
  have e0 : (0 : Int32).toInt = 0 := by decide
  refine ⟨x.toInt.toNat, by omega, ?_⟩
  apply Int32.toInt_inj.mp
  rw [nI_toInt (by omega)]
  omega
def sp_R_in : SpT := fun as S I L Post => ∃ v lo hi : Int32, as = [.int v, .int lo, .int hi] ∧ bPost (lo ≤ v ∧ v ≤ hi) S I L Post
set_option maxHeartbeats 4000000 in
set_option maxRecDepth 100000 in
theorem c_R_in : Con mR_in 2 0 0 sp_R_in := by
  refine con_of_X rfl fun G as S I L Post hs => ?_
  obtain ⟨v, lo, hi, rfl, h1, h2⟩ := hs
  refine ⟨0, Nat.le_of_ble_eq_true rfl, ?_⟩
  show X mR_in G _ S I L 0 [.int v, .int lo, .int hi] [] Post
  refine x_iload_n dR_in_0 rfl ?_
  refine x_iload_n dR_in_1 rfl ?_
  -- at 2: .if_icmp .lt 12
  refine x_icmp_lt (tgt := 14) dR_in_2 (by decide) (fun c1 => ?_) (fun c1 => ?_)
  · refine x_iconst (v := 0) dR_in_14 rfl ?_
    -- at 15: .ireturn
    refine x_ireturn dR_in_15 rfl rfl ?_
    exact h2 (fun q => absurd c1 (Int32.not_lt.mpr q.1))
  · refine x_iload_n dR_in_5 rfl ?_
    refine x_iload_n dR_in_6 rfl ?_
    -- at 7: .if_icmp .gt 7
    refine x_icmp_gt (tgt := 14) dR_in_7 (by decide) (fun c2 => ?_) (fun c2 => ?_)
    · refine x_iconst (v := 0) dR_in_14 rfl ?_
      -- at 15: .ireturn
      refine x_ireturn dR_in_15 rfl rfl ?_
      exact h2 (fun q => absurd c2 (Int32.not_lt.mpr q.2))
    · refine x_iconst (v := 1) dR_in_10 rfl ?_
      refine x_goto (tgt := 15) dR_in_11 (by decide) ?_
      -- at 15: .ireturn
      refine x_ireturn dR_in_15 rfl rfl ?_
      exact h1 ⟨Int32.not_lt.mp c1, Int32.not_lt.mp c2⟩
def sp_R_isByte : SpT := fun as S I L Post => ∃ v : Int32, as = [.int v] ∧ bPost (0 ≤ v ∧ v ≤ 255) S I L Post
set_option maxHeartbeats 4000000 in
set_option maxRecDepth 100000 in
theorem c_R_isByte : Con mR_isByte 3 0 0 sp_R_isByte := by
  refine con_of_X rfl fun G as S I L Post hs => ?_
  obtain ⟨v, rfl, h1, h2⟩ := hs
  refine ⟨0, Nat.le_of_ble_eq_true rfl, ?_⟩
  show X mR_isByte G _ S I L 0 [.int v] [] Post
  refine x_iload_n dR_isByte_0 rfl ?_
  refine x_iconst (v := 0) dR_isByte_1 rfl ?_
  refine x_sipush (v := 255) dR_isByte_2 rfl ?_
  -- at 5: .invokestatic 151
  refine x_callS_3 c_R_in ok_R_in ml_R_151 dR_isByte_5 rfl rfl ?_
  refine ⟨v, 0, 255, rfl, fun q => ?_, fun q => ?_⟩
  · refine x_ireturn dR_isByte_8 rfl rfl ?_
    exact h1 q
  · refine x_ireturn dR_isByte_8 rfl rfl ?_
    exact h2 q
def sp_R_within : SpT := fun as S I L Post => ∃ v lo hi : Int32, as = [.int v, .int lo, .int hi] ∧ lo ≤ hi ∧ Post (some (.int (imax lo (imin v hi)))) S I L
set_option maxHeartbeats 4000000 in
set_option maxRecDepth 100000 in
theorem c_R_within : Con mR_within 2 0 0 sp_R_within := by
  refine con_of_X rfl fun G as S I L Post hs => ?_
  obtain ⟨v, lo, hi, rfl, hle, h1⟩ := hs
  refine ⟨0, Nat.le_of_ble_eq_true rfl, ?_⟩
  show X mR_within G _ S I L 0 [.int v, .int lo, .int hi] [] Post
  refine x_iload_n dR_within_0 rfl ?_
  refine x_iload_n dR_within_1 rfl ?_
  -- at 2: .if_icmp .ge 7
  refine x_icmp_ge (tgt := 9) dR_within_2 (by decide) (fun c1 => ?_) (fun c1 => ?_)
  · refine x_iload_n dR_within_9 rfl ?_
    refine x_iload_n dR_within_10 rfl ?_
    -- at 11: .if_icmp .le 7
    refine x_icmp_le (tgt := 18) dR_within_11 (by decide) (fun c2 => ?_) (fun c2 => ?_)
    · refine x_iload_n dR_within_18 rfl ?_
      -- at 19: .ireturn
      refine x_ireturn dR_within_19 rfl rfl ?_
      rw [imin, if_neg (Int32.not_lt.mpr c2), imax] at h1
      by_cases e : lo < v
      · rw [if_pos e] at h1; exact h1
      · rw [if_neg e] at h1
        rw [Int32.le_antisymm (Int32.not_lt.mp e) c1]
        exact h1
    · refine x_iload_n dR_within_14 rfl ?_
      refine x_goto (tgt := 19) dR_within_15 (by decide) ?_
      -- at 19: .ireturn
      refine x_ireturn dR_within_19 rfl rfl ?_
      rw [imin, if_pos (Int32.not_le.mp c2), imax] at h1
      by_cases e : lo < hi
      · rw [if_pos e] at h1; exact h1
      · rw [if_neg e] at h1
        rw [Int32.le_antisymm (Int32.not_lt.mp e) hle]
        exact h1
  · have c1 : v < lo := Int32.not_le.mp c1
    refine x_iload_n dR_within_5 rfl ?_
    refine x_goto (tgt := 19) dR_within_6 (by decide) ?_
    -- at 19: .ireturn
    refine x_ireturn dR_within_19 rfl rfl ?_
    rw [imin, if_neg (Int32.not_lt.mpr (Int32.le_trans (Int32.le_of_lt c1) hle)), imax, if_neg (Int32.not_lt.mpr (Int32.le_of_lt c1))] at h1
    exact h1
def sp_R_isOne : SpT := fun as S I L Post => ∃ p : Int32, as = [.ref 59, .int p] ∧ S = S1 ∧ bPost (inR p 0 (I 59 3 - 1)) S1 I L Post
set_option maxHeartbeats 4000000 in
set_option maxRecDepth 100000 in
theorem c_R_isOne : Con mR_isOne 3 0 0 sp_R_isOne := by
  refine con_of_X rfl fun G as S I L Post hs => ?_
  obtain ⟨p, rfl, rfl, h1, h2⟩ := hs
  refine ⟨0, Nat.le_of_ble_eq_true rfl, ?_⟩
  show X mR_isOne G _ S1 I L 0 [.ref 59, .int p] [] Post
  refine x_iload_n dR_isOne_0 rfl ?_
  refine x_iconst (v := 0) dR_isOne_1 rfl ?_
  refine x_aload_n dR_isOne_2 rfl ?_
  refine x_getI fl_R_148 rfl dR_isOne_3 rfl rfl ?_
  refine x_iconst (v := 1) dR_isOne_6 rfl ?_
  refine x_isub dR_isOne_7 ?_
  -- at 8: .invokestatic 151
  refine x_callS_3 c_R_in ok_R_in ml_R_151 dR_isOne_8 rfl rfl ?_
  refine ⟨p, 0, _, rfl, fun q => ?_, fun q => ?_⟩
  · refine x_ireturn dR_isOne_11 rfl rfl ?_
    exact h1 q
  · refine x_ireturn dR_isOne_11 rfl rfl ?_
    exact h2 q
def sp_R_isPromise : SpT := fun as S I L Post => ∃ p : Int32, as = [.ref 59, .int p] ∧ S = S1 ∧ bPost (inR p 0 (I 59 12 - 1)) S1 I L Post
set_option maxHeartbeats 4000000 in
set_option maxRecDepth 100000 in
theorem c_R_isPromise : Con mR_isPromise 3 0 0 sp_R_isPromise := by
  refine con_of_X rfl fun G as S I L Post hs => ?_
  obtain ⟨p, rfl, rfl, h1, h2⟩ := hs
  refine ⟨0, Nat.le_of_ble_eq_true rfl, ?_⟩
  show X mR_isPromise G _ S1 I L 0 [.ref 59, .int p] [] Post
  refine x_iload_n dR_isPromise_0 rfl ?_
  refine x_iconst (v := 0) dR_isPromise_1 rfl ?_
  refine x_aload_n dR_isPromise_2 rfl ?_
  refine x_getI fl_R_155 rfl dR_isPromise_3 rfl rfl ?_
  refine x_iconst (v := 1) dR_isPromise_6 rfl ?_
  refine x_isub dR_isPromise_7 ?_
  -- at 8: .invokestatic 151
  refine x_callS_3 c_R_in ok_R_in ml_R_151 dR_isPromise_8 rfl rfl ?_
  refine ⟨p, 0, _, rfl, fun q => ?_, fun q => ?_⟩
  · refine x_ireturn dR_isPromise_11 rfl rfl ?_
    exact h1 q
  · refine x_ireturn dR_isPromise_11 rfl rfl ?_
    exact h2 q
def sp_R_isSaying : SpT := fun as S I L Post => ∃ p : Int32, as = [.ref 59, .int p] ∧ S = S1 ∧ bPost (inR p 0 (I 59 17 - 1)) S1 I L Post
set_option maxHeartbeats 4000000 in
set_option maxRecDepth 100000 in
theorem c_R_isSaying : Con mR_isSaying 3 0 0 sp_R_isSaying := by
  refine con_of_X rfl fun G as S I L Post hs => ?_
  obtain ⟨p, rfl, rfl, h1, h2⟩ := hs
  refine ⟨0, Nat.le_of_ble_eq_true rfl, ?_⟩
  show X mR_isSaying G _ S1 I L 0 [.ref 59, .int p] [] Post
  refine x_iload_n dR_isSaying_0 rfl ?_
  refine x_iconst (v := 0) dR_isSaying_1 rfl ?_
  refine x_aload_n dR_isSaying_2 rfl ?_
  refine x_getI fl_R_158 rfl dR_isSaying_3 rfl rfl ?_
  refine x_iconst (v := 1) dR_isSaying_6 rfl ?_
  refine x_isub dR_isSaying_7 ?_
  -- at 8: .invokestatic 151
  refine x_callS_3 c_R_in ok_R_in ml_R_151 dR_isSaying_8 rfl rfl ?_
  refine ⟨p, 0, _, rfl, fun q => ?_, fun q => ?_⟩
  · refine x_ireturn dR_isSaying_11 rfl rfl ?_
    exact h1 q
  · refine x_ireturn dR_isSaying_11 rfl rfl ?_
    exact h2 q
def sp_R_far : SpT := fun as S I L Post => ∃ u v d : Int32, rSp [.int u, .int v, .int d] (fun E => .int (farS E u v d)) (fun E => farU E u v d) as S I L Post
set_option maxHeartbeats 4000000 in
set_option maxRecDepth 100000 in
theorem c_R_far : Con mR_far 3 0 0 sp_R_far := by
  refine con_of_X rfl fun G as S I L Post hs => ?_
  obtain ⟨u, v, d, rfl, rfl, ⟨hok, own⟩, h1⟩ := hs
  dsimp only at h1
  refine ⟨1, Nat.le_of_ble_eq_true rfl, ?_⟩
  show X mR_far G _ S1 I L 0 [.ref 59, .int u, .int v, .int d, .null] [] Post
  have none1 : farN u v d → X mR_far G (3, 0, 0) S1 I L 23 [.ref 59, .int u, .int v, .int d, .null] [] Post := by
    intro hc
    refine x_iconst (v := -1) dR_far_23 rfl ?_
    -- at 24: .ireturn
    refine x_ireturn dR_far_24 rfl rfl ?_
    have := h1 I L (fun _ _ => rfl) own (by rw [farU, if_pos hc])
    rw [farS, if_pos hc] at this
    exact this
  refine x_iload_n dR_far_0 rfl ?_
  refine x_iconst (v := 0) dR_far_1 rfl ?_
  refine x_iconst (v := 5) dR_far_2 rfl ?_
  -- at 3: .invokestatic 151
  refine x_callS_3 c_R_in ok_R_in ml_R_151 dR_far_3 rfl rfl ?_
  refine ⟨_, _, _, rfl, fun hu => ?_, fun hu => ?_⟩
  · refine x_if_eq (tgt := 23) dR_far_6 (by decide) (fun h => absurd h (by decide)) (fun _ => ?_)
    refine x_iload_n dR_far_9 rfl ?_
    refine x_iconst (v := 0) dR_far_10 rfl ?_
    refine x_iconst (v := 5) dR_far_11 rfl ?_
    -- at 12: .invokestatic 151
    refine x_callS_3 c_R_in ok_R_in ml_R_151 dR_far_12 rfl rfl ?_
    refine ⟨_, _, _, rfl, fun hv => ?_, fun hv => ?_⟩
    · refine x_if_eq (tgt := 23) dR_far_15 (by decide) (fun h => absurd h (by decide)) (fun _ => ?_)
      refine x_iload_n dR_far_18 rfl ?_
      refine x_iload_n dR_far_19 rfl ?_
      -- at 20: .if_icmp .ne 5
      refine x_icmp_ne (tgt := 25) dR_far_20 (by decide) (fun c1 => ?_) (fun c1 => ?_)
      · have hn : ¬ farN u v d := fun z => z.elim (fun y => y hu) (fun y => y.elim (fun x => x hv) c1)
        rw [farS, if_neg hn, farU, if_neg hn] at h1
        refine x_iload_n dR_far_25 rfl ?_
        refine x_iconst (v := 0) dR_far_26 rfl ?_
        refine x_bipush (v := 9) dR_far_27 rfl ?_
        -- at 29: .invokestatic 151
        refine x_callS_3 c_R_in ok_R_in ml_R_151 dR_far_29 rfl rfl ?_
        refine ⟨_, _, _, rfl, fun hd => ?_, fun hd => ?_⟩
        · refine x_if_ne (tgt := 38) dR_far_32 (by decide) (fun _ => ?_) (fun h => absurd h (by decide))
          obtain ⟨a, ha, rfl⟩ := inR_of (n := 5) (by decide) hu
          obtain ⟨b, hb, rfl⟩ := inR_of (n := 5) (by decide) hv
          rw [if_neg (not_not_intro hd), if_neg (not_not_intro hd), cl_nI (by omega), cl_nI (by omega)] at h1
          refine x_aload_n dR_far_38 rfl ?_
          refine x_getR fl_R_7 rfl dR_far_39 rfl rfl rfl ?_
          refine x_bipush (v := 6) dR_far_42 rfl ?_
          refine x_iload_n dR_far_44 rfl ?_
          refine x_imul dR_far_45 ?_
          refine x_iload_n dR_far_46 rfl ?_
          refine x_iadd dR_far_47 ?_
          refine x_ialdJ dR_far_48 rfl rfl (r6 a b) (by omega) ?_
          refine x_istore_4 dR_far_49 rfl rfl ?_
          refine x_aload_n dR_far_51 rfl ?_
          refine x_getR fl_R_7 rfl dR_far_52 rfl rfl rfl ?_
          refine x_bipush (v := 6) dR_far_55 rfl ?_
          refine x_iload_n dR_far_57 rfl ?_
          refine x_imul dR_far_58 ?_
          refine x_iload_n dR_far_59 rfl ?_
          refine x_iadd dR_far_60 ?_
          refine x_iload_n dR_far_61 rfl ?_
          refine x_iastJ dR_far_62 rfl rfl (r6 a b) (by omega) ?_
          refine x_aload_n dR_far_63 rfl ?_
          refine x_getR fl_R_7 rfl dR_far_64 rfl rfl rfl ?_
          refine x_bipush (v := 6) dR_far_67 rfl ?_
          refine x_iload_n dR_far_69 rfl ?_
          refine x_imul dR_far_70 ?_
          refine x_iload_n dR_far_71 rfl ?_
          refine x_iadd dR_far_72 ?_
          refine x_iload_n dR_far_73 rfl ?_
          refine x_iastJ dR_far_74 rfl rfl (r6 b a) (by omega) ?_
          -- at 75: .iload 4
          refine x_iload dR_far_75 rfl ?_
          -- at 77: .ireturn
          refine x_ireturn dR_far_77 rfl rfl ?_
          refine h1 _ L (fun k hk => ?_) ((own.up (by decide) (Or.inl (by decide))).up (by decide) (Or.inl (by decide))) ?_
          · rw [up2_n _ _ _ (by omega), up2_n _ _ _ (by omega)]
          · rw [rE_u0, rE_u0]
        · refine x_if_ne (tgt := 38) dR_far_32 (by decide) (fun h => absurd (by decide) h) (fun _ => ?_)
          refine x_bipush (v := -2) dR_far_35 rfl ?_
          -- at 37: .ireturn
          refine x_ireturn dR_far_37 rfl rfl ?_
          have := h1 I L (fun _ _ => rfl) own (by rw [if_pos hd])
          rw [if_pos hd] at this
          exact this
      · exact none1 (Or.inr (Or.inr c1))
    · refine x_if_eq (tgt := 23) dR_far_15 (by decide) (fun _ => ?_) (fun h => absurd (by decide) h)
      exact none1 (Or.inr (Or.inl hv))
  · refine x_if_eq (tgt := 23) dR_far_6 (by decide) (fun _ => ?_) (fun h => absurd (by decide) h)
    exact none1 (Or.inl hu)
def sp_R_hush : SpT := fun as S I L Post => ∃ t v : Int32, rSp [.int t, .int v] (fun E => .int (hushS E t v)) (fun E => hushU E t v) as S I L Post
set_option maxHeartbeats 4000000 in
set_option maxRecDepth 100000 in
theorem c_R_hush : Con mR_hush 3 0 0 sp_R_hush := by
  refine con_of_X rfl fun G as S I L Post hs => ?_
  obtain ⟨t, v, rfl, rfl, ⟨hok, own⟩, h1⟩ := hs
  dsimp only at h1
  refine ⟨1, Nat.le_of_ble_eq_true rfl, ?_⟩
  show X mR_hush G _ S1 I L 0 [.ref 59, .int t, .int v, .null] [] Post
  refine x_iload_n dR_hush_0 rfl ?_
  refine x_iconst (v := 0) dR_hush_1 rfl ?_
  refine x_iconst (v := 5) dR_hush_2 rfl ?_
  -- at 3: .invokestatic 151
  refine x_callS_3 c_R_in ok_R_in ml_R_151 dR_hush_3 rfl rfl ?_
  refine ⟨_, _, _, rfl, fun a1 => ?_, fun a1 => ?_⟩
  · have a1 : inR t 0 5 := a1
    refine x_if_ne (tgt := 11) dR_hush_6 (by decide) (fun _ => ?_) (fun h => absurd h (by decide))
    rw [hushS, hushU, if_neg (not_not_intro a1), if_neg (not_not_intro a1)] at h1
    refine x_iload_n dR_hush_11 rfl ?_
    refine x_iconst (v := 0) dR_hush_12 rfl ?_
    refine x_bipush (v := 9) dR_hush_13 rfl ?_
    -- at 15: .invokestatic 151
    refine x_callS_3 c_R_in ok_R_in ml_R_151 dR_hush_15 rfl rfl ?_
    refine ⟨_, _, _, rfl, fun a2 => ?_, fun a2 => ?_⟩
    · have a2 : inR v 0 9 := a2
      refine x_if_ne (tgt := 24) dR_hush_18 (by decide) (fun _ => ?_) (fun h => absurd h (by decide))
      rw [if_neg (not_not_intro a2), if_neg (not_not_intro a2)] at h1
      obtain ⟨k, hk, rfl⟩ := inR_of (n := 5) (by decide) a1
      rw [cl_nI (by omega)] at h1
      refine x_aload_n dR_hush_24 rfl ?_
      refine x_getR fl_R_13 rfl dR_hush_25 rfl rfl rfl ?_
      refine x_iload_n dR_hush_28 rfl ?_
      refine x_ialdJ (j := k) dR_hush_29 rfl rfl (by first | rfl | (simp only [← nI_add, ← pk_mul]; rfl)) (by omega) ?_
      refine x_istoren_3 dR_hush_30 rfl rfl ?_
      refine x_aload_n dR_hush_31 rfl ?_
      refine x_getR fl_R_13 rfl dR_hush_32 rfl rfl rfl ?_
      refine x_iload_n dR_hush_35 rfl ?_
      refine x_iload_n dR_hush_36 rfl ?_
      refine x_iastJ (j := k) dR_hush_37 rfl rfl (by first | rfl | (simp only [← nI_add, ← pk_mul]; rfl)) (by omega) ?_
      refine x_iload_n dR_hush_38 rfl ?_
      -- at 39: .ireturn
      refine x_ireturn dR_hush_39 rfl rfl ?_
      exact h1 _ L (fun j hj => up2_n _ _ _ (by omega)) (own.up (by decide) (Or.inl (by decide))) (rE_u1 I _ _)
    · have a2 : ¬ inR v 0 9 := a2
      refine x_if_ne (tgt := 24) dR_hush_18 (by decide) (fun h => absurd (by decide) h) (fun _ => ?_)
      rw [if_pos a2, if_pos a2] at h1
      refine x_bipush (v := -2) dR_hush_21 rfl ?_
      -- at 23: .ireturn
      refine x_ireturn dR_hush_23 rfl rfl ?_
      exact h1 I L (fun _ _ => rfl) own rfl
  · have a1 : ¬ inR t 0 5 := a1
    refine x_if_ne (tgt := 11) dR_hush_6 (by decide) (fun h => absurd (by decide) h) (fun _ => ?_)
    rw [hushS, hushU, if_pos a1, if_pos a1] at h1
    refine x_iconst (v := -1) dR_hush_9 rfl ?_
    -- at 10: .ireturn
    refine x_ireturn dR_hush_10 rfl rfl ?_
    exact h1 I L (fun _ _ => rfl) own rfl
def sp_R_stride : SpT := fun as S I L Post => ∃ v : Int32, rSp [.int v] (fun E => .int (strideS E v)) (fun E => strideU E v) as S I L Post
set_option maxHeartbeats 4000000 in
set_option maxRecDepth 100000 in
theorem c_R_stride : Con mR_stride 3 0 0 sp_R_stride := by
  refine con_of_X rfl fun G as S I L Post hs => ?_
  obtain ⟨v, rfl, rfl, ⟨hok, own⟩, h1⟩ := hs
  dsimp only at h1
  refine ⟨1, Nat.le_of_ble_eq_true rfl, ?_⟩
  show X mR_stride G _ S1 I L 0 [.ref 59, .int v, .null] [] Post
  refine x_iload_n dR_stride_0 rfl ?_
  refine x_iconst (v := 0) dR_stride_1 rfl ?_
  refine x_bipush (v := 9) dR_stride_2 rfl ?_
  -- at 4: .invokestatic 151
  refine x_callS_3 c_R_in ok_R_in ml_R_151 dR_stride_4 rfl rfl ?_
  refine ⟨_, _, _, rfl, fun a1 => ?_, fun a1 => ?_⟩
  · have a1 : inR v 0 9 := a1
    refine x_if_ne (tgt := 13) dR_stride_7 (by decide) (fun _ => ?_) (fun h => absurd h (by decide))
    rw [strideS, strideU, if_neg (not_not_intro a1), if_neg (not_not_intro a1)] at h1
    refine x_aload_n dR_stride_13 rfl ?_
    refine x_getI fl_R_16 rfl dR_stride_14 rfl rfl ?_
    refine x_istoren_2 dR_stride_17 rfl rfl ?_
    refine x_aload_n dR_stride_18 rfl ?_
    refine x_iload_n dR_stride_19 rfl ?_
    refine x_putI fl_R_16 rfl dR_stride_20 (by decide) rfl rfl rfl rfl ?_
    refine x_iload_n dR_stride_23 rfl ?_
    -- at 24: .ireturn
    refine x_ireturn dR_stride_24 rfl rfl ?_
    exact h1 _ L (fun j hj => up2_n _ _ _ (by omega)) (own.up (by decide) (Or.inr (by decide))) (rE_s0 I _)
  · have a1 : ¬ inR v 0 9 := a1
    refine x_if_ne (tgt := 13) dR_stride_7 (by decide) (fun h => absurd (by decide) h) (fun _ => ?_)
    rw [strideS, strideU, if_pos a1, if_pos a1] at h1
    refine x_bipush (v := -2) dR_stride_10 rfl ?_
    -- at 12: .ireturn
    refine x_ireturn dR_stride_12 rfl rfl ?_
    exact h1 I L (fun _ _ => rfl) own rfl
def sp_R_count : SpT := fun as S I L Post => ∃ w : Int32, rSp [.int w] (fun E => .int (countS E w)) (fun E => E) as S I L Post
set_option maxHeartbeats 4000000 in
set_option maxRecDepth 100000 in
theorem c_R_count : Con mR_count 2 0 0 sp_R_count := by
  refine con_of_X rfl fun G as S I L Post hs => ?_
  obtain ⟨w, rfl, rfl, ⟨hok, own⟩, h1⟩ := hs
  dsimp only at h1
  have h1 := h1 I L (fun _ _ => rfl) own rfl
  refine ⟨0, Nat.le_of_ble_eq_true rfl, ?_⟩
  show X mR_count G _ S1 I L 0 [.ref 59, .int w] [] Post
  refine x_iload_n dR_count_0 rfl ?_
  -- at 1: .tableswitch 78 0 6 #[43, 48, 53, 58, 63, 68, 73]
  by_cases w0 : w = 0
  · subst w0
    refine x_tableIn (tgt := 44) dR_count_1 (by decide) (by decide) rfl (by decide) ?_
    refine x_aload_n dR_count_44 rfl ?_
    refine x_getI fl_R_16 rfl dR_count_45 rfl rfl ?_
    -- at 48: .ireturn
    refine x_ireturn dR_count_48 rfl rfl ?_
    exact h1
  by_cases w1 : w = 1
  · subst w1
    refine x_tableIn (tgt := 49) dR_count_1 (by decide) (by decide) rfl (by decide) ?_
    refine x_aload_n dR_count_49 rfl ?_
    refine x_getI fl_R_148 rfl dR_count_50 rfl rfl ?_
    -- at 53: .ireturn
    refine x_ireturn dR_count_53 rfl rfl ?_
    exact h1
  by_cases w2 : w = 2
  · subst w2
    refine x_tableIn (tgt := 54) dR_count_1 (by decide) (by decide) rfl (by decide) ?_
    refine x_aload_n dR_count_54 rfl ?_
    refine x_getI fl_R_155 rfl dR_count_55 rfl rfl ?_
    -- at 58: .ireturn
    refine x_ireturn dR_count_58 rfl rfl ?_
    exact h1
  by_cases w3 : w = 3
  · subst w3
    refine x_tableIn (tgt := 59) dR_count_1 (by decide) (by decide) rfl (by decide) ?_
    refine x_aload_n dR_count_59 rfl ?_
    refine x_getI fl_R_158 rfl dR_count_60 rfl rfl ?_
    -- at 63: .ireturn
    refine x_ireturn dR_count_63 rfl rfl ?_
    exact h1
  by_cases w4 : w = 4
  · subst w4
    refine x_tableIn (tgt := 64) dR_count_1 (by decide) (by decide) rfl (by decide) ?_
    refine x_aload_n dR_count_64 rfl ?_
    refine x_getI fl_R_161 rfl dR_count_65 rfl rfl ?_
    -- at 68: .ireturn
    refine x_ireturn dR_count_68 rfl rfl ?_
    exact h1
  by_cases w5 : w = 5
  · subst w5
    refine x_tableIn (tgt := 69) dR_count_1 (by decide) (by decide) rfl (by decide) ?_
    refine x_aload_n dR_count_69 rfl ?_
    refine x_getI fl_R_164 rfl dR_count_70 rfl rfl ?_
    -- at 73: .ireturn
    refine x_ireturn dR_count_73 rfl rfl ?_
    exact h1
  by_cases w6 : w = 6
  · subst w6
    refine x_tableIn (tgt := 74) dR_count_1 (by decide) (by decide) rfl (by decide) ?_
    refine x_aload_n dR_count_74 rfl ?_
    refine x_getI fl_R_137 rfl dR_count_75 rfl rfl ?_
    -- at 78: .ireturn
    refine x_ireturn dR_count_78 rfl rfl ?_
    exact h1
  have ho := toInt_out (w := w) (n := 6) (by omega) (fun k hk => by
    rcases (show k = 0 ∨ k = 1 ∨ k = 2 ∨ k = 3 ∨ k = 4 ∨ k = 5 ∨ k = 6 by omega) with rfl | rfl | rfl | rfl | rfl | rfl | rfl <;> assumption)
  rw [countS, if_neg w0, if_neg w1, if_neg w2, if_neg w3, if_neg w4, if_neg w5, if_neg w6] at h1
  refine x_tableOut (tgt := 79) dR_count_1 ho (by decide) ?_
  refine x_bipush (v := -2) dR_count_79 rfl ?_
  -- at 81: .ireturn
  refine x_ireturn dR_count_81 rfl rfl ?_
  exact h1
def sp_R_force : SpT := fun as S I L Post => ∃ t : Int32, rSp [.int t] (fun E => .int (forceS E t)) (fun E => forceU E t) as S I L Post
set_option maxHeartbeats 4000000 in
set_option maxRecDepth 100000 in
theorem c_R_force : Con mR_force 3 0 0 sp_R_force := by
  refine con_of_X rfl fun G as S I L Post hs => ?_
  obtain ⟨t, rfl, rfl, ⟨hok, own⟩, h1⟩ := hs
  dsimp only at h1
  refine ⟨1, Nat.le_of_ble_eq_true rfl, ?_⟩
  show X mR_force G _ S1 I L 0 [.ref 59, .int t, .null] [] Post
  refine x_iload_n dR_force_0 rfl ?_
  refine x_iconst (v := 0) dR_force_1 rfl ?_
  refine x_aload_n dR_force_2 rfl ?_
  refine x_getI fl_R_161 rfl dR_force_3 rfl rfl ?_
  refine x_iconst (v := 1) dR_force_6 rfl ?_
  refine x_isub dR_force_7 ?_
  -- at 8: .invokestatic 151
  refine x_callS_3 c_R_in ok_R_in ml_R_151 dR_force_8 rfl rfl ?_
  refine ⟨_, _, _, rfl, fun a1 => ?_, fun a1 => ?_⟩
  · have a1 : inR t 0 (rE I 29 4 - 1) := a1
    refine x_if_ne (tgt := 17) dR_force_11 (by decide) (fun _ => ?_) (fun h => absurd h (by decide))
    rw [forceS, forceU, if_neg (not_not_intro a1), if_neg (not_not_intro a1)] at h1
    refine x_aload_n dR_force_17 rfl ?_
    refine x_getI fl_R_164 rfl dR_force_18 rfl rfl ?_
    refine x_istoren_2 dR_force_21 rfl rfl ?_
    refine x_aload_n dR_force_22 rfl ?_
    refine x_iload_n dR_force_23 rfl ?_
    refine x_putI fl_R_164 rfl dR_force_24 (by decide) rfl rfl rfl rfl ?_
    refine x_iload_n dR_force_27 rfl ?_
    -- at 28: .ireturn
    refine x_ireturn dR_force_28 rfl rfl ?_
    exact h1 _ L (fun j hj => up2_n _ _ _ (by omega)) (own.up (by decide) (Or.inr (by decide))) (rE_s5 I _)
  · have a1 : ¬ inR t 0 (rE I 29 4 - 1) := a1
    refine x_if_ne (tgt := 17) dR_force_11 (by decide) (fun h => absurd (by decide) h) (fun _ => ?_)
    rw [forceS, forceU, if_pos a1, if_pos a1] at h1
    refine x_bipush (v := -2) dR_force_14 rfl ?_
    -- at 16: .ireturn
    refine x_ireturn dR_force_16 rfl rfl ?_
    exact h1 I L (fun _ _ => rfl) own rfl
def sp_R_move : SpT := fun as S I L Post => ∃ p u : Int32, rSp [.int p, .int u] (fun E => .int (moveS E p u)) (fun E => moveU E p u) as S I L Post
set_option maxHeartbeats 4000000 in
set_option maxRecDepth 100000 in
theorem c_R_move : Con mR_move 4 0 0 sp_R_move := by
  refine con_of_X rfl fun G as S I L Post hs => ?_
  obtain ⟨p, u, rfl, rfl, ⟨hok, own⟩, h1⟩ := hs
  dsimp only at h1
  refine ⟨1, Nat.le_of_ble_eq_true rfl, ?_⟩
  show X mR_move G _ S1 I L 0 [.ref 59, .int p, .int u, .null] [] Post
  have hn : I 59 3 = nI (pN (rE I)) := hok.1.1
  have h8 := hok.1.2.1
  refine x_aload_n dR_move_0 rfl ?_
  refine x_iload_n dR_move_1 rfl ?_
  -- at 2: .invokevirtual 230
  refine x_callV_1 c_R_isOne ok_R_isOne ml_R_230 dR_move_2 rfl rfl rfl rfl rfl ?_
  refine ⟨_, rfl, rfl, fun a1 => ?_, fun a1 => ?_⟩
  · have a1 : inR p 0 (rE I 29 1 - 1) := a1
    refine x_if_ne (tgt := 11) dR_move_5 (by decide) (fun _ => ?_) (fun h => absurd h (by decide))
    rw [moveS, moveU, if_neg (not_not_intro a1), if_neg (not_not_intro a1)] at h1
    rw [show rE I 29 1 = nI (pN (rE I)) from hn] at a1
    obtain ⟨k, hk, rfl⟩ := has_nat (by omega) a1
    rw [cl_nI (by omega)] at h1
    refine x_iload_n dR_move_11 rfl ?_
    refine x_iconst (v := -1) dR_move_12 rfl ?_
    refine x_iconst (v := 5) dR_move_13 rfl ?_
    -- at 14: .invokestatic 151
    refine x_callS_3 c_R_in ok_R_in ml_R_151 dR_move_14 rfl rfl ?_
    refine ⟨_, _, _, rfl, fun a2 => ?_, fun a2 => ?_⟩
    · have a2 : inR u (-1) 5 := a2
      refine x_if_ne (tgt := 23) dR_move_17 (by decide) (fun _ => ?_) (fun h => absurd h (by decide))
      rw [if_neg (not_not_intro a2), if_neg (not_not_intro a2)] at h1
      refine x_aload_n dR_move_23 rfl ?_
      refine x_getR fl_R_41 rfl dR_move_24 rfl rfl rfl ?_
      refine x_iload_n dR_move_27 rfl ?_
      refine x_ialdJ (j := k) dR_move_28 rfl rfl (by first | rfl | (simp only [← nI_add, ← pk_mul]; rfl)) (by omega) ?_
      refine x_istoren_3 dR_move_29 rfl rfl ?_
      refine x_aload_n dR_move_30 rfl ?_
      refine x_getR fl_R_41 rfl dR_move_31 rfl rfl rfl ?_
      refine x_iload_n dR_move_34 rfl ?_
      refine x_iload_n dR_move_35 rfl ?_
      refine x_iastJ (j := k) dR_move_36 rfl rfl (by first | rfl | (simp only [← nI_add, ← pk_mul]; rfl)) (by omega) ?_
      refine x_iload_n dR_move_37 rfl ?_
      -- at 38: .ireturn
      refine x_ireturn dR_move_38 rfl rfl ?_
      have e9 : rE I 9 k = I 69 k := mk_lt hk
      rw [e9] at h1
      exact h1 _ L (fun j hj => up2_n _ _ _ (by omega)) (own.up (by decide) (Or.inl (by decide))) (rE_u9 I _ hk)
    · have a2 : ¬ inR u (-1) 5 := a2
      refine x_if_ne (tgt := 23) dR_move_17 (by decide) (fun h => absurd (by decide) h) (fun _ => ?_)
      rw [if_pos a2, if_pos a2] at h1
      refine x_bipush (v := -7) dR_move_20 rfl ?_
      -- at 22: .ireturn
      refine x_ireturn dR_move_22 rfl rfl ?_
      exact h1 I L (fun _ _ => rfl) own rfl
  · have a1 : ¬ inR p 0 (rE I 29 1 - 1) := a1
    refine x_if_ne (tgt := 11) dR_move_5 (by decide) (fun h => absurd (by decide) h) (fun _ => ?_)
    rw [moveS, moveU, if_pos a1, if_pos a1] at h1
    refine x_bipush (v := -5) dR_move_8 rfl ?_
    -- at 10: .ireturn
    refine x_ireturn dR_move_10 rfl rfl ?_
    exact h1 I L (fun _ _ => rfl) own rfl
end
section
-- 62.r2
/-! the reference: people, promises, sayings -/
def rV (I : IM) : IM := fun a => match a with
  | 0 => I 60 | 1 => I 61 | 2 => I 62 | 3 => I 63 | 4 => I 64 | 5 => I 65 | 6 => I 66 | 7 => I 67 | 8 => I 68
  | 9 => I 69 | 10 => I 70 | 11 => I 71 | 12 => I 72 | 13 => I 73
  | 14 => I 74 | 15 => I 75 | 16 => I 76 | 17 => I 77 | _ => fun _ => 0
theorem rVE (I : IM) : VEq (rV I) (rE I) (pN (rE I)) (sN (rE I)) := by
  refine ⟨fun a ha h9 => ?_, fun p hp => ?_, fun s hs => ⟨?_, ?_, ?_, ?_⟩⟩
  · rcases (show a = 0 ∨ a = 1 ∨ a = 2 ∨ a = 3 ∨ a = 4 ∨ a = 5 ∨ a = 6 ∨ a = 7 ∨ a = 8 ∨ a = 10 ∨ a = 11 ∨ a = 12 ∨ a = 13 by omega) with rfl | rfl | rfl | rfl | rfl | rfl | rfl | rfl | rfl | rfl | rfl | rfl | rfl <;> rfl
  · exact (mk_lt hp).symm
  · exact (mk_lt hs).symm
  · exact (mk_lt hs).symm
  · exact (mk_lt hs).symm
  · exact (mk_lt hs).symm
theorem perV_of {E V : IM} {n m : Nat} (h : iA E) (hn : n = pN E) (hv : VEq V E n m) {p : Nat} (hp : p < n) : PerV V p := by
  subst hn
  obtain ⟨x1, x2, x3, x4, x5, x6, x7, x8⟩ := h.2.2 p hp
  unfold PerV
  rw [hv.1 2 (by omega) (by omega), hv.1 3 (by omega) (by omega), hv.1 5 (by omega) (by omega), hv.2.1 p hp]
  exact ⟨x1, x2, x4, x8⟩
theorem sayV_of {E V : IM} {n m : Nat} (hq : qN E ≤ 8) (h : iC E) (hm : m = sN E) (hv : VEq V E n m) {s : Nat} (hs : s < m) : SayV V s := by
  subst hm
  obtain ⟨⟨k, hk, e⟩, x2, x3, -⟩ := h.2.2 s hs
  obtain ⟨a14, a15, a16, a17⟩ := hv.2.2 s hs
  unfold SayV
  rw [a14, a15, a16]
  exact ⟨⟨k, by omega, e⟩, x2, x3⟩
theorem in23 {t : Int32} : (2 ≤ t ∧ t ≤ 3) ↔ (t = 2 ∨ t = 3) := by
  constructor
  · intro h
    obtain ⟨k, hk, rfl⟩ := nat_of (n := 3) (by decide) (by decide) h
    rcases (show k = 0 ∨ k = 1 ∨ k = 2 ∨ k = 3 by omega) with rfl | rfl | rfl | rfl
    · exact absurd h.1 (by decide)
    · exact absurd h.1 (by decide)
    · exact Or.inl rfl
    · exact Or.inr rfl
  · rintro (rfl | rfl) <;> decide
theorem div_mo {mo : Int32} (h : rng mo 10) : (if mo = 0 then 1 else mo) = imax 1 mo ∧ ¬ (if mo = 0 then (1 : Int32) else mo) = 0 := by
  obtain ⟨k, hk, rfl⟩ := h
  exact (show ∀ k, k < 10 → (if nI k = 0 then 1 else nI k) = imax 1 (nI k) ∧ ¬ (if nI k = 0 then (1 : Int32) else nI k) = 0 by decide) k hk
def sp_R_whereIs : SpT := fun as S I L Post => ∃ (p : Nat) (t : Int32), as = [.ref 59, .int (nI p), .int t] ∧ S = S1 ∧ p < 8 ∧ PerV (rV I) p ∧ Post (some (.int (whereV (rV I) p t))) S1 I L
set_option maxHeartbeats 4000000 in
set_option maxRecDepth 100000 in
theorem c_R_whereIs : Con mR_whereIs 3 0 0 sp_R_whereIs := by
  refine con_of_X rfl fun G as S I L Post hs => ?_
  obtain ⟨p, t, rfl, rfl, hp, hper, h1⟩ := hs
  obtain ⟨d1, d2⟩ := div_mo hper.2.2.1
  have d1 : (if I 65 p = 0 then 1 else I 65 p) = imax 1 (I 65 p) := d1
  have d2 : ¬ (if I 65 p = 0 then (1 : Int32) else I 65 p) = 0 := d2
  refine ⟨2, Nat.le_of_ble_eq_true rfl, ?_⟩
  show X mR_whereIs G _ S1 I L 0 [.ref 59, .int (nI p), .int t, .null, .null] [] Post
  have at25 : ∀ b : Int32, b = startV (rV I) p → X mR_whereIs G (3, 0, 0) S1 I L 25 [.ref 59, .int (nI p), .int t, .null, .null] [.int b] Post := by
    intro b hb
    have h1 : Post (some (.int (whK (I 62 p) b (I 65 p) t))) S1 I L := by rw [hb]; exact h1
    refine x_istoren_3 dR_whereIs_25 rfl rfl ?_
    refine x_aload_n dR_whereIs_26 rfl ?_
    refine x_getR fl_R_20 rfl dR_whereIs_27 rfl rfl rfl ?_
    refine x_iload_n dR_whereIs_30 rfl ?_
    refine x_ialdJ dR_whereIs_31 rfl rfl rfl (by omega) ?_
    refine x_istore_4 dR_whereIs_32 rfl rfl ?_
    refine x_iload dR_whereIs_34 rfl ?_
    refine x_iconst (v := 3) dR_whereIs_36 rfl ?_
    -- at 37: .if_icmp .ne 14
    have at51 : ¬ (I 62 p = 3 ∧ (t = 2 ∨ t = 3)) → X mR_whereIs G (3, 0, 0) S1 I L 51 [.ref 59, .int (nI p), .int t, .int b, .int (I 62 p)] [] Post := by
      intro hc
      have at69 : (I 62 p = 1 ∨ I 62 p = 3 ∨ I 62 p = 5) → X mR_whereIs G (3, 0, 0) S1 I L 69 [.ref 59, .int (nI p), .int t, .int b, .int (I 62 p)] [] Post := by
        intro hk
        have hu : isU (I 62 p) 1 := hk.elim (fun z => Or.inr (Or.inl z)) (fun z => Or.inr (Or.inr ⟨rfl, z⟩))
        rw [whK, if_pos hu, if_neg hc, ← d1] at h1
        have fin : ∀ x : Int32, x = (if I 65 p = 0 then 1 else I 65 p) → X mR_whereIs G (3, 0, 0) S1 I L 90 [.ref 59, .int (nI p), .int t, .int b, .int (I 62 p)] [.int x, .int t, .int b] Post := by
          intro x hx
          subst hx
          refine x_idiv dR_whereIs_90 d2 ?_
          refine x_iadd dR_whereIs_91 ?_
          refine x_bipush (v := 6) dR_whereIs_92 rfl ?_
          refine x_irem dR_whereIs_94 (by decide) ?_
          refine x_goto (tgt := 99) dR_whereIs_95 (by decide) ?_
          -- at 99: .ireturn
          refine x_ireturn dR_whereIs_99 rfl rfl ?_
          exact h1
        refine x_iload_n dR_whereIs_69 rfl ?_
        refine x_iload_n dR_whereIs_70 rfl ?_
        refine x_aload_n dR_whereIs_71 rfl ?_
        refine x_getR fl_R_29 rfl dR_whereIs_72 rfl rfl rfl ?_
        refine x_iload_n dR_whereIs_75 rfl ?_
        refine x_ialdJ dR_whereIs_76 rfl rfl rfl (by omega) ?_
        -- at 77: .ifCond .ne 7
        refine x_if_ne (tgt := 84) dR_whereIs_77 (by decide) (fun c1 => ?_) (fun c1 => ?_)
        · refine x_aload_n dR_whereIs_84 rfl ?_
          refine x_getR fl_R_29 rfl dR_whereIs_85 rfl rfl rfl ?_
          refine x_iload_n dR_whereIs_88 rfl ?_
          refine x_ialdJ dR_whereIs_89 rfl rfl rfl (by omega) ?_
          -- at 90: .idiv
          exact fin _ (by rw [if_neg c1])
        · refine x_iconst (v := 1) dR_whereIs_80 rfl ?_
          refine x_goto (tgt := 90) dR_whereIs_81 (by decide) ?_
          -- at 90: .idiv
          exact fin _ (by rw [if_pos c1])
      refine x_iload dR_whereIs_51 rfl ?_
      refine x_iconst (v := 1) dR_whereIs_53 rfl ?_
      -- at 54: .if_icmp .eq 15
      refine x_icmp_eq (tgt := 69) dR_whereIs_54 (by decide) (fun c1 => ?_) (fun c1 => ?_)
      · exact at69 (Or.inl c1)
      · refine x_iload dR_whereIs_57 rfl ?_
        refine x_iconst (v := 3) dR_whereIs_59 rfl ?_
        -- at 60: .if_icmp .eq 9
        refine x_icmp_eq (tgt := 69) dR_whereIs_60 (by decide) (fun c2 => ?_) (fun c2 => ?_)
        · exact at69 (Or.inr (Or.inl c2))
        · refine x_iload dR_whereIs_63 rfl ?_
          refine x_iconst (v := 5) dR_whereIs_65 rfl ?_
          -- at 66: .if_icmp .ne 32
          refine x_icmp_ne (tgt := 98) dR_whereIs_66 (by decide) (fun c3 => ?_) (fun c3 => ?_)
          · have hu : ¬ isU (I 62 p) 1 := fun z => z.elim (fun y => absurd y (by decide)) (fun y => y.elim c1 (fun x => x.2.elim c2 c3))
            rw [whK, if_neg hu] at h1
            refine x_iload_n dR_whereIs_98 rfl ?_
            -- at 99: .ireturn
            refine x_ireturn dR_whereIs_99 rfl rfl ?_
            exact h1
          · exact at69 (Or.inr (Or.inr c3))
    refine x_icmp_ne (tgt := 51) dR_whereIs_37 (by decide) (fun c1 => ?_) (fun c1 => ?_)
    · exact at51 (fun z => c1 z.1)
    · refine x_iload_n dR_whereIs_40 rfl ?_
      refine x_iconst (v := 2) dR_whereIs_41 rfl ?_
      refine x_iconst (v := 3) dR_whereIs_42 rfl ?_
      -- at 43: .invokestatic 151
      refine x_callS_3 c_R_in ok_R_in ml_R_151 dR_whereIs_43 rfl rfl ?_
      refine ⟨t, 2, 3, rfl, fun q => ?_, fun q => ?_⟩
      · have hu : isU (I 62 p) 1 := Or.inr (Or.inr ⟨rfl, Or.inl c1⟩)
        rw [whK, if_pos hu, if_pos ⟨c1, in23.mp q⟩] at h1
        refine x_if_eq (tgt := 51) dR_whereIs_46 (by decide) (fun h => absurd h (by decide)) (fun _ => ?_)
        refine x_iconst (v := 0) dR_whereIs_49 rfl ?_
        -- at 50: .ireturn
        refine x_ireturn dR_whereIs_50 rfl rfl ?_
        exact h1
      · refine x_if_eq (tgt := 51) dR_whereIs_46 (by decide) (fun _ => ?_) (fun h => absurd (by decide) h)
        exact at51 (fun z => q (in23.mpr z.2))
  refine x_aload_n dR_whereIs_0 rfl ?_
  refine x_getR fl_R_41 rfl dR_whereIs_1 rfl rfl rfl ?_
  refine x_iload_n dR_whereIs_4 rfl ?_
  refine x_ialdJ dR_whereIs_5 rfl rfl rfl (by omega) ?_
  refine x_iconst (v := -1) dR_whereIs_6 rfl ?_
  -- at 7: .if_icmp .ne 12
  refine x_icmp_ne (tgt := 19) dR_whereIs_7 (by decide) (fun c1 => ?_) (fun c1 => ?_)
  · refine x_aload_n dR_whereIs_19 rfl ?_
    refine x_getR fl_R_41 rfl dR_whereIs_20 rfl rfl rfl ?_
    refine x_iload_n dR_whereIs_23 rfl ?_
    refine x_ialdJ dR_whereIs_24 rfl rfl rfl (by omega) ?_
    -- at 25: .istore_n 3
    refine at25 _ ?_
    unfold startV
    exact (if_neg (show ¬ rV I 9 p = -1 from c1)).symm
  · refine x_aload_n dR_whereIs_10 rfl ?_
    refine x_getR fl_R_23 rfl dR_whereIs_11 rfl rfl rfl ?_
    refine x_iload_n dR_whereIs_14 rfl ?_
    refine x_ialdJ dR_whereIs_15 rfl rfl rfl (by omega) ?_
    refine x_goto (tgt := 25) dR_whereIs_16 (by decide) ?_
    -- at 25: .istore_n 3
    refine at25 _ ?_
    unfold startV
    exact (if_pos (show rV I 9 p = -1 from c1)).symm
def rFadd (I : IM) (n : Nat) (k w ws ld : Int32) : IM := up2 (up2 (up2 (up2 (up2 (up2 (up2 (up2 (up2 I 62 n k) 63 n (w / 100)) 64 n (rem (w / 10) 10)) 65 n (rem w 10)) 66 n ws) 67 n (ld / 100)) 68 n (rem ld 100)) 69 n (-1)) 59 3 (nI n + 1)
theorem rE_addP (I : IM) (k w ws ld : Int32) (hn : I 59 3 = nI (pN (rE I))) (h8 : pN (rE I) ≤ 8) : rE (rFadd I (pN (rE I)) k w ws ld) = addP (rE I) (pN (rE I)) k w ws ld := by
  have e0 : cl (I 59 3) = pN (rE I) := rfl
  generalize pN (rE I) = n at hn h8 e0 ⊢
  unfold rFadd addP
  rw [rE_n1, show nI n + 1 = nI (n + 1) from nI_1 n, cl_nI (by omega), show up2 (up2 (up2 (up2 (up2 (up2 (up2 (up2 I 62 n k) 63 n (w / 100)) 64 n (rem (w / 10) 10)) 65 n (rem w 10)) 66 n ws) 67 n (ld / 100)) 68 n (rem ld 100)) 69 n (-1) 69 = up1 (I 69) n (-1) by simp only [up2_n, up2_s, ne_eq, Nat.reduceEqDiff, not_false_eq_true], mk_up]
  rw [show ∀ J : IM, rE (up2 J 69 n (-1)) = upr (rE J) 9 (mk (cl (J 59 3)) (up1 (J 69) n (-1))) from fun J => rE_9 J _]
  rw [rE_u8, rE_u7, rE_u6, rE_u5, rE_u4, rE_u3, rE_u2]
  funext a
  by_cases h9 : a = 9
  · subst h9
    simp only [up2_n, up2_s, ne_eq, Nat.reduceEqDiff, not_false_eq_true, upr_s, upr_n]
    rw [show rE I 9 = mk (cl (I 59 3)) (I 69) from rfl, e0]
  · by_cases h29 : a = 29
    · subst h29
      simp only [up2_n, up2_s, ne_eq, Nat.reduceEqDiff, not_false_eq_true, upr_s, upr_n]
    · rw [upr_n _ _ h9, up2_n _ _ _ h29, upr_n _ _ h9, up2_n _ _ _ h29, up2_n _ _ _ h9]
theorem perC_w {w : Int32} (h : 0 ≤ w) : w / 100 ≤ 5 ↔ w ≤ 599 := by
  obtain ⟨k, hk, rfl⟩ := nat_any h
  have e : nI k / 100 = nI (k / 100) := pk_div (d := 100) hk (by omega) (by omega)
  rw [e]
  constructor
  · intro q
    by_cases z : k ≤ 599
    · exact nI_le (b := 599) z (by omega)
    · exact absurd q (nI_ge (a := 5) (by omega) (by omega))
  · intro q
    by_cases z : k ≤ 599
    · exact nI_le (b := 5) (by omega) (by omega)
    · exact absurd q (nI_ge (a := 599) (by omega) (by omega))
theorem perC_l {w : Int32} (h : 0 ≤ w) : (1 ≤ w / 100 ∧ w / 100 ≤ 9) ↔ (100 ≤ w ∧ w ≤ 999) := by
  obtain ⟨k, hk, rfl⟩ := nat_any h
  have e : nI k / 100 = nI (k / 100) := pk_div (d := 100) hk (by omega) (by omega)
  rw [e]
  constructor
  · rintro ⟨q1, q2⟩
    by_cases z : 100 ≤ k ∧ k ≤ 999
    · exact ⟨nI_le (a := 100) z.1 (by omega), nI_le (b := 999) z.2 (by omega)⟩
    · by_cases y : 100 ≤ k
      · exact absurd q2 (nI_ge (a := 9) (by omega) (by omega))
      · exact absurd q1 (nI_ge (b := 1) (by omega) (by omega))
  · rintro ⟨q1, q2⟩
    by_cases z : 100 ≤ k ∧ k ≤ 999
    · exact ⟨nI_le (a := 1) (by omega) (by omega), nI_le (b := 9) (by omega) (by omega)⟩
    · by_cases y : 100 ≤ k
      · exact absurd q2 (nI_ge (a := 999) (by omega) (by omega))
      · exact absurd q1 (nI_ge (b := 100) (by omega) (by omega))
def sp_R_person : SpT := fun as S I L Post => ∃ k w ws ld : Int32, rSp [.int k, .int w, .int ws, .int ld] (fun E => .int (personS E k w ws ld)) (fun E => personU E k w ws ld) as S I L Post
set_option maxHeartbeats 4000000 in
set_option maxRecDepth 100000 in
theorem c_R_person : Con mR_person 3 0 0 sp_R_person := by
  refine con_of_X rfl fun G as S I L Post hs => ?_
  obtain ⟨k, w, ws, ld, rfl, rfl, ⟨hok, own⟩, h1⟩ := hs
  dsimp only at h1
  refine ⟨1, Nat.le_of_ble_eq_true rfl, ?_⟩
  show X mR_person G _ S1 I L 0 [.ref 59, .int k, .int w, .int ws, .int ld, .null] [] Post
  have hn : I 59 3 = nI (pN (rE I)) := hok.1.1
  have h8 := hok.1.2.1
  have bad : ¬ perC k w ws ld → ∀ a5 : Value, X mR_person G (3, 0, 0) S1 I L 63 [.ref 59, .int k, .int w, .int ws, .int ld, a5] [] Post := by
    intro hc a5
    rw [personS, personU, if_pos hc, if_pos hc] at h1
    refine x_bipush (v := -2) dR_person_63 rfl ?_
    -- at 65: .ireturn
    refine x_ireturn dR_person_65 rfl rfl ?_
    exact h1 I L (fun _ _ => rfl) own rfl
  have at47 : ∀ x : Int32, (x = 1 ∧ (inR w 0 599 ∧ inR ws 0 255 ∧ inR ld 100 999)) ∨ (x = 0 ∧ ¬ (inR w 0 599 ∧ inR ws 0 255 ∧ inR ld 100 999)) → X mR_person G (3, 0, 0) S1 I L 47 [.ref 59, .int k, .int w, .int ws, .int ld, .null] [.int x] Post := by
    intro x hx
    refine x_istore_5 dR_person_47 rfl rfl ?_
    refine x_iload_n dR_person_49 rfl ?_
    refine x_iconst (v := 0) dR_person_50 rfl ?_
    refine x_iconst (v := 5) dR_person_51 rfl ?_
    -- at 52: .invokestatic 151
    refine x_callS_3 c_R_in ok_R_in ml_R_151 dR_person_52 rfl rfl ?_
    refine ⟨_, _, _, rfl, fun a1 => ?_, fun a1 => ?_⟩
    · have a1 : inR k 0 5 := a1
      refine x_if_eq (tgt := 63) dR_person_55 (by decide) (fun h => absurd h (by decide)) (fun _ => ?_)
      refine x_iload dR_person_58 rfl ?_
      -- at 60: .ifCond .ne 6
      rcases hx with ⟨rfl, hx⟩ | ⟨rfl, hx⟩
      · refine x_if_ne (tgt := 66) dR_person_60 (by decide) (fun _ => ?_) (fun h => absurd h (by decide))
        have hc : perC k w ws ld := ⟨a1, hx⟩
        rw [personS, personU, if_neg (not_not_intro hc), if_neg (not_not_intro hc)] at h1
        refine x_aload_n dR_person_66 rfl ?_
        refine x_getI fl_R_148 rfl dR_person_67 rfl rfl ?_
        refine x_bipush (v := 8) dR_person_70 rfl ?_
        -- at 72: .if_icmp .ne 6
        rw [hn]
        refine x_icmp_ne (tgt := 78) dR_person_72 (by decide) (fun c1 => ?_) (fun c1 => ?_)
        · have hlt : pN (rE I) < 8 := by
            by_cases z : pN (rE I) = 8
            · rw [z] at c1
              exact absurd rfl c1
            · omega
          have hl : rE I 29 1 < 8 := by
            rw [show rE I 29 1 = nI (pN (rE I)) from hn]
            exact (nI_ltI (b := 8) (by omega) (by omega)).mpr hlt
          rw [if_neg (not_not_intro hl), if_neg (not_not_intro hl)] at h1
          refine x_aload_n dR_person_78 rfl ?_
          refine x_getR fl_R_20 rfl dR_person_79 rfl rfl rfl ?_
          refine x_aload_n dR_person_82 rfl ?_
          refine x_getI fl_R_148 rfl dR_person_83 rfl rfl ?_
          -- at 86: .iload_n 1
          rw [hn]
          refine x_iload_n dR_person_86 rfl ?_
          refine x_iastJ (j := pN (rE I)) dR_person_87 rfl rfl (by first | rfl | (simp only [← nI_add, ← pk_mul]; rfl)) (by omega) ?_
          refine x_aload_n dR_person_88 rfl ?_
          refine x_getR fl_R_23 rfl dR_person_89 rfl rfl rfl ?_
          refine x_aload_n dR_person_92 rfl ?_
          refine x_getI fl_R_148 rfl dR_person_93 rfl rfl ?_
          -- at 96: .iload_n 2
          simp only [up2_n, up2_s, ne_eq, Nat.reduceEqDiff, not_false_eq_true, hn]
          refine x_iload_n dR_person_96 rfl ?_
          refine x_bipush (v := 100) dR_person_97 rfl ?_
          refine x_idiv dR_person_99 (by decide) ?_
          refine x_iastJ (j := pN (rE I)) dR_person_100 rfl rfl (by first | rfl | (simp only [← nI_add, ← pk_mul]; rfl)) (by omega) ?_
          refine x_aload_n dR_person_101 rfl ?_
          refine x_getR fl_R_26 rfl dR_person_102 rfl rfl rfl ?_
          refine x_aload_n dR_person_105 rfl ?_
          refine x_getI fl_R_148 rfl dR_person_106 rfl rfl ?_
          -- at 109: .iload_n 2
          simp only [up2_n, up2_s, ne_eq, Nat.reduceEqDiff, not_false_eq_true, hn]
          refine x_iload_n dR_person_109 rfl ?_
          refine x_bipush (v := 10) dR_person_110 rfl ?_
          refine x_idiv dR_person_112 (by decide) ?_
          refine x_bipush (v := 10) dR_person_113 rfl ?_
          refine x_irem dR_person_115 (by decide) ?_
          refine x_iastJ (j := pN (rE I)) dR_person_116 rfl rfl (by first | rfl | (simp only [← nI_add, ← pk_mul]; rfl)) (by omega) ?_
          refine x_aload_n dR_person_117 rfl ?_
          refine x_getR fl_R_29 rfl dR_person_118 rfl rfl rfl ?_
          refine x_aload_n dR_person_121 rfl ?_
          refine x_getI fl_R_148 rfl dR_person_122 rfl rfl ?_
          -- at 125: .iload_n 2
          simp only [up2_n, up2_s, ne_eq, Nat.reduceEqDiff, not_false_eq_true, hn]
          refine x_iload_n dR_person_125 rfl ?_
          refine x_bipush (v := 10) dR_person_126 rfl ?_
          refine x_irem dR_person_128 (by decide) ?_
          refine x_iastJ (j := pN (rE I)) dR_person_129 rfl rfl (by first | rfl | (simp only [← nI_add, ← pk_mul]; rfl)) (by omega) ?_
          refine x_aload_n dR_person_130 rfl ?_
          refine x_getR fl_R_32 rfl dR_person_131 rfl rfl rfl ?_
          refine x_aload_n dR_person_134 rfl ?_
          refine x_getI fl_R_148 rfl dR_person_135 rfl rfl ?_
          -- at 138: .iload_n 3
          simp only [up2_n, up2_s, ne_eq, Nat.reduceEqDiff, not_false_eq_true, hn]
          refine x_iload_n dR_person_138 rfl ?_
          refine x_iastJ (j := pN (rE I)) dR_person_139 rfl rfl (by first | rfl | (simp only [← nI_add, ← pk_mul]; rfl)) (by omega) ?_
          refine x_aload_n dR_person_140 rfl ?_
          refine x_getR fl_R_35 rfl dR_person_141 rfl rfl rfl ?_
          refine x_aload_n dR_person_144 rfl ?_
          refine x_getI fl_R_148 rfl dR_person_145 rfl rfl ?_
          -- at 148: .iload 4
          simp only [up2_n, up2_s, ne_eq, Nat.reduceEqDiff, not_false_eq_true, hn]
          refine x_iload dR_person_148 rfl ?_
          refine x_bipush (v := 100) dR_person_150 rfl ?_
          refine x_idiv dR_person_152 (by decide) ?_
          refine x_iastJ (j := pN (rE I)) dR_person_153 rfl rfl (by first | rfl | (simp only [← nI_add, ← pk_mul]; rfl)) (by omega) ?_
          refine x_aload_n dR_person_154 rfl ?_
          refine x_getR fl_R_38 rfl dR_person_155 rfl rfl rfl ?_
          refine x_aload_n dR_person_158 rfl ?_
          refine x_getI fl_R_148 rfl dR_person_159 rfl rfl ?_
          -- at 162: .iload 4
          simp only [up2_n, up2_s, ne_eq, Nat.reduceEqDiff, not_false_eq_true, hn]
          refine x_iload dR_person_162 rfl ?_
          refine x_bipush (v := 100) dR_person_164 rfl ?_
          refine x_irem dR_person_166 (by decide) ?_
          refine x_iastJ (j := pN (rE I)) dR_person_167 rfl rfl (by first | rfl | (simp only [← nI_add, ← pk_mul]; rfl)) (by omega) ?_
          refine x_aload_n dR_person_168 rfl ?_
          refine x_getR fl_R_41 rfl dR_person_169 rfl rfl rfl ?_
          refine x_aload_n dR_person_172 rfl ?_
          refine x_getI fl_R_148 rfl dR_person_173 rfl rfl ?_
          -- at 176: .iconst (-1)
          simp only [up2_n, up2_s, ne_eq, Nat.reduceEqDiff, not_false_eq_true, hn]
          refine x_iconst (v := -1) dR_person_176 rfl ?_
          refine x_iastJ (j := pN (rE I)) dR_person_177 rfl rfl (by first | rfl | (simp only [← nI_add, ← pk_mul]; rfl)) (by omega) ?_
          refine x_aload_n dR_person_178 rfl ?_
          refine x_dup dR_person_179 rfl ?_
          refine x_getI fl_R_148 rfl dR_person_180 rfl rfl ?_
          -- at 183: .iconst 1
          simp only [up2_n, up2_s, ne_eq, Nat.reduceEqDiff, not_false_eq_true, hn]
          refine x_iconst (v := 1) dR_person_183 rfl ?_
          refine x_iadd dR_person_184 ?_
          refine x_putI fl_R_148 rfl dR_person_185 (by decide) rfl rfl rfl rfl ?_
          refine x_aload_n dR_person_188 rfl ?_
          refine x_getI fl_R_148 rfl dR_person_189 rfl rfl ?_
          -- at 192: .iconst 1
          simp only [up2_n, up2_s, ne_eq, Nat.reduceEqDiff, not_false_eq_true, up1, if_true]
          refine x_iconst (v := 1) dR_person_192 rfl ?_
          refine x_isub dR_person_193 ?_
          -- at 194: .ireturn
          refine x_eqi (y := nI (pN (rE I))) ?_ ?_
          · rw [nI_1]
            exact pk_sub (b := 1) (by omega)
          refine x_ireturn dR_person_194 rfl rfl ?_
          have := h1 (rFadd I (pN (rE I)) k w ws ld) L (fun j hj => by unfold rFadd; rw [up2_n _ _ _ (by omega), up2_n _ _ _ (by omega), up2_n _ _ _ (by omega), up2_n _ _ _ (by omega), up2_n _ _ _ (by omega), up2_n _ _ _ (by omega), up2_n _ _ _ (by omega), up2_n _ _ _ (by omega), up2_n _ _ _ (by omega)])
            (((((((((own.up (by decide) (Or.inl (by decide))).up (by decide) (Or.inl (by decide))).up (by decide) (Or.inl (by decide))).up (by decide) (Or.inl (by decide))).up (by decide) (Or.inl (by decide))).up (by decide) (Or.inl (by decide))).up (by decide) (Or.inl (by decide))).up (by decide) (Or.inl (by decide))).up (by decide) (Or.inr (by decide))) (rE_addP I k w ws ld hn h8)
          rw [show rE I 29 1 = nI (pN (rE I)) from hn] at this
          exact this
        · have hl : ¬ rE I 29 1 < 8 := by
            rw [show rE I 29 1 = nI (pN (rE I)) from hn, c1]
            decide
          rw [if_pos hl, if_pos hl] at h1
          refine x_bipush (v := -4) dR_person_75 rfl ?_
          -- at 77: .ireturn
          refine x_ireturn dR_person_77 rfl rfl ?_
          exact h1 I L (fun _ _ => rfl) own rfl
      · refine x_if_ne (tgt := 66) dR_person_60 (by decide) (fun h => absurd rfl h) (fun _ => ?_)
        exact bad (fun z => hx z.2) _
    · refine x_if_eq (tgt := 63) dR_person_55 (by decide) (fun _ => ?_) (fun h => absurd (by decide) h)
      exact bad (fun z => a1 z.1) _
  have bad46 : ¬ (inR w 0 599 ∧ inR ws 0 255 ∧ inR ld 100 999) → X mR_person G (3, 0, 0) S1 I L 46 [.ref 59, .int k, .int w, .int ws, .int ld, .null] [] Post := by
    intro hc
    refine x_iconst (v := 0) dR_person_46 rfl ?_
    -- at 47: .istore 5
    exact at47 0 (Or.inr ⟨rfl, hc⟩)
  refine x_iload_n dR_person_0 rfl ?_
  -- at 1: .ifCond .lt 45
  refine x_if_lt (tgt := 46) dR_person_1 (by decide) (fun c1 => ?_) (fun c1 => ?_)
  · exact bad46 (fun z => absurd z.1.1 (Int32.not_le.mpr c1))
  · have c1 : 0 ≤ w := Int32.not_lt.mp c1
    refine x_iload_n dR_person_4 rfl ?_
    refine x_bipush (v := 100) dR_person_5 rfl ?_
    refine x_idiv dR_person_7 (by decide) ?_
    refine x_iconst (v := 5) dR_person_8 rfl ?_
    -- at 9: .if_icmp .gt 37
    refine x_icmp_gt (tgt := 46) dR_person_9 (by decide) (fun c2 => ?_) (fun c2 => ?_)
    · exact bad46 (fun z => absurd ((perC_w c1).mpr z.1.2) (Int32.not_le.mpr c2))
    · have hw : inR w 0 599 := ⟨c1, (perC_w c1).mp (Int32.not_lt.mp c2)⟩
      refine x_iload_n dR_person_12 rfl ?_
      refine x_iconst (v := 0) dR_person_13 rfl ?_
      refine x_sipush (v := 255) dR_person_14 rfl ?_
      -- at 17: .invokestatic 151
      refine x_callS_3 c_R_in ok_R_in ml_R_151 dR_person_17 rfl rfl ?_
      refine ⟨_, _, _, rfl, fun a3 => ?_, fun a3 => ?_⟩
      · have a3 : inR ws 0 255 := a3
        refine x_if_eq (tgt := 46) dR_person_20 (by decide) (fun h => absurd h (by decide)) (fun _ => ?_)
        refine x_iload dR_person_23 rfl ?_
        -- at 25: .ifCond .lt 21
        refine x_if_lt (tgt := 46) dR_person_25 (by decide) (fun c4 => ?_) (fun c4 => ?_)
        · exact bad46 (fun z => absurd (Int32.le_trans (by decide) z.2.2.1) (Int32.not_le.mpr c4))
        · have c4 : 0 ≤ ld := Int32.not_lt.mp c4
          refine x_iload dR_person_28 rfl ?_
          refine x_bipush (v := 100) dR_person_30 rfl ?_
          refine x_idiv dR_person_32 (by decide) ?_
          refine x_iconst (v := 1) dR_person_33 rfl ?_
          refine x_bipush (v := 9) dR_person_34 rfl ?_
          -- at 36: .invokestatic 151
          refine x_callS_3 c_R_in ok_R_in ml_R_151 dR_person_36 rfl rfl ?_
          refine ⟨_, _, _, rfl, fun a5 => ?_, fun a5 => ?_⟩
          · refine x_if_eq (tgt := 46) dR_person_39 (by decide) (fun h => absurd h (by decide)) (fun _ => ?_)
            refine x_iconst (v := 1) dR_person_42 rfl ?_
            refine x_goto (tgt := 47) dR_person_43 (by decide) ?_
            -- at 47: .istore 5
            exact at47 1 (Or.inl ⟨rfl, hw, a3, (perC_l c4).mp a5⟩)
          · refine x_if_eq (tgt := 46) dR_person_39 (by decide) (fun _ => ?_) (fun h => absurd (by decide) h)
            exact bad46 (fun z => a5 ((perC_l c4).mpr z.2.2))
      · refine x_if_eq (tgt := 46) dR_person_20 (by decide) (fun _ => ?_) (fun h => absurd (by decide) h)
        exact bad46 (fun z => a3 z.2.1)
def sp_R_told : SpT := fun as S I L Post => ∃ p w : Int32, rSp [.int p, .int w] (fun E => .int (toldS E p w)) (fun E => E) as S I L Post
set_option maxHeartbeats 4000000 in
set_option maxRecDepth 100000 in
theorem c_R_told : Con mR_told 4 0 0 sp_R_told := by
  refine con_of_X rfl fun G as S I L Post hs => ?_
  obtain ⟨p, w, rfl, rfl, ⟨hok, own⟩, h1⟩ := hs
  dsimp only at h1
  refine ⟨0, Nat.le_of_ble_eq_true rfl, ?_⟩
  show X mR_told G _ S1 I L 0 [.ref 59, .int p, .int w] [] Post
  have hn : I 59 3 = nI (pN (rE I)) := hok.1.1
  have h8 := hok.1.2.1
  have h1 := h1 I L (fun _ _ => rfl) own rfl
  refine x_aload_n dR_told_0 rfl ?_
  refine x_iload_n dR_told_1 rfl ?_
  -- at 2: .invokevirtual 230
  refine x_callV_1 c_R_isOne ok_R_isOne ml_R_230 dR_told_2 rfl rfl rfl rfl rfl ?_
  refine ⟨_, rfl, rfl, fun a1 => ?_, fun a1 => ?_⟩
  · have a1 : inR p 0 (rE I 29 1 - 1) := a1
    refine x_if_ne (tgt := 11) dR_told_5 (by decide) (fun _ => ?_) (fun h => absurd h (by decide))
    rw [toldS, if_neg (not_not_intro a1)] at h1
    rw [show rE I 29 1 = nI (pN (rE I)) from hn] at a1
    obtain ⟨k, hk, rfl⟩ := has_nat (by omega) a1
    rw [cl_nI (by omega)] at h1
    refine x_iload_n dR_told_11 rfl ?_
    -- at 12: .tableswitch 93 0 6 #[44, 51, 58, 65, 72, 79, 86]
    by_cases w0 : w = 0
    · subst w0
      refine x_tableIn (tgt := 56) dR_told_12 (by decide) (by decide) rfl (by decide) ?_
      refine x_aload_n dR_told_56 rfl ?_
      refine x_getR fl_R_20 rfl dR_told_57 rfl rfl rfl ?_
      refine x_iload_n dR_told_60 rfl ?_
      refine x_ialdJ (j := k) dR_told_61 rfl rfl (by first | rfl | (simp only [← nI_add, ← pk_mul]; rfl)) (by omega) ?_
      -- at 62: .ireturn
      refine x_ireturn dR_told_62 rfl rfl ?_
      exact h1
    by_cases w1 : w = 1
    · subst w1
      refine x_tableIn (tgt := 63) dR_told_12 (by decide) (by decide) rfl (by decide) ?_
      refine x_aload_n dR_told_63 rfl ?_
      refine x_getR fl_R_23 rfl dR_told_64 rfl rfl rfl ?_
      refine x_iload_n dR_told_67 rfl ?_
      refine x_ialdJ (j := k) dR_told_68 rfl rfl (by first | rfl | (simp only [← nI_add, ← pk_mul]; rfl)) (by omega) ?_
      -- at 69: .ireturn
      refine x_ireturn dR_told_69 rfl rfl ?_
      exact h1
    by_cases w2 : w = 2
    · subst w2
      refine x_tableIn (tgt := 70) dR_told_12 (by decide) (by decide) rfl (by decide) ?_
      refine x_aload_n dR_told_70 rfl ?_
      refine x_getR fl_R_26 rfl dR_told_71 rfl rfl rfl ?_
      refine x_iload_n dR_told_74 rfl ?_
      refine x_ialdJ (j := k) dR_told_75 rfl rfl (by first | rfl | (simp only [← nI_add, ← pk_mul]; rfl)) (by omega) ?_
      -- at 76: .ireturn
      refine x_ireturn dR_told_76 rfl rfl ?_
      exact h1
    by_cases w3 : w = 3
    · subst w3
      refine x_tableIn (tgt := 77) dR_told_12 (by decide) (by decide) rfl (by decide) ?_
      refine x_aload_n dR_told_77 rfl ?_
      refine x_getR fl_R_29 rfl dR_told_78 rfl rfl rfl ?_
      refine x_iload_n dR_told_81 rfl ?_
      refine x_ialdJ (j := k) dR_told_82 rfl rfl (by first | rfl | (simp only [← nI_add, ← pk_mul]; rfl)) (by omega) ?_
      -- at 83: .ireturn
      refine x_ireturn dR_told_83 rfl rfl ?_
      exact h1
    by_cases w4 : w = 4
    · subst w4
      refine x_tableIn (tgt := 84) dR_told_12 (by decide) (by decide) rfl (by decide) ?_
      refine x_aload_n dR_told_84 rfl ?_
      refine x_getR fl_R_32 rfl dR_told_85 rfl rfl rfl ?_
      refine x_iload_n dR_told_88 rfl ?_
      refine x_ialdJ (j := k) dR_told_89 rfl rfl (by first | rfl | (simp only [← nI_add, ← pk_mul]; rfl)) (by omega) ?_
      -- at 90: .ireturn
      refine x_ireturn dR_told_90 rfl rfl ?_
      exact h1
    by_cases w5 : w = 5
    · subst w5
      refine x_tableIn (tgt := 91) dR_told_12 (by decide) (by decide) rfl (by decide) ?_
      refine x_aload_n dR_told_91 rfl ?_
      refine x_getR fl_R_35 rfl dR_told_92 rfl rfl rfl ?_
      refine x_iload_n dR_told_95 rfl ?_
      refine x_ialdJ (j := k) dR_told_96 rfl rfl (by first | rfl | (simp only [← nI_add, ← pk_mul]; rfl)) (by omega) ?_
      -- at 97: .ireturn
      refine x_ireturn dR_told_97 rfl rfl ?_
      exact h1
    by_cases w6 : w = 6
    · subst w6
      refine x_tableIn (tgt := 98) dR_told_12 (by decide) (by decide) rfl (by decide) ?_
      refine x_aload_n dR_told_98 rfl ?_
      refine x_getR fl_R_38 rfl dR_told_99 rfl rfl rfl ?_
      refine x_iload_n dR_told_102 rfl ?_
      refine x_ialdJ (j := k) dR_told_103 rfl rfl (by first | rfl | (simp only [← nI_add, ← pk_mul]; rfl)) (by omega) ?_
      -- at 104: .ireturn
      refine x_ireturn dR_told_104 rfl rfl ?_
      exact h1
    have ho := toInt_out (w := w) (n := 6) (by omega) (fun k hk => by
      rcases (show k = 0 ∨ k = 1 ∨ k = 2 ∨ k = 3 ∨ k = 4 ∨ k = 5 ∨ k = 6 by omega) with rfl | rfl | rfl | rfl | rfl | rfl | rfl <;> assumption)
    rw [if_neg w0, if_neg w1, if_neg w2, if_neg w3, if_neg w4, if_neg w5, if_neg w6] at h1
    refine x_tableOut (tgt := 105) dR_told_12 ho (by decide) ?_
    refine x_iload_n dR_told_105 rfl ?_
    refine x_bipush (v := 7) dR_told_106 rfl ?_
    refine x_bipush (v := 12) dR_told_108 rfl ?_
    -- at 110: .invokestatic 151
    refine x_callS_3 c_R_in ok_R_in ml_R_151 dR_told_110 rfl rfl ?_
    refine ⟨_, _, _, rfl, fun a2 => ?_, fun a2 => ?_⟩
    · have a2 : inR w 7 12 := a2
      refine x_if_eq (tgt := 128) dR_told_113 (by decide) (fun h => absurd h (by decide)) (fun _ => ?_)
      rw [if_pos a2] at h1
      refine x_aload_n dR_told_116 rfl ?_
      refine x_iload_n dR_told_117 rfl ?_
      refine x_iload_n dR_told_118 rfl ?_
      refine x_bipush (v := 7) dR_told_119 rfl ?_
      refine x_isub dR_told_121 ?_
      -- at 122: .invokevirtual 233
      refine x_callV_2 c_R_whereIs ok_R_whereIs ml_R_233 dR_told_122 rfl rfl rfl rfl rfl ?_
      refine ⟨k, _, rfl, rfl, by omega, perV_of hok.1 rfl (rVE I) hk, ?_⟩
      refine x_goto (tgt := 130) dR_told_125 (by decide) ?_
      -- at 130: .ireturn
      refine x_ireturn dR_told_130 rfl rfl ?_
      rw [where_eq (rVE I) hk]
      exact h1
    · have a2 : ¬ inR w 7 12 := a2
      refine x_if_eq (tgt := 128) dR_told_113 (by decide) (fun _ => ?_) (fun h => absurd (by decide) h)
      rw [if_neg a2] at h1
      refine x_bipush (v := -7) dR_told_128 rfl ?_
      -- at 130: .ireturn
      refine x_ireturn dR_told_130 rfl rfl ?_
      exact h1
  · have a1 : ¬ inR p 0 (rE I 29 1 - 1) := a1
    refine x_if_ne (tgt := 11) dR_told_5 (by decide) (fun h => absurd (by decide) h) (fun _ => ?_)
    rw [toldS, if_pos a1] at h1
    refine x_bipush (v := -5) dR_told_8 rfl ?_
    -- at 10: .ireturn
    refine x_ireturn dR_told_10 rfl rfl ?_
    exact h1
end
section
-- 63.r3
/-! the reference: promises, sayings, the sayer, what is taken -/
def rVadd (I : IM) (n : Nat) (a b c d : Int32) : IM := up2 (up2 (up2 (up2 (up2 I 70 n a) 71 n b) 72 n c) 73 n d) 59 12 (nI n + 1)
def sp_R_promise : SpT := fun as S I L Post => ∃ w n v g : Int32, rSp [.int w, .int n, .int v, .int g] (fun E => .int (promiseS E w n v g)) (fun E => promiseU E w n v g) as S I L Post
set_option maxHeartbeats 4000000 in
set_option maxRecDepth 100000 in
theorem c_R_promise : Con mR_promise 3 0 0 sp_R_promise := by
  refine con_of_X rfl fun G as S I L Post hs => ?_
  obtain ⟨w, n, v, g, rfl, rfl, ⟨hok, own⟩, h1⟩ := hs
  dsimp only at h1
  refine ⟨0, Nat.le_of_ble_eq_true rfl, ?_⟩
  show X mR_promise G _ S1 I L 0 [.ref 59, .int w, .int n, .int v, .int g] [] Post
  have hn : I 59 12 = nI (qN (rE I)) := hok.2.1.1
  have h8 := hok.2.1.2.1
  have bad : ¬ proC (rE I) w n v g → X mR_promise G (3, 0, 0) S1 I L 45 [.ref 59, .int w, .int n, .int v, .int g] [] Post := by
    intro hc
    rw [promiseS, promiseU, if_pos hc, if_pos hc] at h1
    refine x_bipush (v := -2) dR_promise_45 rfl ?_
    -- at 47: .ireturn
    refine x_ireturn dR_promise_47 rfl rfl ?_
    exact h1 I L (fun _ _ => rfl) own rfl
  refine x_iload_n dR_promise_0 rfl ?_
  refine x_iconst (v := 0) dR_promise_1 rfl ?_
  refine x_bipush (v := 7) dR_promise_2 rfl ?_
  -- at 4: .invokestatic 151
  refine x_callS_3 c_R_in ok_R_in ml_R_151 dR_promise_4 rfl rfl ?_
  refine ⟨_, _, _, rfl, fun a1 => ?_, fun a1 => ?_⟩
  · refine x_if_eq (tgt := 45) dR_promise_7 (by decide) (fun h => absurd h (by decide)) (fun _ => ?_)
    refine x_iload_n dR_promise_10 rfl ?_
    refine x_iconst (v := 1) dR_promise_11 rfl ?_
    refine x_bipush (v := 99) dR_promise_12 rfl ?_
    -- at 14: .invokestatic 151
    refine x_callS_3 c_R_in ok_R_in ml_R_151 dR_promise_14 rfl rfl ?_
    refine ⟨_, _, _, rfl, fun a2 => ?_, fun a2 => ?_⟩
    · refine x_if_eq (tgt := 45) dR_promise_17 (by decide) (fun h => absurd h (by decide)) (fun _ => ?_)
      refine x_iload_n dR_promise_20 rfl ?_
      refine x_iconst (v := 0) dR_promise_21 rfl ?_
      refine x_bipush (v := 99) dR_promise_22 rfl ?_
      -- at 24: .invokestatic 151
      refine x_callS_3 c_R_in ok_R_in ml_R_151 dR_promise_24 rfl rfl ?_
      refine ⟨_, _, _, rfl, fun a3 => ?_, fun a3 => ?_⟩
      · refine x_if_eq (tgt := 45) dR_promise_27 (by decide) (fun h => absurd h (by decide)) (fun _ => ?_)
        refine x_iload dR_promise_30 rfl ?_
        refine x_iconst (v := -1) dR_promise_32 rfl ?_
        refine x_aload_n dR_promise_33 rfl ?_
        refine x_getI fl_R_155 rfl dR_promise_34 rfl rfl ?_
        refine x_iconst (v := 1) dR_promise_37 rfl ?_
        refine x_isub dR_promise_38 ?_
        -- at 39: .invokestatic 151
        refine x_callS_3 c_R_in ok_R_in ml_R_151 dR_promise_39 rfl rfl ?_
        refine ⟨_, _, _, rfl, fun a4 => ?_, fun a4 => ?_⟩
        · refine x_if_ne (tgt := 48) dR_promise_42 (by decide) (fun _ => ?_) (fun h => absurd h (by decide))
          have hc : proC (rE I) w n v g := ⟨a1, a2, a3, a4⟩
          rw [promiseS, promiseU, if_neg (not_not_intro hc), if_neg (not_not_intro hc)] at h1
          refine x_aload_n dR_promise_48 rfl ?_
          refine x_getI fl_R_155 rfl dR_promise_49 rfl rfl ?_
          refine x_bipush (v := 8) dR_promise_52 rfl ?_
          -- at 54: .if_icmp .ne 6
          rw [hn]
          refine x_icmp_ne (tgt := 60) dR_promise_54 (by decide) (fun c1 => ?_) (fun c1 => ?_)
          · have hlt : qN (rE I) < 8 := by
              by_cases z : qN (rE I) = 8
              · rw [z] at c1
                exact absurd rfl c1
              · omega
            have hl : rE I 29 2 < 8 := by
              rw [show rE I 29 2 = nI (qN (rE I)) from hn]
              exact (nI_ltI (b := 8) (by omega) (by omega)).mpr hlt
            rw [if_neg (not_not_intro hl), if_neg (not_not_intro hl)] at h1
            refine x_aload_n dR_promise_60 rfl ?_
            refine x_getR fl_R_44 rfl dR_promise_61 rfl rfl rfl ?_
            refine x_aload_n dR_promise_64 rfl ?_
            refine x_getI fl_R_155 rfl dR_promise_65 rfl rfl ?_
            -- at 68: .iload_n 1
            rw [hn]
            refine x_iload_n dR_promise_68 rfl ?_
            refine x_iastJ (j := qN (rE I)) dR_promise_69 rfl rfl (by first | rfl | (simp only [← nI_add, ← pk_mul]; rfl)) (by omega) ?_
            refine x_aload_n dR_promise_70 rfl ?_
            refine x_getR fl_R_47 rfl dR_promise_71 rfl rfl rfl ?_
            refine x_aload_n dR_promise_74 rfl ?_
            refine x_getI fl_R_155 rfl dR_promise_75 rfl rfl ?_
            -- at 78: .iload_n 2
            simp only [up2_n, up2_s, ne_eq, Nat.reduceEqDiff, not_false_eq_true, hn]
            refine x_iload_n dR_promise_78 rfl ?_
            refine x_iastJ (j := qN (rE I)) dR_promise_79 rfl rfl (by first | rfl | (simp only [← nI_add, ← pk_mul]; rfl)) (by omega) ?_
            refine x_aload_n dR_promise_80 rfl ?_
            refine x_getR fl_R_50 rfl dR_promise_81 rfl rfl rfl ?_
            refine x_aload_n dR_promise_84 rfl ?_
            refine x_getI fl_R_155 rfl dR_promise_85 rfl rfl ?_
            -- at 88: .iload_n 3
            simp only [up2_n, up2_s, ne_eq, Nat.reduceEqDiff, not_false_eq_true, hn]
            refine x_iload_n dR_promise_88 rfl ?_
            refine x_iastJ (j := qN (rE I)) dR_promise_89 rfl rfl (by first | rfl | (simp only [← nI_add, ← pk_mul]; rfl)) (by omega) ?_
            refine x_aload_n dR_promise_90 rfl ?_
            refine x_getR fl_R_53 rfl dR_promise_91 rfl rfl rfl ?_
            refine x_aload_n dR_promise_94 rfl ?_
            refine x_getI fl_R_155 rfl dR_promise_95 rfl rfl ?_
            -- at 98: .iload 4
            simp only [up2_n, up2_s, ne_eq, Nat.reduceEqDiff, not_false_eq_true, hn]
            refine x_iload dR_promise_98 rfl ?_
            refine x_iastJ (j := qN (rE I)) dR_promise_100 rfl rfl (by first | rfl | (simp only [← nI_add, ← pk_mul]; rfl)) (by omega) ?_
            refine x_aload_n dR_promise_101 rfl ?_
            refine x_dup dR_promise_102 rfl ?_
            refine x_getI fl_R_155 rfl dR_promise_103 rfl rfl ?_
            -- at 106: .iconst 1
            simp only [up2_n, up2_s, ne_eq, Nat.reduceEqDiff, not_false_eq_true, hn]
            refine x_iconst (v := 1) dR_promise_106 rfl ?_
            refine x_iadd dR_promise_107 ?_
            refine x_putI fl_R_155 rfl dR_promise_108 (by decide) rfl rfl rfl rfl ?_
            refine x_aload_n dR_promise_111 rfl ?_
            refine x_getI fl_R_155 rfl dR_promise_112 rfl rfl ?_
            -- at 115: .iconst 1
            simp only [up2_n, up2_s, ne_eq, Nat.reduceEqDiff, not_false_eq_true, up1, if_true]
            refine x_iconst (v := 1) dR_promise_115 rfl ?_
            refine x_isub dR_promise_116 ?_
            -- at 117: .ireturn
            refine x_eqi (y := nI (qN (rE I))) ?_ ?_
            · rw [nI_1]
              exact pk_sub (b := 1) (by omega)
            refine x_ireturn dR_promise_117 rfl rfl ?_
            have := h1 (rVadd I (qN (rE I)) w n v g) L (fun j hj => by unfold rVadd; rw [up2_n _ _ _ (by omega), up2_n _ _ _ (by omega), up2_n _ _ _ (by omega), up2_n _ _ _ (by omega), up2_n _ _ _ (by omega)])
              (((((own.up (by decide) (Or.inl (by decide))).up (by decide) (Or.inl (by decide))).up (by decide) (Or.inl (by decide))).up (by decide) (Or.inl (by decide))).up (by decide) (Or.inr (by decide))) (by unfold rVadd addQ; rw [rE_s2, rE_u13, rE_u12, rE_u11, rE_u10])
            rw [show rE I 29 2 = nI (qN (rE I)) from hn] at this
            exact this
          · have hl : ¬ rE I 29 2 < 8 := by
              rw [show rE I 29 2 = nI (qN (rE I)) from hn, c1]
              decide
            rw [if_pos hl, if_pos hl] at h1
            refine x_bipush (v := -4) dR_promise_57 rfl ?_
            -- at 59: .ireturn
            refine x_ireturn dR_promise_59 rfl rfl ?_
            exact h1 I L (fun _ _ => rfl) own rfl
        · refine x_if_ne (tgt := 48) dR_promise_42 (by decide) (fun h => absurd (by decide) h) (fun _ => ?_)
          exact bad (fun z => a4 z.2.2.2)
      · refine x_if_eq (tgt := 45) dR_promise_27 (by decide) (fun _ => ?_) (fun h => absurd (by decide) h)
        exact bad (fun z => a3 z.2.2.1)
    · refine x_if_eq (tgt := 45) dR_promise_17 (by decide) (fun _ => ?_) (fun h => absurd (by decide) h)
      exact bad (fun z => a2 z.2.1)
  · refine x_if_eq (tgt := 45) dR_promise_7 (by decide) (fun _ => ?_) (fun h => absurd (by decide) h)
    exact bad (fun z => a1 z.1)
def sp_R_promised : SpT := fun as S I L Post => ∃ q w : Int32, rSp [.int q, .int w] (fun E => .int (promisedS E q w)) (fun E => E) as S I L Post
set_option maxHeartbeats 4000000 in
set_option maxRecDepth 100000 in
theorem c_R_promised : Con mR_promised 4 0 0 sp_R_promised := by
  refine con_of_X rfl fun G as S I L Post hs => ?_
  obtain ⟨p, w, rfl, rfl, ⟨hok, own⟩, h1⟩ := hs
  dsimp only at h1
  refine ⟨0, Nat.le_of_ble_eq_true rfl, ?_⟩
  show X mR_promised G _ S1 I L 0 [.ref 59, .int p, .int w] [] Post
  have hn : I 59 12 = nI (qN (rE I)) := hok.2.1.1
  have h8 := hok.2.1.2.1
  have h1 := h1 I L (fun _ _ => rfl) own rfl
  refine x_aload_n dR_promised_0 rfl ?_
  refine x_iload_n dR_promised_1 rfl ?_
  -- at 2: .invokevirtual 236
  refine x_callV_1 c_R_isPromise ok_R_isPromise ml_R_236 dR_promised_2 rfl rfl rfl rfl rfl ?_
  refine ⟨_, rfl, rfl, fun a1 => ?_, fun a1 => ?_⟩
  · have a1 : inR p 0 (rE I 29 2 - 1) := a1
    refine x_if_ne (tgt := 11) dR_promised_5 (by decide) (fun _ => ?_) (fun h => absurd h (by decide))
    rw [promisedS, if_neg (not_not_intro a1)] at h1
    rw [show rE I 29 2 = nI (qN (rE I)) from hn] at a1
    obtain ⟨k, hk, rfl⟩ := has_nat (by omega) a1
    rw [cl_nI (by omega)] at h1
    refine x_iload_n dR_promised_11 rfl ?_
    -- at 12: .ifCond .ne 12
    refine x_if_ne (tgt := 24) dR_promised_12 (by decide) (fun w0 => ?_) (fun w0 => ?_)
    · rw [if_neg w0] at h1
      refine x_iload_n dR_promised_24 rfl ?_
      refine x_iconst (v := 1) dR_promised_25 rfl ?_
      -- at 26: .if_icmp .ne 12
      refine x_icmp_ne (tgt := 38) dR_promised_26 (by decide) (fun w1 => ?_) (fun w1 => ?_)
      · rw [if_neg w1] at h1
        refine x_iload_n dR_promised_38 rfl ?_
        refine x_iconst (v := 2) dR_promised_39 rfl ?_
        -- at 40: .if_icmp .ne 12
        refine x_icmp_ne (tgt := 52) dR_promised_40 (by decide) (fun w2 => ?_) (fun w2 => ?_)
        · rw [if_neg w2] at h1
          refine x_iload_n dR_promised_52 rfl ?_
          refine x_iconst (v := 3) dR_promised_53 rfl ?_
          -- at 54: .if_icmp .ne 12
          refine x_icmp_ne (tgt := 66) dR_promised_54 (by decide) (fun w3 => ?_) (fun w3 => ?_)
          · rw [if_neg w3] at h1
            refine x_bipush (v := -7) dR_promised_66 rfl ?_
            -- at 68: .ireturn
            refine x_ireturn dR_promised_68 rfl rfl ?_
            exact h1
          · rw [if_pos w3] at h1
            refine x_aload_n dR_promised_57 rfl ?_
            refine x_getR fl_R_53 rfl dR_promised_58 rfl rfl rfl ?_
            refine x_iload_n dR_promised_61 rfl ?_
            refine x_ialdJ (j := k) dR_promised_62 rfl rfl (by first | rfl | (simp only [← nI_add, ← pk_mul]; rfl)) (by omega) ?_
            refine x_goto (tgt := 68) dR_promised_63 (by decide) ?_
            -- at 68: .ireturn
            refine x_ireturn dR_promised_68 rfl rfl ?_
            exact h1
        · rw [if_pos w2] at h1
          refine x_aload_n dR_promised_43 rfl ?_
          refine x_getR fl_R_50 rfl dR_promised_44 rfl rfl rfl ?_
          refine x_iload_n dR_promised_47 rfl ?_
          refine x_ialdJ (j := k) dR_promised_48 rfl rfl (by first | rfl | (simp only [← nI_add, ← pk_mul]; rfl)) (by omega) ?_
          refine x_goto (tgt := 68) dR_promised_49 (by decide) ?_
          -- at 68: .ireturn
          refine x_ireturn dR_promised_68 rfl rfl ?_
          exact h1
      · rw [if_pos w1] at h1
        refine x_aload_n dR_promised_29 rfl ?_
        refine x_getR fl_R_47 rfl dR_promised_30 rfl rfl rfl ?_
        refine x_iload_n dR_promised_33 rfl ?_
        refine x_ialdJ (j := k) dR_promised_34 rfl rfl (by first | rfl | (simp only [← nI_add, ← pk_mul]; rfl)) (by omega) ?_
        refine x_goto (tgt := 68) dR_promised_35 (by decide) ?_
        -- at 68: .ireturn
        refine x_ireturn dR_promised_68 rfl rfl ?_
        exact h1
    · rw [if_pos w0] at h1
      refine x_aload_n dR_promised_15 rfl ?_
      refine x_getR fl_R_44 rfl dR_promised_16 rfl rfl rfl ?_
      refine x_iload_n dR_promised_19 rfl ?_
      refine x_ialdJ (j := k) dR_promised_20 rfl rfl (by first | rfl | (simp only [← nI_add, ← pk_mul]; rfl)) (by omega) ?_
      refine x_goto (tgt := 68) dR_promised_21 (by decide) ?_
      -- at 68: .ireturn
      refine x_ireturn dR_promised_68 rfl rfl ?_
      exact h1
  · have a1 : ¬ inR p 0 (rE I 29 2 - 1) := a1
    refine x_if_ne (tgt := 11) dR_promised_5 (by decide) (fun h => absurd (by decide) h) (fun _ => ?_)
    rw [promisedS, if_pos a1] at h1
    refine x_bipush (v := -5) dR_promised_8 rfl ?_
    -- at 10: .ireturn
    refine x_ireturn dR_promised_10 rfl rfl ?_
    exact h1
def sp_R_said : SpT := fun as S I L Post => ∃ s w : Int32, rSp [.int s, .int w] (fun E => .int (saidS E s w)) (fun E => E) as S I L Post
set_option maxHeartbeats 4000000 in
set_option maxRecDepth 100000 in
theorem c_R_said : Con mR_said 4 0 0 sp_R_said := by
  refine con_of_X rfl fun G as S I L Post hs => ?_
  obtain ⟨p, w, rfl, rfl, ⟨hok, own⟩, h1⟩ := hs
  dsimp only at h1
  refine ⟨0, Nat.le_of_ble_eq_true rfl, ?_⟩
  show X mR_said G _ S1 I L 0 [.ref 59, .int p, .int w] [] Post
  have hn : I 59 17 = nI (sN (rE I)) := hok.2.2.1.1
  have h8 := hok.2.2.1.2.1
  have h1 := h1 I L (fun _ _ => rfl) own rfl
  refine x_aload_n dR_said_0 rfl ?_
  refine x_iload_n dR_said_1 rfl ?_
  -- at 2: .invokevirtual 243
  refine x_callV_1 c_R_isSaying ok_R_isSaying ml_R_243 dR_said_2 rfl rfl rfl rfl rfl ?_
  refine ⟨_, rfl, rfl, fun a1 => ?_, fun a1 => ?_⟩
  · have a1 : inR p 0 (rE I 29 3 - 1) := a1
    refine x_if_ne (tgt := 11) dR_said_5 (by decide) (fun _ => ?_) (fun h => absurd h (by decide))
    rw [saidS, if_neg (not_not_intro a1)] at h1
    rw [show rE I 29 3 = nI (sN (rE I)) from hn] at a1
    obtain ⟨k, hk, rfl⟩ := has_nat (by omega) a1
    rw [cl_nI (by omega)] at h1
    have e14 : rE I 14 k = I 74 k := mk_lt hk
    have e15 : rE I 15 k = I 75 k := mk_lt hk
    have e16 : rE I 16 k = I 76 k := mk_lt hk
    have e17 : rE I 17 k = I 77 k := mk_lt hk
    rw [e14, e15, e16, e17] at h1
    refine x_iload_n dR_said_11 rfl ?_
    -- at 12: .ifCond .ne 12
    refine x_if_ne (tgt := 24) dR_said_12 (by decide) (fun w0 => ?_) (fun w0 => ?_)
    · rw [if_neg w0] at h1
      refine x_iload_n dR_said_24 rfl ?_
      refine x_iconst (v := 1) dR_said_25 rfl ?_
      -- at 26: .if_icmp .ne 12
      refine x_icmp_ne (tgt := 38) dR_said_26 (by decide) (fun w1 => ?_) (fun w1 => ?_)
      · rw [if_neg w1] at h1
        refine x_iload_n dR_said_38 rfl ?_
        refine x_iconst (v := 2) dR_said_39 rfl ?_
        -- at 40: .if_icmp .ne 12
        refine x_icmp_ne (tgt := 52) dR_said_40 (by decide) (fun w2 => ?_) (fun w2 => ?_)
        · rw [if_neg w2] at h1
          refine x_iload_n dR_said_52 rfl ?_
          refine x_iconst (v := 3) dR_said_53 rfl ?_
          -- at 54: .if_icmp .ne 12
          refine x_icmp_ne (tgt := 66) dR_said_54 (by decide) (fun w3 => ?_) (fun w3 => ?_)
          · rw [if_neg w3] at h1
            refine x_bipush (v := -7) dR_said_66 rfl ?_
            -- at 68: .ireturn
            refine x_ireturn dR_said_68 rfl rfl ?_
            exact h1
          · rw [if_pos w3] at h1
            refine x_aload_n dR_said_57 rfl ?_
            refine x_getR fl_R_65 rfl dR_said_58 rfl rfl rfl ?_
            refine x_iload_n dR_said_61 rfl ?_
            refine x_ialdJ (j := k) dR_said_62 rfl rfl (by first | rfl | (simp only [← nI_add, ← pk_mul]; rfl)) (by omega) ?_
            refine x_goto (tgt := 68) dR_said_63 (by decide) ?_
            -- at 68: .ireturn
            refine x_ireturn dR_said_68 rfl rfl ?_
            exact h1
        · rw [if_pos w2] at h1
          refine x_aload_n dR_said_43 rfl ?_
          refine x_getR fl_R_62 rfl dR_said_44 rfl rfl rfl ?_
          refine x_iload_n dR_said_47 rfl ?_
          refine x_ialdJ (j := k) dR_said_48 rfl rfl (by first | rfl | (simp only [← nI_add, ← pk_mul]; rfl)) (by omega) ?_
          refine x_goto (tgt := 68) dR_said_49 (by decide) ?_
          -- at 68: .ireturn
          refine x_ireturn dR_said_68 rfl rfl ?_
          exact h1
      · rw [if_pos w1] at h1
        refine x_aload_n dR_said_29 rfl ?_
        refine x_getR fl_R_59 rfl dR_said_30 rfl rfl rfl ?_
        refine x_iload_n dR_said_33 rfl ?_
        refine x_ialdJ (j := k) dR_said_34 rfl rfl (by first | rfl | (simp only [← nI_add, ← pk_mul]; rfl)) (by omega) ?_
        refine x_goto (tgt := 68) dR_said_35 (by decide) ?_
        -- at 68: .ireturn
        refine x_ireturn dR_said_68 rfl rfl ?_
        exact h1
    · rw [if_pos w0] at h1
      refine x_aload_n dR_said_15 rfl ?_
      refine x_getR fl_R_56 rfl dR_said_16 rfl rfl rfl ?_
      refine x_iload_n dR_said_19 rfl ?_
      refine x_ialdJ (j := k) dR_said_20 rfl rfl (by first | rfl | (simp only [← nI_add, ← pk_mul]; rfl)) (by omega) ?_
      refine x_goto (tgt := 68) dR_said_21 (by decide) ?_
      -- at 68: .ireturn
      refine x_ireturn dR_said_68 rfl rfl ?_
      exact h1
  · have a1 : ¬ inR p 0 (rE I 29 3 - 1) := a1
    refine x_if_ne (tgt := 11) dR_said_5 (by decide) (fun h => absurd (by decide) h) (fun _ => ?_)
    rw [saidS, if_pos a1] at h1
    refine x_bipush (v := -5) dR_said_8 rfl ?_
    -- at 10: .ireturn
    refine x_ireturn dR_said_10 rfl rfl ?_
    exact h1
def rSput (I : IM) (s : Nat) (q h : Int32) : IM := up2 (up2 (up2 (up2 I 74 s q) 75 s (h / 100)) 76 s (rem (h / 10) 10)) 77 s (rem h 10)
def sp_R_says : SpT := fun as S I L Post => ∃ (s : Nat) (q h : Int32), as = [.ref 59, .int (nI s), .int q, .int h] ∧ S = S1 ∧ s < 11 ∧ Post none S1 (rSput I s q h) L
set_option maxHeartbeats 4000000 in
set_option maxRecDepth 100000 in
theorem c_R_says : Con mR_says 2 0 0 sp_R_says := by
  refine con_of_X rfl fun G as S I L Post hs => ?_
  obtain ⟨s, q, h, rfl, rfl, hs, h1⟩ := hs
  refine ⟨0, Nat.le_of_ble_eq_true rfl, ?_⟩
  show X mR_says G _ S1 I L 0 [.ref 59, .int (nI s), .int q, .int h] [] Post
  refine x_aload_n dR_says_0 rfl ?_
  refine x_getR fl_R_56 rfl dR_says_1 rfl rfl rfl ?_
  refine x_iload_n dR_says_4 rfl ?_
  refine x_iload_n dR_says_5 rfl ?_
  refine x_iastJ (j := s) dR_says_6 rfl rfl (by first | rfl | (simp only [← nI_add, ← pk_mul]; rfl)) (by omega) ?_
  refine x_aload_n dR_says_7 rfl ?_
  refine x_getR fl_R_59 rfl dR_says_8 rfl rfl rfl ?_
  refine x_iload_n dR_says_11 rfl ?_
  refine x_iload_n dR_says_12 rfl ?_
  refine x_bipush (v := 100) dR_says_13 rfl ?_
  refine x_idiv dR_says_15 (by decide) ?_
  refine x_iastJ (j := s) dR_says_16 rfl rfl (by first | rfl | (simp only [← nI_add, ← pk_mul]; rfl)) (by omega) ?_
  refine x_aload_n dR_says_17 rfl ?_
  refine x_getR fl_R_62 rfl dR_says_18 rfl rfl rfl ?_
  refine x_iload_n dR_says_21 rfl ?_
  refine x_iload_n dR_says_22 rfl ?_
  refine x_bipush (v := 10) dR_says_23 rfl ?_
  refine x_idiv dR_says_25 (by decide) ?_
  refine x_bipush (v := 10) dR_says_26 rfl ?_
  refine x_irem dR_says_28 (by decide) ?_
  refine x_iastJ (j := s) dR_says_29 rfl rfl (by first | rfl | (simp only [← nI_add, ← pk_mul]; rfl)) (by omega) ?_
  refine x_aload_n dR_says_30 rfl ?_
  refine x_getR fl_R_65 rfl dR_says_31 rfl rfl rfl ?_
  refine x_iload_n dR_says_34 rfl ?_
  refine x_iload_n dR_says_35 rfl ?_
  refine x_bipush (v := 10) dR_says_36 rfl ?_
  refine x_irem dR_says_38 (by decide) ?_
  refine x_iastJ (j := s) dR_says_39 rfl rfl (by first | rfl | (simp only [← nI_add, ← pk_mul]; rfl)) (by omega) ?_
  -- at 40: .return_
  refine x_return dR_says_40 rfl ?_
  exact h1
theorem rE_addS (I : IM) (q h : Int32) (hn : I 59 17 = nI (sN (rE I))) (h8 : sN (rE I) ≤ 10) : rE (up2 (rSput I (sN (rE I)) q h) 59 17 (nI (sN (rE I)) + 1)) = addS (rE I) (sN (rE I)) q h := by
  have e0 : cl (I 59 17) = sN (rE I) := rfl
  generalize sN (rE I) = n at hn h8 e0 ⊢
  unfold rSput addS sputV
  rw [rE_n3, show nI n + 1 = nI (n + 1) from nI_1 n, cl_nI (by omega)]
  rw [show up2 (up2 (up2 (up2 I 74 n q) 75 n (h / 100)) 76 n (rem (h / 10) 10)) 77 n (rem h 10) 74 = up1 (I 74) n q by simp only [up2_n, up2_s, ne_eq, Nat.reduceEqDiff, not_false_eq_true], show up2 (up2 (up2 (up2 I 74 n q) 75 n (h / 100)) 76 n (rem (h / 10) 10)) 77 n (rem h 10) 75 = up1 (I 75) n (h / 100) by simp only [up2_n, up2_s, ne_eq, Nat.reduceEqDiff, not_false_eq_true], show up2 (up2 (up2 (up2 I 74 n q) 75 n (h / 100)) 76 n (rem (h / 10) 10)) 77 n (rem h 10) 76 = up1 (I 76) n (rem (h / 10) 10) by simp only [up2_n, up2_s, ne_eq, Nat.reduceEqDiff, not_false_eq_true], show up2 (up2 (up2 (up2 I 74 n q) 75 n (h / 100)) 76 n (rem (h / 10) 10)) 77 n (rem h 10) 77 = up1 (I 77) n (rem h 10) by simp only [up2_n, up2_s, ne_eq, Nat.reduceEqDiff, not_false_eq_true], mk_up, mk_up, mk_up, mk_up]
  funext a
  by_cases h14 : a = 14
  · subst h14
    simp only [up2_n, up2_s, ne_eq, Nat.reduceEqDiff, not_false_eq_true, upr_s, upr_n]
    rw [show rE I 14 = mk (cl (I 59 17)) (I 74) from rfl, e0]
  by_cases h15 : a = 15
  · subst h15
    simp only [up2_n, up2_s, ne_eq, Nat.reduceEqDiff, not_false_eq_true, upr_s, upr_n]
    rw [show rE I 15 = mk (cl (I 59 17)) (I 75) from rfl, e0]
  by_cases h16 : a = 16
  · subst h16
    simp only [up2_n, up2_s, ne_eq, Nat.reduceEqDiff, not_false_eq_true, upr_s, upr_n]
    rw [show rE I 16 = mk (cl (I 59 17)) (I 76) from rfl, e0]
  by_cases h17 : a = 17
  · subst h17
    simp only [up2_n, up2_s, ne_eq, Nat.reduceEqDiff, not_false_eq_true, upr_s, upr_n]
    rw [show rE I 17 = mk (cl (I 59 17)) (I 77) from rfl, e0]
  have e : ∀ b, b ≠ 14 → b ≠ 15 → b ≠ 16 → b ≠ 17 → rE (up2 (up2 (up2 (up2 I 74 n q) 75 n (h / 100)) 76 n (rem (h / 10) 10)) 77 n (rem h 10)) b = rE I b := by
    intro b b14 b15 b16 b17
    rw [show ∀ J : IM, rE (up2 J 77 n (rem h 10)) = upr (rE J) 17 _ from fun J => rE_17 J _, upr_n _ _ b17]
    rw [show ∀ J : IM, rE (up2 J 76 n (rem (h / 10) 10)) = upr (rE J) 16 _ from fun J => rE_16 J _, upr_n _ _ b16]
    rw [show ∀ J : IM, rE (up2 J 75 n (h / 100)) = upr (rE J) 15 _ from fun J => rE_15 J _, upr_n _ _ b15]
    rw [show ∀ J : IM, rE (up2 J 74 n q) = upr (rE J) 14 _ from fun J => rE_14 J _, upr_n _ _ b14]
  rw [upr_n _ _ h17, upr_n _ _ h16, upr_n _ _ h15, upr_n _ _ h14]
  by_cases h29 : a = 29
  · subst h29
    rw [up2_s, up2_s, e 29 (by omega) (by omega) (by omega) (by omega)]
    simp only [up2_n, up2_s, ne_eq, Nat.reduceEqDiff, not_false_eq_true]
  · rw [up2_n _ _ _ h29, up2_n _ _ _ h29, e a h14 h15 h16 h17, up2_n _ _ _ h17, up2_n _ _ _ h16, up2_n _ _ _ h15, up2_n _ _ _ h14]
theorem how_100 {h : Int32} (h0 : 0 ≤ h) : h / 100 ≤ 5 ↔ h ≤ 599 := perC_w h0
theorem how_10 {h : Int32} (h0 : 0 ≤ h) : rem (h / 10) 10 ≤ 5 ↔ rem (h / 10) 10 < 6 := by
  obtain ⟨k, hk, rfl⟩ := nat_any h0
  have e : rem (nI k / 10) 10 = nI (k / 10 % 10) := by
    rw [show nI k / 10 = nI (k / 10) from pk_div (d := 10) hk (by omega) (by omega)]
    exact pk_rem (d := 10) (by omega) (by omega) (by omega)
  rw [e]
  have hb : k / 10 % 10 < 10 := Nat.mod_lt _ (by omega)
  generalize k / 10 % 10 = m at hb
  exact (show ∀ m, m < 10 → (nI m ≤ 5 ↔ nI m < 6) by decide) m hb
def sp_R_say : SpT := fun as S I L Post => ∃ q h : Int32, rSp [.int q, .int h] (fun E => .int (sayS E q h)) (fun E => sayU E q h) as S I L Post
set_option maxHeartbeats 4000000 in
set_option maxRecDepth 100000 in
theorem c_R_say : Con mR_say 4 0 0 sp_R_say := by
  refine con_of_X rfl fun G as S I L Post hs => ?_
  obtain ⟨q, h, rfl, rfl, ⟨hok, own⟩, h1⟩ := hs
  dsimp only at h1
  refine ⟨1, Nat.le_of_ble_eq_true rfl, ?_⟩
  show X mR_say G _ S1 I L 0 [.ref 59, .int q, .int h, .null] [] Post
  have hn : I 59 17 = nI (sN (rE I)) := hok.2.2.1.1
  have h8 := hok.2.2.1.2.1
  have bad : ¬ sayC (rE I) q h → X mR_say G (4, 0, 0) S1 I L 42 [.ref 59, .int q, .int h, .null] [] Post := by
    intro hc
    rw [sayS, sayU, if_pos hc, if_pos hc] at h1
    refine x_iconst (v := 0) dR_say_42 rfl ?_
    refine x_istoren_3 dR_say_43 rfl rfl ?_
    refine x_iload_n dR_say_44 rfl ?_
    -- at 45: .ifCond .ne 6
    refine x_if_ne (tgt := 51) dR_say_45 (by decide) (fun h => absurd rfl h) (fun _ => ?_)
    refine x_bipush (v := -2) dR_say_48 rfl ?_
    -- at 50: .ireturn
    refine x_ireturn dR_say_50 rfl rfl ?_
    exact h1 I L (fun _ _ => rfl) own rfl
  refine x_aload_n dR_say_0 rfl ?_
  refine x_iload_n dR_say_1 rfl ?_
  -- at 2: .invokevirtual 236
  refine x_callV_1 c_R_isPromise ok_R_isPromise ml_R_236 dR_say_2 rfl rfl rfl rfl rfl ?_
  refine ⟨_, rfl, rfl, fun a1 => ?_, fun a1 => ?_⟩
  · have a1 : inR q 0 (rE I 29 2 - 1) := a1
    refine x_if_eq (tgt := 42) dR_say_5 (by decide) (fun h => absurd h (by decide)) (fun _ => ?_)
    refine x_iload_n dR_say_8 rfl ?_
    -- at 9: .ifCond .lt 33
    refine x_if_lt (tgt := 42) dR_say_9 (by decide) (fun c1 => ?_) (fun c1 => ?_)
    · exact bad (fun z => absurd z.2.1.1 (Int32.not_le.mpr c1))
    · have c1 : 0 ≤ h := Int32.not_lt.mp c1
      refine x_iload_n dR_say_12 rfl ?_
      refine x_bipush (v := 100) dR_say_13 rfl ?_
      refine x_idiv dR_say_15 (by decide) ?_
      refine x_iconst (v := 5) dR_say_16 rfl ?_
      -- at 17: .if_icmp .gt 25
      refine x_icmp_gt (tgt := 42) dR_say_17 (by decide) (fun c2 => ?_) (fun c2 => ?_)
      · exact bad (fun z => absurd ((how_100 c1).mpr z.2.1.2) (Int32.not_le.mpr c2))
      · refine x_iload_n dR_say_20 rfl ?_
        refine x_bipush (v := 10) dR_say_21 rfl ?_
        refine x_idiv dR_say_23 (by decide) ?_
        refine x_bipush (v := 10) dR_say_24 rfl ?_
        refine x_irem dR_say_26 (by decide) ?_
        refine x_iconst (v := 5) dR_say_27 rfl ?_
        -- at 28: .if_icmp .gt 14
        refine x_icmp_gt (tgt := 42) dR_say_28 (by decide) (fun c3 => ?_) (fun c3 => ?_)
        · exact bad (fun z => absurd ((how_10 c1).mpr z.2.2.1) (Int32.not_le.mpr c3))
        · refine x_iload_n dR_say_31 rfl ?_
          refine x_bipush (v := 10) dR_say_32 rfl ?_
          refine x_irem dR_say_34 (by decide) ?_
          -- at 35: .ifCond .le 7
          refine x_if_le (tgt := 42) dR_say_35 (by decide) (fun c4 => ?_) (fun c4 => ?_)
          · exact bad (fun z => absurd z.2.2.2 (Int32.not_lt.mpr c4))
          · have hc : sayC (rE I) q h := ⟨a1, ⟨c1, (how_100 c1).mp (Int32.not_lt.mp c2)⟩, (how_10 c1).mp (Int32.not_lt.mp c3), Int32.not_le.mp c4⟩
            rw [sayS, sayU, if_neg (not_not_intro hc), if_neg (not_not_intro hc)] at h1
            refine x_iconst (v := 1) dR_say_38 rfl ?_
            refine x_goto (tgt := 43) dR_say_39 (by decide) ?_
            refine x_istoren_3 dR_say_43 rfl rfl ?_
            refine x_iload_n dR_say_44 rfl ?_
            -- at 45: .ifCond .ne 6
            refine x_if_ne (tgt := 51) dR_say_45 (by decide) (fun _ => ?_) (fun h => absurd h (by decide))
            refine x_aload_n dR_say_51 rfl ?_
            refine x_getI fl_R_158 rfl dR_say_52 rfl rfl ?_
            refine x_bipush (v := 10) dR_say_55 rfl ?_
            -- at 57: .if_icmp .ne 6
            rw [hn]
            refine x_icmp_ne (tgt := 63) dR_say_57 (by decide) (fun c5 => ?_) (fun c5 => ?_)
            · have hlt : sN (rE I) < 10 := by
                by_cases z : sN (rE I) = 10
                · rw [z] at c5
                  exact absurd rfl c5
                · omega
              have hl : rE I 29 3 < 10 := by
                rw [show rE I 29 3 = nI (sN (rE I)) from hn]
                exact (nI_ltI (b := 10) (by omega) (by omega)).mpr hlt
              rw [if_neg (not_not_intro hl), if_neg (not_not_intro hl)] at h1
              refine x_aload_n dR_say_63 rfl ?_
              refine x_aload_n dR_say_64 rfl ?_
              refine x_getI fl_R_158 rfl dR_say_65 rfl rfl ?_
              -- at 68: .iload_n 1
              rw [hn]
              refine x_iload_n dR_say_68 rfl ?_
              refine x_iload_n dR_say_69 rfl ?_
              -- at 70: .invokevirtual 239
              refine x_callV_3 c_R_says ok_R_says ml_R_239 dR_say_70 rfl rfl rfl rfl rfl ?_
              refine ⟨sN (rE I), q, h, rfl, rfl, by omega, ?_⟩
              have e59 : rSput I (sN (rE I)) q h 59 = I 59 := by
                unfold rSput
                simp only [up2_n, up2_s, ne_eq, Nat.reduceEqDiff, not_false_eq_true]
              refine x_aload_n dR_say_73 rfl ?_
              refine x_dup dR_say_74 rfl ?_
              refine x_getI fl_R_158 rfl dR_say_75 rfl rfl ?_
              -- at 78: .iconst 1
              rw [e59, hn]
              refine x_iconst (v := 1) dR_say_78 rfl ?_
              refine x_iadd dR_say_79 ?_
              refine x_putI fl_R_158 rfl dR_say_80 (by decide) rfl rfl rfl rfl ?_
              refine x_aload_n dR_say_83 rfl ?_
              refine x_getI fl_R_158 rfl dR_say_84 rfl rfl ?_
              -- at 87: .iconst 1
              simp only [up2_n, up2_s, ne_eq, Nat.reduceEqDiff, not_false_eq_true, up1, if_true]
              refine x_iconst (v := 1) dR_say_87 rfl ?_
              refine x_isub dR_say_88 ?_
              -- at 89: .ireturn
              refine x_eqi (y := nI (sN (rE I))) ?_ ?_
              · rw [nI_1]
                exact pk_sub (b := 1) (by omega)
              refine x_ireturn dR_say_89 rfl rfl ?_
              have := h1 (up2 (rSput I (sN (rE I)) q h) 59 17 (nI (sN (rE I)) + 1)) L (fun j hj => by unfold rSput; rw [up2_n _ _ _ (by omega), up2_n _ _ _ (by omega), up2_n _ _ _ (by omega), up2_n _ _ _ (by omega), up2_n _ _ _ (by omega)])
                (((((own.up (by decide) (Or.inl (by decide))).up (by decide) (Or.inl (by decide))).up (by decide) (Or.inl (by decide))).up (by decide) (Or.inl (by decide))).up (by decide) (Or.inr (by decide))) (rE_addS I q h hn h8)
              rw [show rE I 29 3 = nI (sN (rE I)) from hn] at this
              exact this
            · have hl : ¬ rE I 29 3 < 10 := by
                rw [show rE I 29 3 = nI (sN (rE I)) from hn, c5]
                decide
              rw [if_pos hl, if_pos hl] at h1
              refine x_bipush (v := -4) dR_say_60 rfl ?_
              -- at 62: .ireturn
              refine x_ireturn dR_say_62 rfl rfl ?_
              exact h1 I L (fun _ _ => rfl) own rfl
  · have a1 : ¬ inR q 0 (rE I 29 2 - 1) := a1
    refine x_if_eq (tgt := 42) dR_say_5 (by decide) (fun _ => ?_) (fun h => absurd (by decide) h)
    exact bad (fun z => a1 z.1)
def sp_R_unsay : SpT := rSp [] (fun E => .int (unsayS E)) unsayU
set_option maxHeartbeats 4000000 in
set_option maxRecDepth 100000 in
theorem c_R_unsay : Con mR_unsay 2 0 0 sp_R_unsay := by
  refine con_of_X rfl fun G as S I L Post hs => ?_
  obtain ⟨rfl, rfl, ⟨hok, own⟩, h1⟩ := hs
  dsimp only at h1
  refine ⟨0, Nat.le_of_ble_eq_true rfl, ?_⟩
  show X mR_unsay G _ S1 I L 0 [.ref 59] [] Post
  have hn : I 59 17 = nI (sN (rE I)) := hok.2.2.1.1
  have h8 := hok.2.2.1.2.1
  refine x_aload_n dR_unsay_0 rfl ?_
  refine x_getI fl_R_158 rfl dR_unsay_1 rfl rfl ?_
  -- at 4: .ifCond .ne 6
  rw [hn]
  by_cases h0 : sN (rE I) = 0
  · have hz : rE I 29 3 ≤ 0 := by
      rw [show rE I 29 3 = nI (sN (rE I)) from hn, h0]
      decide
    rw [unsayS, unsayU, if_pos hz, if_pos hz] at h1
    refine x_if_ne (tgt := 10) dR_unsay_4 (by decide) (fun h => absurd (congrArg nI h0) h) (fun _ => ?_)
    refine x_bipush (v := -3) dR_unsay_7 rfl ?_
    -- at 9: .ireturn
    refine x_ireturn dR_unsay_9 rfl rfl ?_
    exact h1 I L (fun _ _ => rfl) own rfl
  · have hz : ¬ rE I 29 3 ≤ 0 := by
      rw [show rE I 29 3 = nI (sN (rE I)) from hn]
      exact nI_ge (a := 0) (by omega) (by omega)
    rw [unsayS, unsayU, if_neg hz, if_neg hz] at h1
    refine x_if_ne (tgt := 10) dR_unsay_4 (by decide) (fun _ => ?_) (fun h => absurd h (fun z => h0 ((nI_eq (b := 0) (by omega) (by omega)).mp z)))
    refine x_aload_n dR_unsay_10 rfl ?_
    refine x_dup dR_unsay_11 rfl ?_
    refine x_getI fl_R_158 rfl dR_unsay_12 rfl rfl ?_
    -- at 15: .iconst 1
    rw [hn]
    refine x_iconst (v := 1) dR_unsay_15 rfl ?_
    refine x_isub dR_unsay_16 ?_
    -- at 17: .putfield 158
    refine x_eqi (y := nI (sN (rE I) - 1)) (pk_sub (b := 1) (by omega)) ?_
    refine x_putI fl_R_158 rfl dR_unsay_17 (by decide) rfl rfl rfl rfl ?_
    refine x_aload_n dR_unsay_20 rfl ?_
    refine x_getI fl_R_158 rfl dR_unsay_21 rfl rfl ?_
    -- at 24: .ireturn
    refine x_ireturn dR_unsay_24 rfl rfl ?_
    have := h1 (up2 I 59 17 (nI (sN (rE I) - 1))) L (fun j hj => by rw [up2_n _ _ _ (by omega)]) (own.up (by decide) (Or.inr (by decide))) ?_
    · rw [show rE I 29 3 = nI (sN (rE I)) from hn, show nI (sN (rE I)) - 1 = nI (sN (rE I) - 1) from pk_sub (b := 1) (by omega)] at this
      simp only [up2_n, up2_s, ne_eq, Nat.reduceEqDiff, not_false_eq_true, up1, if_true]
      exact this
    · have e0 : cl (I 59 17) = sN (rE I) := rfl
      rw [rE_n3, cl_nI (by omega)]
      unfold cutS4
      rw [show rE I 14 = mk (sN (rE I)) (I 74) from rfl, show rE I 15 = mk (sN (rE I)) (I 75) from rfl, show rE I 16 = mk (sN (rE I)) (I 76) from rfl, show rE I 17 = mk (sN (rE I)) (I 77) from rfl, mk_mk (by omega), mk_mk (by omega), mk_mk (by omega), mk_mk (by omega)]
def sp_R_wayTo : SpT := fun as S I L Post => ∃ s : Nat, as = [.ref 59, .int (nI s)] ∧ S = S1 ∧ rOk I ∧ 1 ≤ s ∧ s < sN (rE I) ∧ Post (some (.int (wayV (rE I) s))) S1 I L
set_option maxHeartbeats 4000000 in
set_option maxRecDepth 100000 in
theorem c_R_wayTo : Con mR_wayTo 2 0 0 sp_R_wayTo := by
  refine con_of_X rfl fun G as S I L Post hs => ?_
  obtain ⟨s, rfl, rfl, hok, hs1, hs2, h1⟩ := hs
  refine ⟨0, Nat.le_of_ble_eq_true rfl, ?_⟩
  show X mR_wayTo G _ S1 I L 0 [.ref 59, .int (nI s)] [] Post
  obtain ⟨-, b2, b3⟩ := hok.1.c
  obtain ⟨-, ⟨u, hu, eu⟩, -⟩ := b3 s hs2
  obtain ⟨-, ⟨v, hv, ev⟩, -⟩ := b3 (s - 1) (by omega)
  have e15 : rE I 15 s = I 75 s := mk_lt hs2
  have e15' : rE I 15 (s - 1) = I 75 (s - 1) := mk_lt (by have : sN (rE I) = cl (I 59 17) := rfl; omega)
  rw [wayV, eu, ev, cl_nI (by omega), cl_nI (by omega)] at h1
  rw [e15] at eu
  rw [e15'] at ev
  refine x_aload_n dR_wayTo_0 rfl ?_
  refine x_getR fl_R_7 rfl dR_wayTo_1 rfl rfl rfl ?_
  refine x_bipush (v := 6) dR_wayTo_4 rfl ?_
  refine x_aload_n dR_wayTo_6 rfl ?_
  refine x_getR fl_R_59 rfl dR_wayTo_7 rfl rfl rfl ?_
  refine x_iload_n dR_wayTo_10 rfl ?_
  refine x_iconst (v := 1) dR_wayTo_11 rfl ?_
  refine x_isub dR_wayTo_12 ?_
  refine x_ialdJ dR_wayTo_13 rfl rfl (pk_sub (b := 1) (by omega)) (by omega) ?_
  -- at 14: .imul
  rw [ev]
  refine x_imul dR_wayTo_14 ?_
  refine x_aload_n dR_wayTo_15 rfl ?_
  refine x_getR fl_R_59 rfl dR_wayTo_16 rfl rfl rfl ?_
  refine x_iload_n dR_wayTo_19 rfl ?_
  refine x_ialdJ (j := s) dR_wayTo_20 rfl rfl (by first | rfl | (simp only [← nI_add, ← pk_mul]; rfl)) (by omega) ?_
  -- at 21: .iadd
  rw [eu]
  refine x_iadd dR_wayTo_21 ?_
  refine x_ialdJ dR_wayTo_22 rfl rfl (r6 v u) (by omega) ?_
  -- at 23: .ireturn
  refine x_ireturn dR_wayTo_23 rfl rfl ?_
  exact h1
def sp_R_judge : SpT := rSp [] (fun E => .int (judgeS E)) (fun E => E)
set_option maxHeartbeats 4000000 in
set_option maxRecDepth 100000 in
theorem c_R_judge : Con mR_judge 3 0 0 sp_R_judge := by
  refine con_of_X rfl fun G as S I L Post hs => ?_
  obtain ⟨rfl, rfl, hok, h1⟩ := hs
  dsimp only at h1
  have h1 := h1 I L (fun _ _ => rfl) hok.2 rfl
  refine ⟨2, Nat.le_of_ble_eq_true rfl, ?_⟩
  show X mR_judge G _ S1 I L 0 [.ref 59, .null, .null] [] Post
  obtain ⟨b1, b2, -⟩ := hok.1.c
  have b1 : I 59 17 = nI (sN (rE I)) := b1
  refine x_iconst (v := 1) dR_judge_0 rfl ?_
  refine x_istoren_1 dR_judge_1 rfl rfl ?_
  -- at 2: .iload_n 1
  have loop : ∀ (k i : Nat) (a2 : Value), (i + k = sN (rE I) ∨ (k = 0 ∧ sN (rE I) ≤ i ∧ i < 100)) → 1 ≤ i → Post (some (.int (jR (rE I) k i))) S1 I L → X mR_judge G (3, 0, 0) S1 I L 2 [.ref 59, .int (nI i), a2] [] Post := by
    intro k
    induction k with
    | zero =>
      intro i a2 hi hi1 hp
      refine x_iload_n dR_judge_2 rfl ?_
      refine x_aload_n dR_judge_3 rfl ?_
      refine x_getI fl_R_158 rfl dR_judge_4 rfl rfl ?_
      -- at 7: .if_icmp .ge 45
      rw [b1]
      refine x_icmp_ge (tgt := 52) dR_judge_7 (by decide) (fun _ => ?_) (fun h => absurd (nI_le (by omega) (by omega)) h)
      refine x_iconst (v := -1) dR_judge_52 rfl ?_
      -- at 53: .ireturn
      refine x_ireturn dR_judge_53 rfl rfl ?_
      exact hp
    | succ k ih =>
      intro i a2 hi hi1 hp
      have hi2 : i < sN (rE I) := by omega
      have e16 : I 76 i = rE I 16 i := (mk_lt hi2).symm
      have e16' : I 76 (i - 1) = rE I 16 (i - 1) := (mk_lt (by have : sN (rE I) = cl (I 59 17) := rfl; omega)).symm
      rw [jR] at hp
      refine x_iload_n dR_judge_2 rfl ?_
      refine x_aload_n dR_judge_3 rfl ?_
      refine x_getI fl_R_158 rfl dR_judge_4 rfl rfl ?_
      -- at 7: .if_icmp .ge 45
      rw [b1]
      refine x_icmp_ge (tgt := 52) dR_judge_7 (by decide) (fun h => absurd h (nI_ge (by omega) (by omega))) (fun _ => ?_)
      refine x_aload_n dR_judge_10 rfl ?_
      refine x_getR fl_R_62 rfl dR_judge_11 rfl rfl rfl ?_
      refine x_iload_n dR_judge_14 rfl ?_
      refine x_ialdJ (j := i) dR_judge_15 rfl rfl (by first | rfl | (simp only [← nI_add, ← pk_mul]; rfl)) (by omega) ?_
      refine x_aload_n dR_judge_16 rfl ?_
      refine x_getR fl_R_62 rfl dR_judge_17 rfl rfl rfl ?_
      refine x_iload_n dR_judge_20 rfl ?_
      refine x_iconst (v := 1) dR_judge_21 rfl ?_
      refine x_isub dR_judge_22 ?_
      refine x_ialdJ dR_judge_23 rfl rfl (pk_sub (b := 1) (by omega)) (by omega) ?_
      -- at 24: .isub
      rw [e16, e16']
      refine x_isub dR_judge_24 ?_
      refine x_istoren_2 dR_judge_25 rfl rfl ?_
      refine x_iload_n dR_judge_26 rfl ?_
      -- at 27: .ifCond .lt 17
      refine x_if_lt (tgt := 44) dR_judge_27 (by decide) (fun c1 => ?_) (fun c1 => ?_)
      · rw [if_pos (show lateV (rE I) i from Or.inl c1)] at hp
        refine x_iload_n dR_judge_44 rfl ?_
        -- at 45: .ireturn
        refine x_ireturn dR_judge_45 rfl rfl ?_
        exact hp
      · refine x_aload_n dR_judge_30 rfl ?_
        refine x_iload_n dR_judge_31 rfl ?_
        -- at 32: .invokevirtual 319
        refine x_callV_1 c_R_wayTo ok_R_wayTo ml_R_319 dR_judge_32 rfl rfl rfl rfl rfl ?_
        refine ⟨i, rfl, rfl, hok, hi1, hi2, ?_⟩
        refine x_aload_n dR_judge_35 rfl ?_
        refine x_getI fl_R_16 rfl dR_judge_36 rfl rfl ?_
        refine x_iload_n dR_judge_39 rfl ?_
        refine x_imul dR_judge_40 ?_
        -- at 41: .if_icmp .le 5
        refine x_icmp_le (tgt := 46) dR_judge_41 (by decide) (fun c2 => ?_) (fun c2 => ?_)
        · rw [if_neg (show ¬ lateV (rE I) i from fun z => z.elim c1 (fun y => absurd y (Int32.not_lt.mpr c2)))] at hp
          refine x_iincp_1 dR_judge_46 rfl rfl ?_
          refine x_goto (tgt := 2) dR_judge_49 (by decide) ?_
          -- at 2: .iload_n 1
          rw [nI_1]
          exact ih (i + 1) _ (by omega) (by omega) hp
        · rw [if_pos (show lateV (rE I) i from Or.inr (Int32.not_le.mp c2))] at hp
          refine x_iload_n dR_judge_44 rfl ?_
          -- at 45: .ireturn
          refine x_ireturn dR_judge_45 rfl rfl ?_
          exact hp
  exact loop (sN (rE I) - 1) 1 .null (by omega) (by omega) h1
def sp_R_walk : SpT := rSp [] (fun E => .int (walkS E)) (fun E => E)
set_option maxHeartbeats 4000000 in
set_option maxRecDepth 100000 in
theorem c_R_walk : Con mR_walk 3 0 0 sp_R_walk := by
  refine con_of_X rfl fun G as S I L Post hs => ?_
  obtain ⟨rfl, rfl, hok, h1⟩ := hs
  dsimp only at h1
  have h1 := h1 I L (fun _ _ => rfl) hok.2 rfl
  refine ⟨2, Nat.le_of_ble_eq_true rfl, ?_⟩
  show X mR_walk G _ S1 I L 0 [.ref 59, .null, .null] [] Post
  obtain ⟨b1, b2, -⟩ := hok.1.c
  have b1 : I 59 17 = nI (sN (rE I)) := b1
  refine x_iconst (v := 0) dR_walk_0 rfl ?_
  refine x_istoren_1 dR_walk_1 rfl rfl ?_
  refine x_iconst (v := 1) dR_walk_2 rfl ?_
  refine x_istoren_2 dR_walk_3 rfl rfl ?_
  -- at 4: .iload_n 2
  have loop : ∀ (k i : Nat) (acc : Int32), i + k = sN (rE I) - 1 → acc = wkR (rE I) i → X mR_walk G (3, 0, 0) S1 I L 4 [.ref 59, .int acc, .int (nI (i + 1))] [] Post := by
    intro k
    induction k with
    | zero =>
      intro i acc hi ha
      obtain rfl : i = sN (rE I) - 1 := by omega
      refine x_iload_n dR_walk_4 rfl ?_
      refine x_aload_n dR_walk_5 rfl ?_
      refine x_getI fl_R_158 rfl dR_walk_6 rfl rfl ?_
      -- at 9: .if_icmp .ge 17
      rw [b1]
      refine x_icmp_ge (tgt := 26) dR_walk_9 (by decide) (fun _ => ?_) (fun h => absurd (nI_le (by omega) (by omega)) h)
      refine x_iload_n dR_walk_26 rfl ?_
      -- at 27: .ireturn
      refine x_ireturn dR_walk_27 rfl rfl ?_
      rw [ha]
      exact h1
    | succ k ih =>
      intro i acc hi ha
      refine x_iload_n dR_walk_4 rfl ?_
      refine x_aload_n dR_walk_5 rfl ?_
      refine x_getI fl_R_158 rfl dR_walk_6 rfl rfl ?_
      -- at 9: .if_icmp .ge 17
      rw [b1]
      refine x_icmp_ge (tgt := 26) dR_walk_9 (by decide) (fun h => absurd h (nI_ge (by omega) (by omega))) (fun _ => ?_)
      refine x_iload_n dR_walk_12 rfl ?_
      refine x_aload_n dR_walk_13 rfl ?_
      refine x_iload_n dR_walk_14 rfl ?_
      -- at 15: .invokevirtual 319
      refine x_callV_1 c_R_wayTo ok_R_wayTo ml_R_319 dR_walk_15 rfl rfl rfl rfl rfl ?_
      refine ⟨i + 1, rfl, rfl, hok, by omega, by omega, ?_⟩
      refine x_iadd dR_walk_18 ?_
      refine x_istoren_1 dR_walk_19 rfl rfl ?_
      refine x_iincp_2 dR_walk_20 rfl rfl ?_
      refine x_goto (tgt := 4) dR_walk_23 (by decide) ?_
      -- at 4: .iload_n 2
      rw [nI_1]
      refine ih (i + 1) _ (by omega) ?_
      rw [wkR, ha]
  exact loop (sN (rE I) - 1) 0 0 (by omega) rfl
def sp_R_isUnder : SpT := fun as S I L Post => ∃ k w : Int32, as = [.int k, .int w] ∧ bPost (isU k w) S I L Post
set_option maxHeartbeats 4000000 in
set_option maxRecDepth 100000 in
theorem c_R_isUnder : Con mR_isUnder 2 0 0 sp_R_isUnder := by
  refine con_of_X rfl fun G as S I L Post hs => ?_
  obtain ⟨k, w, rfl, h1, h2⟩ := hs
  refine ⟨0, Nat.le_of_ble_eq_true rfl, ?_⟩
  show X mR_isUnder G _ S I L 0 [.int k, .int w] [] Post
  have yes : isU k w → X mR_isUnder G (2, 0, 0) S I L 24 [.int k, .int w] [] Post := by
    intro h
    refine x_iconst (v := 1) dR_isUnder_24 rfl ?_
    refine x_goto (tgt := 29) dR_isUnder_25 (by decide) ?_
    -- at 29: .ireturn
    refine x_ireturn dR_isUnder_29 rfl rfl ?_
    exact h1 h
  have no : ¬ isU k w → X mR_isUnder G (2, 0, 0) S I L 28 [.int k, .int w] [] Post := by
    intro h
    refine x_iconst (v := 0) dR_isUnder_28 rfl ?_
    -- at 29: .ireturn
    refine x_ireturn dR_isUnder_29 rfl rfl ?_
    exact h2 h
  refine x_iload_n dR_isUnder_0 rfl ?_
  -- at 1: .ifCond .eq 23
  refine x_if_eq (tgt := 24) dR_isUnder_1 (by decide) (fun c1 => ?_) (fun c1 => ?_)
  · exact yes (Or.inl c1)
  · refine x_iload_n dR_isUnder_4 rfl ?_
    refine x_iload_n dR_isUnder_5 rfl ?_
    -- at 6: .if_icmp .eq 18
    refine x_icmp_eq (tgt := 24) dR_isUnder_6 (by decide) (fun c2 => ?_) (fun c2 => ?_)
    · exact yes (Or.inr (Or.inl c2))
    · refine x_iload_n dR_isUnder_9 rfl ?_
      refine x_iconst (v := 1) dR_isUnder_10 rfl ?_
      -- at 11: .if_icmp .ne 17
      refine x_icmp_ne (tgt := 28) dR_isUnder_11 (by decide) (fun c3 => ?_) (fun c3 => ?_)
      · exact no (fun z => z.elim c1 (fun y => y.elim c2 (fun x => c3 x.1)))
      · refine x_iload_n dR_isUnder_14 rfl ?_
        refine x_iconst (v := 3) dR_isUnder_15 rfl ?_
        -- at 16: .if_icmp .eq 8
        refine x_icmp_eq (tgt := 24) dR_isUnder_16 (by decide) (fun c4 => ?_) (fun c4 => ?_)
        · exact yes (Or.inr (Or.inr ⟨c3, Or.inl c4⟩))
        · refine x_iload_n dR_isUnder_19 rfl ?_
          refine x_iconst (v := 5) dR_isUnder_20 rfl ?_
          -- at 21: .if_icmp .ne 7
          refine x_icmp_ne (tgt := 28) dR_isUnder_21 (by decide) (fun c5 => ?_) (fun c5 => ?_)
          · exact no (fun z => z.elim c1 (fun y => y.elim c2 (fun x => x.2.elim c4 c5)))
          · exact yes (Or.inr (Or.inr ⟨c3, Or.inr c5⟩))
theorem ge_in {x lo n1 : Int32} {n : Nat} (hn : n1 = nI n) (hle : n ≤ 1000) (h0 : 0 ≤ x) : inR x 0 (n1 - 1) ↔ x < n1 := by
  obtain ⟨k, hk, rfl⟩ := nat_any h0
  subst hn
  constructor
  · intro h
    obtain ⟨j, hj, e⟩ := has_nat hle h
    rw [e]
    exact (nI_ltI (by omega) (by omega)).mpr hj
  · intro h
    have hj := (nI_ltI hk (by omega)).mp h
    refine ⟨h0, ?_⟩
    rw [show nI n - 1 = nI (n - 1) from pk_sub (b := 1) (by omega)]
    exact nI_le (by omega) (by omega)
def sp_R_taken : SpT := fun as S I L Post => ∃ i k : Int32, rSp [.int i, .int k] (fun E => .int (takenS E i k)) (fun E => E) as S I L Post
set_option maxHeartbeats 4000000 in
set_option maxRecDepth 100000 in
theorem c_R_taken : Con mR_taken 3 0 0 sp_R_taken := by
  refine con_of_X rfl fun G as S I L Post hs => ?_
  obtain ⟨i, k, rfl, rfl, hok, h1⟩ := hs
  dsimp only at h1
  have h1 := h1 I L (fun _ _ => rfl) hok.2 rfl
  refine ⟨0, Nat.le_of_ble_eq_true rfl, ?_⟩
  show X mR_taken G _ S1 I L 0 [.ref 59, .int i, .int k] [] Post
  obtain ⟨v1, v2, -⟩ := hok.1.b
  obtain ⟨c1, c2, -⟩ := hok.1.a
  refine x_iload_n dR_taken_0 rfl ?_
  refine x_iconst (v := 0) dR_taken_1 rfl ?_
  refine x_bipush (v := 6) dR_taken_2 rfl ?_
  -- at 4: .invokestatic 151
  refine x_callS_3 c_R_in ok_R_in ml_R_151 dR_taken_4 rfl rfl ?_
  refine ⟨_, _, _, rfl, fun a1 => ?_, fun a1 => ?_⟩
  · have a1 : inR k 0 6 := a1
    refine x_if_ne (tgt := 13) dR_taken_7 (by decide) (fun _ => ?_) (fun h => absurd h (by decide))
    rw [takenS, if_neg (not_not_intro a1)] at h1
    refine x_iload_n dR_taken_13 rfl ?_
    refine x_iconst (v := 0) dR_taken_14 rfl ?_
    refine x_bipush (v := 15) dR_taken_15 rfl ?_
    -- at 17: .invokestatic 151
    refine x_callS_3 c_R_in ok_R_in ml_R_151 dR_taken_17 rfl rfl ?_
    refine ⟨_, _, _, rfl, fun a2 => ?_, fun a2 => ?_⟩
    · have a2 : inR i 0 15 := a2
      refine x_if_ne (tgt := 26) dR_taken_20 (by decide) (fun _ => ?_) (fun h => absurd h (by decide))
      rw [if_neg (not_not_intro a2)] at h1
      obtain ⟨j, hj, rfl⟩ := inR_of (n := 15) (by decide) a2
      refine x_iload_n dR_taken_26 rfl ?_
      refine x_bipush (v := 8) dR_taken_27 rfl ?_
      -- at 29: .if_icmp .ge 34
      refine x_icmp_ge (tgt := 63) dR_taken_29 (by decide) (fun c3 => ?_) (fun c3 => ?_)
      · rw [if_neg (Int32.not_lt.mpr c3)] at h1
        have hj8 : 8 ≤ j := by
          by_cases z : 8 ≤ j
          · exact z
          · exact absurd c3 (nI_ge (b := 8) (by omega) (by omega))
        have e8 : nI j - 8 = nI (j - 8) := pk_sub (b := 8) hj8
        have hin := ge_in (lo := 0) c1 (by omega) (show 0 ≤ nI (j - 8) from nI_le (a := 0) (by omega) (by omega))
        refine x_iload_n dR_taken_63 rfl ?_
        refine x_bipush (v := 8) dR_taken_64 rfl ?_
        refine x_isub dR_taken_66 ?_
        refine x_aload_n dR_taken_67 rfl ?_
        refine x_getI fl_R_148 rfl dR_taken_68 rfl rfl ?_
        -- at 71: .if_icmp .lt 8
        rw [e8]
        rw [e8] at h1
        refine x_icmp_lt (tgt := 79) dR_taken_71 (by decide) (fun c4 => ?_) (fun c4 => ?_)
        · have c4 : nI (j - 8) < rE I 29 1 := c4
          rw [if_neg (not_not_intro (hin.mpr c4))] at h1
          rw [c1] at c4
          have hlt := (nI_ltI (by omega) (by omega)).mp c4
          rw [cl_nI (by omega)] at h1
          refine x_iload_n dR_taken_79 rfl ?_
          refine x_bipush (v := 6) dR_taken_80 rfl ?_
          -- at 82: .if_icmp .ge 26
          refine x_icmp_ge (tgt := 108) dR_taken_82 (by decide) (fun c5 => ?_) (fun c5 => ?_)
          · rw [if_neg (fun z => absurd z.1 (Int32.not_lt.mpr c5))] at h1
            refine x_bipush (v := -13) dR_taken_108 rfl ?_
            -- at 110: .ireturn
            refine x_ireturn dR_taken_110 rfl rfl ?_
            exact h1
          · have c5 : k < 6 := Int32.not_le.mp c5
            refine x_aload_n dR_taken_85 rfl ?_
            refine x_getR fl_R_20 rfl dR_taken_86 rfl rfl rfl ?_
            refine x_iload_n dR_taken_89 rfl ?_
            refine x_bipush (v := 8) dR_taken_90 rfl ?_
            refine x_isub dR_taken_92 ?_
            -- at 93: .iaload
            rw [e8]
            refine x_ialdJ (j := j - 8) dR_taken_93 rfl rfl (by first | rfl | (simp only [← nI_add, ← pk_mul]; rfl)) (by omega) ?_
            refine x_iload_n dR_taken_94 rfl ?_
            -- at 95: .invokestatic 380
            refine x_callS_2 c_R_isUnder ok_R_isUnder ml_R_380 dR_taken_95 rfl rfl ?_
            refine ⟨_, _, rfl, fun g => ?_, fun g => ?_⟩
            · rw [if_pos ⟨c5, g⟩] at h1
              refine x_if_eq (tgt := 108) dR_taken_98 (by decide) (fun h => absurd h (by decide)) (fun _ => ?_)
              refine x_iload_n dR_taken_101 rfl ?_
              refine x_bipush (v := 8) dR_taken_102 rfl ?_
              refine x_isub dR_taken_104 ?_
              refine x_goto (tgt := 110) dR_taken_105 (by decide) ?_
              -- at 110: .ireturn
              rw [e8]
              refine x_ireturn dR_taken_110 rfl rfl ?_
              exact h1
            · rw [if_neg (fun z => g z.2)] at h1
              refine x_if_eq (tgt := 108) dR_taken_98 (by decide) (fun _ => ?_) (fun h => absurd (by decide) h)
              refine x_bipush (v := -13) dR_taken_108 rfl ?_
              -- at 110: .ireturn
              refine x_ireturn dR_taken_110 rfl rfl ?_
              exact h1
        · have c4 : ¬ nI (j - 8) < rE I 29 1 := c4
          rw [if_pos (fun z => c4 (hin.mp z))] at h1
          refine x_bipush (v := -11) dR_taken_74 rfl ?_
          refine x_goto (tgt := 110) dR_taken_76 (by decide) ?_
          -- at 110: .ireturn
          refine x_ireturn dR_taken_110 rfl rfl ?_
          exact h1
      · rw [if_pos (Int32.not_le.mp c3)] at h1
        have hin := ge_in (lo := 0) v1 (by omega) (show 0 ≤ nI j from nI_le (a := 0) (by omega) (by omega))
        refine x_iload_n dR_taken_32 rfl ?_
        refine x_aload_n dR_taken_33 rfl ?_
        refine x_getI fl_R_155 rfl dR_taken_34 rfl rfl ?_
        -- at 37: .if_icmp .lt 8
        refine x_icmp_lt (tgt := 45) dR_taken_37 (by decide) (fun c4 => ?_) (fun c4 => ?_)
        · have c4 : nI j < rE I 29 2 := c4
          rw [if_neg (not_not_intro (hin.mpr c4)), cl_nI (by omega)] at h1
          rw [v1] at c4
          have hlt := (nI_ltI (by omega) (by omega)).mp c4
          refine x_iload_n dR_taken_45 rfl ?_
          refine x_bipush (v := 6) dR_taken_46 rfl ?_
          -- at 48: .if_icmp .ne 12
          refine x_icmp_ne (tgt := 60) dR_taken_48 (by decide) (fun c5 => ?_) (fun c5 => ?_)
          · rw [if_neg c5] at h1
            refine x_bipush (v := -13) dR_taken_60 rfl ?_
            -- at 62: .ireturn
            refine x_ireturn dR_taken_62 rfl rfl ?_
            exact h1
          · rw [if_pos c5] at h1
            refine x_aload_n dR_taken_51 rfl ?_
            refine x_getR fl_R_47 rfl dR_taken_52 rfl rfl rfl ?_
            refine x_iload_n dR_taken_55 rfl ?_
            refine x_ialdJ (j := j) dR_taken_56 rfl rfl (by first | rfl | (simp only [← nI_add, ← pk_mul]; rfl)) (by omega) ?_
            refine x_goto (tgt := 62) dR_taken_57 (by decide) ?_
            -- at 62: .ireturn
            refine x_ireturn dR_taken_62 rfl rfl ?_
            exact h1
        · have c4 : ¬ nI j < rE I 29 2 := c4
          rw [if_pos (fun z => c4 (hin.mp z))] at h1
          refine x_bipush (v := -11) dR_taken_40 rfl ?_
          refine x_goto (tgt := 62) dR_taken_42 (by decide) ?_
          -- at 62: .ireturn
          refine x_ireturn dR_taken_62 rfl rfl ?_
          exact h1
    · have a2 : ¬ inR i 0 15 := a2
      refine x_if_ne (tgt := 26) dR_taken_20 (by decide) (fun h => absurd (by decide) h) (fun _ => ?_)
      rw [if_pos a2] at h1
      refine x_bipush (v := -12) dR_taken_23 rfl ?_
      -- at 25: .ireturn
      refine x_ireturn dR_taken_25 rfl rfl ?_
      exact h1
  · have a1 : ¬ inR k 0 6 := a1
    refine x_if_ne (tgt := 13) dR_taken_7 (by decide) (fun h => absurd (by decide) h) (fun _ => ?_)
    rw [takenS, if_pos a1] at h1
    refine x_bipush (v := -2) dR_taken_10 rfl ?_
    -- at 12: .ireturn
    refine x_ireturn dR_taken_12 rfl rfl ?_
    exact h1
end
section
-- 64.r4
/-! the reference: image, back -/
theorem cpy_0 (f g : Nat → Int32) : va_cpy f g 0 0 0 = g := by
  funext j
  exact pk_cpy_out (Or.inr (by omega))
theorem cpy_1 (f g : Nat → Int32) (i : Nat) : up1 (va_cpy f g 0 0 i) i (f i) = va_cpy f g 0 0 (i + 1) := by
  funext j
  by_cases h : j = i
  · subst h
    rw [up1_s, sb_cpy0 (by omega)]
  · rw [up1_n _ _ h]
    by_cases h2 : j < i
    · rw [sb_cpy0 h2, sb_cpy0 (by omega)]
    · rw [pk_cpy_out (Or.inr (by omega)), pk_cpy_out (Or.inr (by omega))]
/-- rows copied so far -/
def cp1 (I : IM) (d s n : Nat) : IM := upr I d (va_cpy (I s) (I d) 0 0 n)
def cp4 (I : IM) (d s n : Nat) : IM := upr (upr (upr (upr I d (va_cpy (I s) (I d) 0 0 n)) (d + 1) (va_cpy (I (s + 1)) (I (d + 1)) 0 0 n)) (d + 2) (va_cpy (I (s + 2)) (I (d + 2)) 0 0 n)) (d + 3) (va_cpy (I (s + 3)) (I (d + 3)) 0 0 n)
theorem upr_id (I : IM) (d : Nat) : upr I d (I d) = I := by
  funext k
  by_cases h : k = d
  · subst h; rw [upr_s]
  · rw [upr_n _ _ h]
theorem cp1_0 (I : IM) (d s : Nat) : cp1 I d s 0 = I := by
  unfold cp1
  rw [cpy_0, upr_id]
theorem cp4_0 (I : IM) (d s : Nat) : cp4 I d s 0 = I := by
  unfold cp4
  rw [cpy_0, cpy_0, cpy_0, cpy_0, upr_id, upr_id, upr_id, upr_id]
theorem cp1_1 (I : IM) {d s n : Nat} : up2 (cp1 I d s n) d n (I s n) = cp1 I d s (n + 1) := by
  unfold cp1 up2
  rw [upr_s, cpy_1]
  funext k
  by_cases h : k = d
  · subst h; rw [upr_s, upr_s]
  · rw [upr_n _ _ h, upr_n _ _ h, upr_n _ _ h]
theorem cp1_o (I : IM) {d s n k : Nat} (h : k ≠ d) : cp1 I d s n k = I k := upr_n _ _ h
theorem cp4_o (I : IM) {d s n k : Nat} (h : k < d ∨ d + 3 < k) : cp4 I d s n k = I k := by
  unfold cp4
  rw [upr_n _ _ (by omega), upr_n _ _ (by omega), upr_n _ _ (by omega), upr_n _ _ (by omega)]
theorem cp4_i (I : IM) {d s n q : Nat} (h : q < 4) : cp4 I d s n (d + q) = va_cpy (I (s + q)) (I (d + q)) 0 0 n := by
  unfold cp4
  rcases (show q = 0 ∨ q = 1 ∨ q = 2 ∨ q = 3 by omega) with rfl | rfl | rfl | rfl
  · rw [upr_n _ _ (by omega), upr_n _ _ (by omega), upr_n _ _ (by omega)]
    exact upr_s _ _ _
  · rw [upr_n _ _ (by omega), upr_n _ _ (by omega), upr_s]
  · rw [upr_n _ _ (by omega), upr_s]
  · rw [upr_s]
theorem cp4_1 (I : IM) {d s n : Nat} (hs : s + 3 < d ∨ d + 3 < s) : up2 (up2 (up2 (up2 (cp4 I d s n) d n (I s n)) (d + 1) n (I (s + 1) n)) (d + 2) n (I (s + 2) n)) (d + 3) n (I (s + 3) n) = cp4 I d s (n + 1) := by
  funext k
  by_cases h0 : k = d
  · subst h0
    rw [up2_n _ _ _ (by omega), up2_n _ _ _ (by omega), up2_n _ _ _ (by omega), up2_s]
    have e : cp4 I k s n k = va_cpy (I s) (I k) 0 0 n := cp4_i I (d := k) (s := s) (n := n) (q := 0) (by omega)
    have e' : cp4 I k s (n + 1) k = va_cpy (I s) (I k) 0 0 (n + 1) := cp4_i I (d := k) (s := s) (n := n + 1) (q := 0) (by omega)
    rw [e, e']
    exact cpy_1 _ _ _
  by_cases h1 : k = d + 1
  · subst h1
    rw [up2_n _ _ _ (by omega), up2_n _ _ _ (by omega), up2_s, up2_n _ _ _ (by omega), cp4_i I (by omega), cp4_i I (by omega)]
    exact cpy_1 _ _ _
  by_cases h2 : k = d + 2
  · subst h2
    rw [up2_n _ _ _ (by omega), up2_s, up2_n _ _ _ (by omega), up2_n _ _ _ (by omega), cp4_i I (by omega), cp4_i I (by omega)]
    exact cpy_1 _ _ _
  by_cases h3 : k = d + 3
  · subst h3
    rw [up2_s, up2_n _ _ _ (by omega), up2_n _ _ _ (by omega), up2_n _ _ _ (by omega), cp4_i I (by omega), cp4_i I (by omega)]
    exact cpy_1 _ _ _
  rw [up2_n _ _ _ h3, up2_n _ _ _ h2, up2_n _ _ _ h1, up2_n _ _ _ h0, cp4_o I (by omega), cp4_o I (by omega)]
def rimS (I : IM) : IM := up2 (up2 (up2 (up2 (up2 I 59 28 1) 59 29 (I 59 2)) 59 30 (I 59 3)) 59 31 (I 59 17)) 59 32 (I 59 27)
def rimU (I : IM) : IM := cp4 (cp1 (cp1 (cp1 (rimS I) 81 60 36) 82 61 6) 83 69 8) 84 74 11
theorem rim_rE (I : IM) (hok : rOk I) : rE (rimU I) = imageU (rE I) := by
  have h8 := hok.1.1.2.1
  have h10 := hok.1.2.2.1.2.1
  have hz := hok.1.z
  have en : pN (rE I) = cl (I 59 3) := rfl
  have es : sN (rE I) = cl (I 59 17) := rfl
  have s59 : ∀ k, k ≠ 59 → rimS I k = I k := fun k hk => by unfold rimS; rw [up2_n _ _ _ hk, up2_n _ _ _ hk, up2_n _ _ _ hk, up2_n _ _ _ hk, up2_n _ _ _ hk]
  generalize hJ : rimU I = J
  have ho : ∀ k, k ∉ [59, 81, 82, 83, 84, 85, 86, 87] → J k = I k := by
    intro k hk
    simp only [List.mem_cons, List.not_mem_nil, or_false, not_or] at hk
    subst hJ
    unfold rimU
    rw [cp4_o _ (by omega), cp1_o _ (by omega), cp1_o _ (by omega), cp1_o _ (by omega), s59 k (by omega)]
  have h59 : J 59 = rimS I 59 := by
    subst hJ
    unfold rimU
    rw [cp4_o _ (by omega), cp1_o _ (by omega), cp1_o _ (by omega), cp1_o _ (by omega)]
  have hsc : ∀ j, j ∉ [28, 29, 30, 31, 32] → J 59 j = I 59 j := by
    intro j hj
    simp only [List.mem_cons, List.not_mem_nil, or_false, not_or] at hj
    rw [h59]
    unfold rimS
    rw [up2_s, up1_n _ _ (by omega), up2_s, up1_n _ _ (by omega), up2_s, up1_n _ _ (by omega), up2_s, up1_n _ _ (by omega), up2_s, up1_n _ _ (by omega)]
  have c7 : J 59 28 = 1 := by rw [h59]; unfold rimS; rw [up2_s, up1_n _ _ (by omega), up2_s, up1_n _ _ (by omega), up2_s, up1_n _ _ (by omega), up2_s, up1_n _ _ (by omega), up2_s, up1_s]
  have c8 : J 59 29 = I 59 2 := by rw [h59]; unfold rimS; rw [up2_s, up1_n _ _ (by omega), up2_s, up1_n _ _ (by omega), up2_s, up1_n _ _ (by omega), up2_s, up1_s]
  have c9 : J 59 30 = I 59 3 := by rw [h59]; unfold rimS; rw [up2_s, up1_n _ _ (by omega), up2_s, up1_n _ _ (by omega), up2_s, up1_s]
  have c10 : J 59 31 = I 59 17 := by rw [h59]; unfold rimS; rw [up2_s, up1_n _ _ (by omega), up2_s, up1_s]
  have c11 : J 59 32 = I 59 27 := by rw [h59]; unfold rimS; rw [up2_s, up1_s]
  have e81 : J 81 = va_cpy (I 60) (I 81) 0 0 36 := by
    subst hJ
    unfold rimU
    rw [cp4_o _ (by omega), cp1_o _ (by omega), cp1_o _ (by omega), cp1, upr_s, s59 60 (by omega), s59 81 (by omega)]
  have e82 : J 82 = va_cpy (I 61) (I 82) 0 0 6 := by
    subst hJ
    unfold rimU
    rw [cp4_o _ (by omega), cp1_o _ (by omega), cp1, upr_s, cp1_o _ (by omega), cp1_o _ (by omega), s59 61 (by omega), s59 82 (by omega)]
  have e83 : J 83 = va_cpy (I 69) (I 83) 0 0 8 := by
    subst hJ
    unfold rimU
    rw [cp4_o _ (by omega), cp1, upr_s, cp1_o _ (by omega), cp1_o _ (by omega), cp1_o _ (by omega), cp1_o _ (by omega), s59 69 (by omega), s59 83 (by omega)]
  have e84 : ∀ q, q < 4 → J (84 + q) = va_cpy (I (74 + q)) (I (84 + q)) 0 0 11 := by
    intro q hq
    subst hJ
    unfold rimU
    rw [cp4_i _ hq, cp1_o _ (by omega), cp1_o _ (by omega), cp1_o _ (by omega), cp1_o _ (by omega), cp1_o _ (by omega), cp1_o _ (by omega), s59 (74 + q) (by omega), s59 (84 + q) (by omega)]
  have k22 : ∀ q, q < 4 → mk (cl (J 59 31)) (J (84 + q)) = mk (cl (I 59 17)) (I (74 + q)) := fun q hq => by
    rw [c10, e84 q hq]
    exact mk_cpy (by omega)
  funext a
  match a with
  | 0 => exact ho 60 (by decide)
  | 1 => exact ho 61 (by decide)
  | 2 => exact ho 62 (by decide)
  | 3 => exact ho 63 (by decide)
  | 4 => exact ho 64 (by decide)
  | 5 => exact ho 65 (by decide)
  | 6 => exact ho 66 (by decide)
  | 7 => exact ho 67 (by decide)
  | 8 => exact ho 68 (by decide)
  | 9 => show mk (cl (J 59 3)) (J 69) = mk (cl (I 59 3)) (I 69); rw [hsc 3 (by decide), ho 69 (by decide)]
  | 10 => exact ho 70 (by decide)
  | 11 => exact ho 71 (by decide)
  | 12 => exact ho 72 (by decide)
  | 13 => exact ho 73 (by decide)
  | 14 => show mk (cl (J 59 17)) (J 74) = mk (cl (I 59 17)) (I 74); rw [hsc 17 (by decide), ho 74 (by decide)]
  | 15 => show mk (cl (J 59 17)) (J 75) = mk (cl (I 59 17)) (I 75); rw [hsc 17 (by decide), ho 75 (by decide)]
  | 16 => show mk (cl (J 59 17)) (J 76) = mk (cl (I 59 17)) (I 76); rw [hsc 17 (by decide), ho 76 (by decide)]
  | 17 => show mk (cl (J 59 17)) (J 77) = mk (cl (I 59 17)) (I 77); rw [hsc 17 (by decide), ho 77 (by decide)]
  | 18 => show mk (cl (J 59 23)) (J 78) = mk (cl (I 59 23)) (I 78); rw [hsc 23 (by decide), ho 78 (by decide)]
  | 19 => exact (show img0 (J 59 28) (J 81) = I 60 by
      rw [img0_n (by rw [c7]; decide), e81, mk_cpy (Nat.le_refl _)]
      funext j
      unfold mk
      by_cases hj : j < 36
      · rw [if_pos hj]
      · rw [if_neg hj]; exact (((hz j).1 (by omega)).1).symm)
  | 20 => exact e82.trans (cpy_full (fun j hj => (hz j).2 hj))
  | 21 => exact (show mk (cl (J 59 30)) (J 83) = mk (cl (I 59 3)) (I 69) by rw [c9, e83]; exact mk_cpy (by omega))
  | 22 => exact k22 0 (by omega)
  | 23 => exact k22 1 (by omega)
  | 24 => exact k22 2 (by omega)
  | 25 => exact k22 3 (by omega)
  | 26 => exact ho 88 (by decide)
  | 27 => exact ho 89 (by decide)
  | 28 => exact ho 90 (by decide)
  | 29 =>
    funext j
    match j with
    | 0 => exact hsc 2 (by decide)
    | 1 => exact hsc 3 (by decide)
    | 2 => exact hsc 12 (by decide)
    | 3 => exact hsc 17 (by decide)
    | 4 => exact hsc 26 (by decide)
    | 5 => exact hsc 27 (by decide)
    | 6 => exact hsc 23 (by decide)
    | 7 => exact c7
    | 8 => exact (show img8 (J 59 28) (J 59 29) = I 59 2 by rw [img8_n (by rw [c7]; decide), c8])
    | 9 => exact c9
    | 10 => exact c10
    | 11 => exact c11
    | n + 12 => rfl
  | 30 => show mk (4 * cl (J 59 26)) (J 80) = mk (4 * cl (I 59 26)) (I 80); rw [hsc 26 (by decide), ho 80 (by decide)]
  | 31 => show (fun j => if j / 200 < cl (J 59 26) ∧ j % 200 < cl (J 80 (4 * (j / 200) + 3)) then J 79 j else 0) = (fun j => if j / 200 < cl (I 59 26) ∧ j % 200 < cl (I 80 (4 * (j / 200) + 3)) then I 79 j else 0); rw [hsc 26 (by decide), ho 80 (by decide), ho 79 (by decide)]
  | n + 32 => rfl
theorem cp_own {I : IM} (h : rOwn I) : rOwn (rimU I) := by
  unfold rimU cp4 cp1 rimS
  exact (((((((((((h.up (by decide) (Or.inr (by decide))).up (by decide) (Or.inr (by decide))).up (by decide) (Or.inr (by decide))).up (by decide) (Or.inr (by decide))).up (by decide) (Or.inr (by decide))).upr (by decide) (by decide)).upr (by decide) (by decide)).upr (by decide) (by decide)).upr (by decide) (by decide)).upr (by decide) (by decide)).upr (by decide) (by decide)).upr (by decide) (by decide)
def sp_R_image : SpT := rSp [] (fun E => .int (E 29 3)) imageU
set_option maxHeartbeats 4000000 in
set_option maxRecDepth 100000 in
theorem c_R_image : Con mR_image 2 0 0 sp_R_image := by
  refine con_of_X rfl fun G as S I L Post hs => ?_
  obtain ⟨rfl, rfl, hok, h1⟩ := hs
  dsimp only at h1
  refine ⟨1, Nat.le_of_ble_eq_true rfl, ?_⟩
  show X mR_image G _ S1 I L 0 [.ref 59, .null] [] Post
  have loop1 : ∀ (J : IM), (∀ a1 : Value, X mR_image G (2, 0, 0) S1 (cp1 J 81 60 36) L 63 [.ref 59, a1] [] Post) → ∀ (k i : Nat), i + k = 36 → X mR_image G (2, 0, 0) S1 (cp1 J 81 60 i) L 39 [.ref 59, .int (nI i)] [] Post := by
    intro J hc k
    induction k with
    | zero =>
      intro i hi
      obtain rfl : i = 36 := by omega
      refine x_iload_n dR_image_39 rfl ?_
      refine x_bipush (v := 36) dR_image_40 rfl ?_
      -- at 42: .if_icmp .ge 21
      refine x_icmp_ge (tgt := 63) dR_image_42 (by decide) (fun _ => ?_) (fun h => absurd (Int32.le_refl _) h)
      exact hc _
    | succ k ih =>
      intro i hi
      refine x_iload_n dR_image_39 rfl ?_
      refine x_bipush (v := 36) dR_image_40 rfl ?_
      -- at 42: .if_icmp .ge 21
      refine x_icmp_ge (tgt := 63) dR_image_42 (by decide) (fun h => absurd h (nI_ge (b := 36) (by omega) (by omega))) (fun _ => ?_)
      refine x_aload_n dR_image_45 rfl ?_
      refine x_getR fl_R_77 rfl dR_image_46 rfl rfl rfl ?_
      refine x_iload_n dR_image_49 rfl ?_
      refine x_aload_n dR_image_50 rfl ?_
      refine x_getR fl_R_7 rfl dR_image_51 rfl rfl rfl ?_
      refine x_iload_n dR_image_54 rfl ?_
      refine x_ialdJ (j := i) dR_image_55 rfl rfl (by first | rfl | (simp only [← nI_add, ← pk_mul]; rfl)) (by omega) ?_
      refine x_iastJ (j := i) dR_image_56 rfl rfl (by first | rfl | (simp only [← nI_add, ← pk_mul]; rfl)) (by omega) ?_
      -- at 57: .iinc 1 1
      refine x_iincp_1 dR_image_57 rfl rfl ?_
      refine x_goto (tgt := 39) dR_image_60 (by decide) ?_
      -- at 39: .iload_n 1
      rw [nI_1, cp1_o _ (show 60 ≠ 81 by decide), cp1_1]
      exact ih (i + 1) (by omega)
  have loop2 : ∀ (J : IM), (∀ a1 : Value, X mR_image G (2, 0, 0) S1 (cp1 J 82 61 6) L 89 [.ref 59, a1] [] Post) → ∀ (k i : Nat), i + k = 6 → X mR_image G (2, 0, 0) S1 (cp1 J 82 61 i) L 65 [.ref 59, .int (nI i)] [] Post := by
    intro J hc k
    induction k with
    | zero =>
      intro i hi
      obtain rfl : i = 6 := by omega
      refine x_iload_n dR_image_65 rfl ?_
      refine x_bipush (v := 6) dR_image_66 rfl ?_
      -- at 68: .if_icmp .ge 21
      refine x_icmp_ge (tgt := 89) dR_image_68 (by decide) (fun _ => ?_) (fun h => absurd (Int32.le_refl _) h)
      exact hc _
    | succ k ih =>
      intro i hi
      refine x_iload_n dR_image_65 rfl ?_
      refine x_bipush (v := 6) dR_image_66 rfl ?_
      -- at 68: .if_icmp .ge 21
      refine x_icmp_ge (tgt := 89) dR_image_68 (by decide) (fun h => absurd h (nI_ge (b := 6) (by omega) (by omega))) (fun _ => ?_)
      refine x_aload_n dR_image_71 rfl ?_
      refine x_getR fl_R_80 rfl dR_image_72 rfl rfl rfl ?_
      refine x_iload_n dR_image_75 rfl ?_
      refine x_aload_n dR_image_76 rfl ?_
      refine x_getR fl_R_13 rfl dR_image_77 rfl rfl rfl ?_
      refine x_iload_n dR_image_80 rfl ?_
      refine x_ialdJ (j := i) dR_image_81 rfl rfl (by first | rfl | (simp only [← nI_add, ← pk_mul]; rfl)) (by omega) ?_
      refine x_iastJ (j := i) dR_image_82 rfl rfl (by first | rfl | (simp only [← nI_add, ← pk_mul]; rfl)) (by omega) ?_
      -- at 83: .iinc 1 1
      refine x_iincp_1 dR_image_83 rfl rfl ?_
      refine x_goto (tgt := 65) dR_image_86 (by decide) ?_
      -- at 65: .iload_n 1
      rw [nI_1, cp1_o _ (show 61 ≠ 82 by decide), cp1_1]
      exact ih (i + 1) (by omega)
  have loop3 : ∀ (J : IM), (∀ a1 : Value, X mR_image G (2, 0, 0) S1 (cp1 J 83 69 8) L 115 [.ref 59, a1] [] Post) → ∀ (k i : Nat), i + k = 8 → X mR_image G (2, 0, 0) S1 (cp1 J 83 69 i) L 91 [.ref 59, .int (nI i)] [] Post := by
    intro J hc k
    induction k with
    | zero =>
      intro i hi
      obtain rfl : i = 8 := by omega
      refine x_iload_n dR_image_91 rfl ?_
      refine x_bipush (v := 8) dR_image_92 rfl ?_
      -- at 94: .if_icmp .ge 21
      refine x_icmp_ge (tgt := 115) dR_image_94 (by decide) (fun _ => ?_) (fun h => absurd (Int32.le_refl _) h)
      exact hc _
    | succ k ih =>
      intro i hi
      refine x_iload_n dR_image_91 rfl ?_
      refine x_bipush (v := 8) dR_image_92 rfl ?_
      -- at 94: .if_icmp .ge 21
      refine x_icmp_ge (tgt := 115) dR_image_94 (by decide) (fun h => absurd h (nI_ge (b := 8) (by omega) (by omega))) (fun _ => ?_)
      refine x_aload_n dR_image_97 rfl ?_
      refine x_getR fl_R_83 rfl dR_image_98 rfl rfl rfl ?_
      refine x_iload_n dR_image_101 rfl ?_
      refine x_aload_n dR_image_102 rfl ?_
      refine x_getR fl_R_41 rfl dR_image_103 rfl rfl rfl ?_
      refine x_iload_n dR_image_106 rfl ?_
      refine x_ialdJ (j := i) dR_image_107 rfl rfl (by first | rfl | (simp only [← nI_add, ← pk_mul]; rfl)) (by omega) ?_
      refine x_iastJ (j := i) dR_image_108 rfl rfl (by first | rfl | (simp only [← nI_add, ← pk_mul]; rfl)) (by omega) ?_
      -- at 109: .iinc 1 1
      refine x_iincp_1 dR_image_109 rfl rfl ?_
      refine x_goto (tgt := 91) dR_image_112 (by decide) ?_
      -- at 91: .iload_n 1
      rw [nI_1, cp1_o _ (show 69 ≠ 83 by decide), cp1_1]
      exact ih (i + 1) (by omega)
  have loop4 : ∀ (J : IM), (∀ a1 : Value, X mR_image G (2, 0, 0) S1 (cp4 J 84 74 11) L 177 [.ref 59, a1] [] Post) → ∀ (k i : Nat), i + k = 11 → X mR_image G (2, 0, 0) S1 (cp4 J 84 74 i) L 117 [.ref 59, .int (nI i)] [] Post := by
    intro J hc k
    induction k with
    | zero =>
      intro i hi
      obtain rfl : i = 11 := by omega
      refine x_iload_n dR_image_117 rfl ?_
      refine x_bipush (v := 11) dR_image_118 rfl ?_
      -- at 120: .if_icmp .ge 57
      refine x_icmp_ge (tgt := 177) dR_image_120 (by decide) (fun _ => ?_) (fun h => absurd (Int32.le_refl _) h)
      exact hc _
    | succ k ih =>
      intro i hi
      refine x_iload_n dR_image_117 rfl ?_
      refine x_bipush (v := 11) dR_image_118 rfl ?_
      -- at 120: .if_icmp .ge 57
      refine x_icmp_ge (tgt := 177) dR_image_120 (by decide) (fun h => absurd h (nI_ge (b := 11) (by omega) (by omega))) (fun _ => ?_)
      refine x_aload_n dR_image_123 rfl ?_
      refine x_getR fl_R_86 rfl dR_image_124 rfl rfl rfl ?_
      refine x_iload_n dR_image_127 rfl ?_
      refine x_aload_n dR_image_128 rfl ?_
      refine x_getR fl_R_56 rfl dR_image_129 rfl rfl rfl ?_
      refine x_iload_n dR_image_132 rfl ?_
      refine x_ialdJ (j := i) dR_image_133 rfl rfl (by first | rfl | (simp only [← nI_add, ← pk_mul]; rfl)) (by omega) ?_
      refine x_iastJ (j := i) dR_image_134 rfl rfl (by first | rfl | (simp only [← nI_add, ← pk_mul]; rfl)) (by omega) ?_
      refine x_aload_n dR_image_135 rfl ?_
      refine x_getR fl_R_89 rfl dR_image_136 rfl rfl rfl ?_
      refine x_iload_n dR_image_139 rfl ?_
      refine x_aload_n dR_image_140 rfl ?_
      refine x_getR fl_R_59 rfl dR_image_141 rfl rfl rfl ?_
      refine x_iload_n dR_image_144 rfl ?_
      refine x_ialdJ (j := i) dR_image_145 rfl rfl (by first | rfl | (simp only [← nI_add, ← pk_mul]; rfl)) (by omega) ?_
      refine x_iastJ (j := i) dR_image_146 rfl rfl (by first | rfl | (simp only [← nI_add, ← pk_mul]; rfl)) (by omega) ?_
      refine x_aload_n dR_image_147 rfl ?_
      refine x_getR fl_R_92 rfl dR_image_148 rfl rfl rfl ?_
      refine x_iload_n dR_image_151 rfl ?_
      refine x_aload_n dR_image_152 rfl ?_
      refine x_getR fl_R_62 rfl dR_image_153 rfl rfl rfl ?_
      refine x_iload_n dR_image_156 rfl ?_
      refine x_ialdJ (j := i) dR_image_157 rfl rfl (by first | rfl | (simp only [← nI_add, ← pk_mul]; rfl)) (by omega) ?_
      refine x_iastJ (j := i) dR_image_158 rfl rfl (by first | rfl | (simp only [← nI_add, ← pk_mul]; rfl)) (by omega) ?_
      refine x_aload_n dR_image_159 rfl ?_
      refine x_getR fl_R_95 rfl dR_image_160 rfl rfl rfl ?_
      refine x_iload_n dR_image_163 rfl ?_
      refine x_aload_n dR_image_164 rfl ?_
      refine x_getR fl_R_65 rfl dR_image_165 rfl rfl rfl ?_
      refine x_iload_n dR_image_168 rfl ?_
      refine x_ialdJ (j := i) dR_image_169 rfl rfl (by first | rfl | (simp only [← nI_add, ← pk_mul]; rfl)) (by omega) ?_
      refine x_iastJ (j := i) dR_image_170 rfl rfl (by first | rfl | (simp only [← nI_add, ← pk_mul]; rfl)) (by omega) ?_
      -- at 171: .iinc 1 1
      simp only [up2_n, up2_s, ne_eq, Nat.reduceEqDiff, not_false_eq_true]
      rw [cp4_o J (show 74 < 84 ∨ 84 + 3 < 74 by omega), cp4_o J (show 75 < 84 ∨ 84 + 3 < 75 by omega), cp4_o J (show 76 < 84 ∨ 84 + 3 < 76 by omega), cp4_o J (show 77 < 84 ∨ 84 + 3 < 77 by omega), cp4_1 J (d := 84) (s := 74) (n := i) (by omega)]
      refine x_iincp_1 dR_image_171 rfl rfl ?_
      refine x_goto (tgt := 117) dR_image_174 (by decide) ?_
      -- at 117: .iload_n 1
      rw [nI_1]
      exact ih (i + 1) (by omega)
  refine x_aload_n dR_image_0 rfl ?_
  refine x_iconst (v := 1) dR_image_1 rfl ?_
  refine x_putI fl_R_361 rfl dR_image_2 (by decide) rfl rfl rfl rfl ?_
  refine x_aload_n dR_image_5 rfl ?_
  refine x_aload_n dR_image_6 rfl ?_
  refine x_getI fl_R_16 rfl dR_image_7 rfl rfl ?_
  refine x_putI fl_R_364 rfl dR_image_10 (by decide) rfl rfl rfl rfl ?_
  refine x_aload_n dR_image_13 rfl ?_
  refine x_aload_n dR_image_14 rfl ?_
  refine x_getI fl_R_148 rfl dR_image_15 rfl rfl ?_
  refine x_putI fl_R_367 rfl dR_image_18 (by decide) rfl rfl rfl rfl ?_
  refine x_aload_n dR_image_21 rfl ?_
  refine x_aload_n dR_image_22 rfl ?_
  refine x_getI fl_R_158 rfl dR_image_23 rfl rfl ?_
  refine x_putI fl_R_370 rfl dR_image_26 (by decide) rfl rfl rfl rfl ?_
  refine x_aload_n dR_image_29 rfl ?_
  refine x_aload_n dR_image_30 rfl ?_
  refine x_getI fl_R_164 rfl dR_image_31 rfl rfl ?_
  refine x_putI fl_R_373 rfl dR_image_34 (by decide) rfl rfl rfl rfl ?_
  refine x_iconst (v := 0) dR_image_37 rfl ?_
  refine x_istoren_1 dR_image_38 rfl rfl ?_
  -- at 39: .iload_n 1
  have e1 := loop1 (rimS I) (fun a1 => by
    refine x_iconst (v := 0) dR_image_63 rfl ?_
    refine x_istoren_1 dR_image_64 rfl rfl ?_
    -- at 65: .iload_n 1
    have e2 := loop2 (cp1 (rimS I) 81 60 36) (fun a1 => by
      refine x_iconst (v := 0) dR_image_89 rfl ?_
      refine x_istoren_1 dR_image_90 rfl rfl ?_
      -- at 91: .iload_n 1
      have e3 := loop3 (cp1 (cp1 (rimS I) 81 60 36) 82 61 6) (fun a1 => by
        refine x_iconst (v := 0) dR_image_115 rfl ?_
        refine x_istoren_1 dR_image_116 rfl rfl ?_
        -- at 117: .iload_n 1
        have e4 := loop4 (cp1 (cp1 (cp1 (rimS I) 81 60 36) 82 61 6) 83 69 8) (fun a1 => by
          refine x_aload_n dR_image_177 rfl ?_
          refine x_getI fl_R_158 rfl dR_image_178 rfl rfl ?_
          -- at 181: .ireturn
          have es : rimU I 59 17 = I 59 17 := by
            unfold rimU
            rw [cp4_o _ (by omega), cp1_o _ (by omega), cp1_o _ (by omega), cp1_o _ (by omega)]
            unfold rimS
            rw [up2_s, up1_n _ _ (by omega), up2_s, up1_n _ _ (by omega), up2_s, up1_n _ _ (by omega), up2_s, up1_n _ _ (by omega), up2_s, up1_n _ _ (by omega)]
          refine x_eqi (y := I 59 17) es ?_
          refine x_ireturn dR_image_181 rfl rfl ?_
          exact h1 (rimU I) L (fun k hk => by
            unfold rimU
            rw [cp4_o _ (by omega), cp1_o _ (by omega), cp1_o _ (by omega), cp1_o _ (by omega)]
            unfold rimS
            rw [up2_n _ _ _ (by omega), up2_n _ _ _ (by omega), up2_n _ _ _ (by omega), up2_n _ _ _ (by omega), up2_n _ _ _ (by omega)]) (cp_own hok.2) (rim_rE I hok)) 11 0 rfl
        rw [cp4_0] at e4
        exact e4) 8 0 rfl
      rw [cp1_0] at e3
      exact e3) 6 0 rfl
    rw [cp1_0] at e2
    exact e2) 36 0 rfl
  rw [cp1_0] at e1
  simp only [up2_n, up2_s, ne_eq, Nat.reduceEqDiff, not_false_eq_true, up1, Nat.reduceEqDiff, if_true, if_false]
  exact e1
def rbkS (I : IM) : IM := up2 (up2 (up2 I 59 2 (I 59 29)) 59 17 (I 59 31)) 59 27 (I 59 32)
def rbkU (I : IM) (n : Nat) : IM := cp4 (cp1 (cp1 (cp1 (rbkS I) 60 81 36) 61 82 6) 69 83 n) 74 84 11
theorem rbk_rE (I : IM) (hok : rOk I) (hf : ¬ I 59 28 = 0) (n : Nat) (hn : I 59 30 = nI n) (hnp : n ≤ pN (rE I)) (h10 : cl (I 59 31) ≤ 10) : rE (rbkU I n) = backU0 (rE I) := by
  have h8 := hok.1.1.2.1
  have hz := hok.1.z
  have en : pN (rE I) = cl (I 59 3) := rfl
  have s59 : ∀ k, k ≠ 59 → rbkS I k = I k := fun k hk => by unfold rbkS; rw [up2_n _ _ _ hk, up2_n _ _ _ hk, up2_n _ _ _ hk]
  generalize hJ : rbkU I n = J
  have ho : ∀ k, k ∉ [59, 60, 61, 69, 74, 75, 76, 77] → J k = I k := by
    intro k hk
    simp only [List.mem_cons, List.not_mem_nil, or_false, not_or] at hk
    subst hJ
    unfold rbkU
    rw [cp4_o _ (by omega), cp1_o _ (by omega), cp1_o _ (by omega), cp1_o _ (by omega), s59 k (by omega)]
  have h59 : J 59 = rbkS I 59 := by
    subst hJ
    unfold rbkU
    rw [cp4_o _ (by omega), cp1_o _ (by omega), cp1_o _ (by omega), cp1_o _ (by omega)]
  have hsc : ∀ j, j ∉ [2, 17, 27] → J 59 j = I 59 j := by
    intro j hj
    simp only [List.mem_cons, List.not_mem_nil, or_false, not_or] at hj
    rw [h59]
    unfold rbkS
    rw [up2_s, up1_n _ _ (by omega), up2_s, up1_n _ _ (by omega), up2_s, up1_n _ _ (by omega)]
  have c0 : J 59 2 = I 59 29 := by rw [h59]; unfold rbkS; rw [up2_s, up1_n _ _ (by omega), up2_s, up1_n _ _ (by omega), up2_s, up1_s]
  have c3 : J 59 17 = I 59 31 := by rw [h59]; unfold rbkS; rw [up2_s, up1_n _ _ (by omega), up2_s, up1_s]
  have c5 : J 59 27 = I 59 32 := by rw [h59]; unfold rbkS; rw [up2_s, up1_s]
  have e60 : J 60 = va_cpy (I 81) (I 60) 0 0 36 := by
    subst hJ
    unfold rbkU
    rw [cp4_o _ (by omega), cp1_o _ (by omega), cp1_o _ (by omega), cp1, upr_s, s59 60 (by omega), s59 81 (by omega)]
  have e61 : J 61 = va_cpy (I 82) (I 61) 0 0 6 := by
    subst hJ
    unfold rbkU
    rw [cp4_o _ (by omega), cp1_o _ (by omega), cp1, upr_s, cp1_o _ (by omega), cp1_o _ (by omega), s59 61 (by omega), s59 82 (by omega)]
  have e69 : J 69 = va_cpy (I 83) (I 69) 0 0 n := by
    subst hJ
    unfold rbkU
    rw [cp4_o _ (by omega), cp1, upr_s, cp1_o _ (by omega), cp1_o _ (by omega), cp1_o _ (by omega), cp1_o _ (by omega), s59 69 (by omega), s59 83 (by omega)]
  have e74 : ∀ q, q < 4 → J (74 + q) = va_cpy (I (84 + q)) (I (74 + q)) 0 0 11 := by
    intro q hq
    subst hJ
    unfold rbkU
    rw [cp4_i _ hq, cp1_o _ (by omega), cp1_o _ (by omega), cp1_o _ (by omega), cp1_o _ (by omega), cp1_o _ (by omega), cp1_o _ (by omega), s59 (74 + q) (by omega), s59 (84 + q) (by omega)]
  have k22 : ∀ q, q < 4 → mk (cl (J 59 17)) (J (74 + q)) = mk (cl (I 59 31)) (I (84 + q)) := fun q hq => by
    rw [c3, e74 q hq]
    exact mk_cpy (by omega)
  funext a
  match a with
  | 0 => exact (show J 60 = img0 (I 59 28) (I 81) by
      rw [img0_n hf, e60]
      funext j
      unfold mk
      by_cases hj : j < 36
      · rw [if_pos hj, sb_cpy0 hj]
      · rw [if_neg hj, pk_cpy_out (Or.inr (by omega))]; exact ((hz j).1 (by omega)).1)
  | 1 => exact e61.trans (cpy_full (fun j hj => ((hz j).2 hj).symm))
  | 2 => exact ho 62 (by decide)
  | 3 => exact ho 63 (by decide)
  | 4 => exact ho 64 (by decide)
  | 5 => exact ho 65 (by decide)
  | 6 => exact ho 66 (by decide)
  | 7 => exact ho 67 (by decide)
  | 8 => exact ho 68 (by decide)
  | 9 => exact (show mk (cl (J 59 3)) (J 69) = (fun j => if j < cl (I 59 30) then mk (cl (I 59 30)) (I 83) j else mk (cl (I 59 3)) (I 69) j) by
      rw [hsc 3 (by decide), e69, show I 59 30 = nI n from hn, cl_nI (by omega), ← en]
      funext j
      by_cases hj : j < n
      · rw [if_pos hj, mk_lt (by omega), mk_lt hj, sb_cpy0 hj]
      · rw [if_neg hj]
        unfold mk
        by_cases h2 : j < pN (rE I)
        · rw [if_pos h2, if_pos h2, pk_cpy_out (Or.inr (by omega))]
        · rw [if_neg h2, if_neg h2])
  | 10 => exact ho 70 (by decide)
  | 11 => exact ho 71 (by decide)
  | 12 => exact ho 72 (by decide)
  | 13 => exact ho 73 (by decide)
  | 14 => exact k22 0 (by omega)
  | 15 => exact k22 1 (by omega)
  | 16 => exact k22 2 (by omega)
  | 17 => exact k22 3 (by omega)
  | 18 => show mk (cl (J 59 23)) (J 78) = mk (cl (I 59 23)) (I 78); rw [hsc 23 (by decide), ho 78 (by decide)]
  | 19 => exact (show img0 (J 59 28) (J 81) = img0 (I 59 28) (I 81) by rw [hsc 28 (by decide), ho 81 (by decide)])
  | 20 => exact ho 82 (by decide)
  | 21 => show mk (cl (J 59 30)) (J 83) = mk (cl (I 59 30)) (I 83); rw [hsc 30 (by decide), ho 83 (by decide)]
  | 22 => show mk (cl (J 59 31)) (J 84) = mk (cl (I 59 31)) (I 84); rw [hsc 31 (by decide), ho 84 (by decide)]
  | 23 => show mk (cl (J 59 31)) (J 85) = mk (cl (I 59 31)) (I 85); rw [hsc 31 (by decide), ho 85 (by decide)]
  | 24 => show mk (cl (J 59 31)) (J 86) = mk (cl (I 59 31)) (I 86); rw [hsc 31 (by decide), ho 86 (by decide)]
  | 25 => show mk (cl (J 59 31)) (J 87) = mk (cl (I 59 31)) (I 87); rw [hsc 31 (by decide), ho 87 (by decide)]
  | 26 => exact ho 88 (by decide)
  | 27 => exact ho 89 (by decide)
  | 28 => exact ho 90 (by decide)
  | 29 =>
    funext j
    match j with
    | 0 => exact (show J 59 2 = img8 (I 59 28) (I 59 29) by rw [img8_n hf, c0])
    | 1 => exact hsc 3 (by decide)
    | 2 => exact hsc 12 (by decide)
    | 3 => exact c3
    | 4 => exact hsc 26 (by decide)
    | 5 => exact c5
    | 6 => exact hsc 23 (by decide)
    | 7 => exact hsc 28 (by decide)
    | 8 => exact (show img8 (J 59 28) (J 59 29) = img8 (I 59 28) (I 59 29) by rw [hsc 28 (by decide), hsc 29 (by decide)])
    | 9 => exact hsc 30 (by decide)
    | 10 => exact hsc 31 (by decide)
    | 11 => exact hsc 32 (by decide)
    | n + 12 => rfl
  | 30 => show mk (4 * cl (J 59 26)) (J 80) = mk (4 * cl (I 59 26)) (I 80); rw [hsc 26 (by decide), ho 80 (by decide)]
  | 31 => show (fun j => if j / 200 < cl (J 59 26) ∧ j % 200 < cl (J 80 (4 * (j / 200) + 3)) then J 79 j else 0) = (fun j => if j / 200 < cl (I 59 26) ∧ j % 200 < cl (I 80 (4 * (j / 200) + 3)) then I 79 j else 0); rw [hsc 26 (by decide), ho 80 (by decide), ho 79 (by decide)]
  | n + 32 => rfl
theorem bk_own {I : IM} (h : rOwn I) (n : Nat) : rOwn (rbkU I n) := by
  unfold rbkU cp4 cp1 rbkS
  exact (((((((((h.up (by decide) (Or.inr (by decide))).up (by decide) (Or.inr (by decide))).up (by decide) (Or.inr (by decide))).upr (by decide) (by decide)).upr (by decide) (by decide)).upr (by decide) (by decide)).upr (by decide) (by decide)).upr (by decide) (by decide)).upr (by decide) (by decide)).upr (by decide) (by decide)
def sp_R_back : SpT := rSp [] (fun E => .int (backS E)) backU
set_option maxHeartbeats 4000000 in
set_option maxRecDepth 100000 in
theorem c_R_back : Con mR_back 2 0 0 sp_R_back := by
  refine con_of_X rfl fun G as S I L Post hs => ?_
  obtain ⟨rfl, rfl, hok, h1⟩ := hs
  dsimp only at h1
  refine ⟨1, Nat.le_of_ble_eq_true rfl, ?_⟩
  show X mR_back G _ S1 I L 0 [.ref 59, .null] [] Post
  obtain ⟨-, ⟨n, hnp, hn, -⟩, ⟨m, hm, em, -⟩, -⟩ := hok.1.h
  have h8 := hok.1.1.2.1
  have hn : I 59 30 = nI n := hn
  have em : I 59 31 = nI m := em
  refine x_aload_n dR_back_0 rfl ?_
  refine x_getI fl_R_361 rfl dR_back_1 rfl rfl ?_
  -- at 4: .ifCond .ne 6
  refine x_if_ne (tgt := 10) dR_back_4 (by decide) (fun c1 => ?_) (fun c1 => ?_)
  · rw [backS, backU, if_pos (show ¬ rE I 29 7 = 0 from c1), if_pos (show ¬ rE I 29 7 = 0 from c1)] at h1
    have loop1 : ∀ (J : IM), (∀ a1 : Value, X mR_back G (2, 0, 0) S1 (cp1 J 60 81 36) L 60 [.ref 59, a1] [] Post) → ∀ (k i : Nat), i + k = 36 → X mR_back G (2, 0, 0) S1 (cp1 J 60 81 i) L 36 [.ref 59, .int (nI i)] [] Post := by
      intro J hc k
      induction k with
      | zero =>
        intro i hi
        obtain rfl : i = 36 := by omega
        refine x_iload_n dR_back_36 rfl ?_
        refine x_bipush (v := 36) dR_back_37 rfl ?_
        -- at 39: .if_icmp .ge 21
        refine x_icmp_ge (tgt := 60) dR_back_39 (by decide) (fun _ => ?_) (fun h => absurd (Int32.le_refl _) h)
        exact hc _
      | succ k ih =>
        intro i hi
        refine x_iload_n dR_back_36 rfl ?_
        refine x_bipush (v := 36) dR_back_37 rfl ?_
        -- at 39: .if_icmp .ge 21
        refine x_icmp_ge (tgt := 60) dR_back_39 (by decide) (fun h => absurd h (nI_ge (b := 36) (by omega) (by omega))) (fun _ => ?_)
        refine x_aload_n dR_back_42 rfl ?_
        refine x_getR fl_R_7 rfl dR_back_43 rfl rfl rfl ?_
        refine x_iload_n dR_back_46 rfl ?_
        refine x_aload_n dR_back_47 rfl ?_
        refine x_getR fl_R_77 rfl dR_back_48 rfl rfl rfl ?_
        refine x_iload_n dR_back_51 rfl ?_
        refine x_ialdJ (j := i) dR_back_52 rfl rfl (by first | rfl | (simp only [← nI_add, ← pk_mul]; rfl)) (by omega) ?_
        refine x_iastJ (j := i) dR_back_53 rfl rfl (by first | rfl | (simp only [← nI_add, ← pk_mul]; rfl)) (by omega) ?_
        -- at 54: .iinc 1 1
        refine x_iincp_1 dR_back_54 rfl rfl ?_
        refine x_goto (tgt := 36) dR_back_57 (by decide) ?_
        -- at 36: .iload_n 1
        rw [nI_1, cp1_o _ (show 81 ≠ 60 by decide), cp1_1]
        exact ih (i + 1) (by omega)
    have loop2 : ∀ (J : IM), (∀ a1 : Value, X mR_back G (2, 0, 0) S1 (cp1 J 61 82 6) L 86 [.ref 59, a1] [] Post) → ∀ (k i : Nat), i + k = 6 → X mR_back G (2, 0, 0) S1 (cp1 J 61 82 i) L 62 [.ref 59, .int (nI i)] [] Post := by
      intro J hc k
      induction k with
      | zero =>
        intro i hi
        obtain rfl : i = 6 := by omega
        refine x_iload_n dR_back_62 rfl ?_
        refine x_bipush (v := 6) dR_back_63 rfl ?_
        -- at 65: .if_icmp .ge 21
        refine x_icmp_ge (tgt := 86) dR_back_65 (by decide) (fun _ => ?_) (fun h => absurd (Int32.le_refl _) h)
        exact hc _
      | succ k ih =>
        intro i hi
        refine x_iload_n dR_back_62 rfl ?_
        refine x_bipush (v := 6) dR_back_63 rfl ?_
        -- at 65: .if_icmp .ge 21
        refine x_icmp_ge (tgt := 86) dR_back_65 (by decide) (fun h => absurd h (nI_ge (b := 6) (by omega) (by omega))) (fun _ => ?_)
        refine x_aload_n dR_back_68 rfl ?_
        refine x_getR fl_R_13 rfl dR_back_69 rfl rfl rfl ?_
        refine x_iload_n dR_back_72 rfl ?_
        refine x_aload_n dR_back_73 rfl ?_
        refine x_getR fl_R_80 rfl dR_back_74 rfl rfl rfl ?_
        refine x_iload_n dR_back_77 rfl ?_
        refine x_ialdJ (j := i) dR_back_78 rfl rfl (by first | rfl | (simp only [← nI_add, ← pk_mul]; rfl)) (by omega) ?_
        refine x_iastJ (j := i) dR_back_79 rfl rfl (by first | rfl | (simp only [← nI_add, ← pk_mul]; rfl)) (by omega) ?_
        -- at 80: .iinc 1 1
        refine x_iincp_1 dR_back_80 rfl rfl ?_
        refine x_goto (tgt := 62) dR_back_83 (by decide) ?_
        -- at 62: .iload_n 1
        rw [nI_1, cp1_o _ (show 82 ≠ 61 by decide), cp1_1]
        exact ih (i + 1) (by omega)
    have loop3 : ∀ (J : IM), J 59 30 = nI n → (∀ a1 : Value, X mR_back G (2, 0, 0) S1 (cp1 J 69 83 n) L 114 [.ref 59, a1] [] Post) → ∀ (k i : Nat), i + k = n → X mR_back G (2, 0, 0) S1 (cp1 J 69 83 i) L 88 [.ref 59, .int (nI i)] [] Post := by
      intro J hJ hc k
      induction k with
      | zero =>
        intro i hi
        obtain rfl : i = n := by omega
        refine x_iload_n dR_back_88 rfl ?_
        refine x_aload_n dR_back_89 rfl ?_
        refine x_getI fl_R_367 rfl dR_back_90 rfl rfl ?_
        -- at 93: .if_icmp .ge 21
        rw [cp1_o _ (show 59 ≠ 69 by decide), hJ]
        refine x_icmp_ge (tgt := 114) dR_back_93 (by decide) (fun _ => ?_) (fun h => absurd (Int32.le_refl _) h)
        exact hc _
      | succ k ih =>
        intro i hi
        refine x_iload_n dR_back_88 rfl ?_
        refine x_aload_n dR_back_89 rfl ?_
        refine x_getI fl_R_367 rfl dR_back_90 rfl rfl ?_
        -- at 93: .if_icmp .ge 21
        rw [cp1_o _ (show 59 ≠ 69 by decide), hJ]
        refine x_icmp_ge (tgt := 114) dR_back_93 (by decide) (fun h => absurd h (nI_ge (by omega) (by omega))) (fun _ => ?_)
        refine x_aload_n dR_back_96 rfl ?_
        refine x_getR fl_R_41 rfl dR_back_97 rfl rfl rfl ?_
        refine x_iload_n dR_back_100 rfl ?_
        refine x_aload_n dR_back_101 rfl ?_
        refine x_getR fl_R_83 rfl dR_back_102 rfl rfl rfl ?_
        refine x_iload_n dR_back_105 rfl ?_
        refine x_ialdJ (j := i) dR_back_106 rfl rfl (by first | rfl | (simp only [← nI_add, ← pk_mul]; rfl)) (by omega) ?_
        refine x_iastJ (j := i) dR_back_107 rfl rfl (by first | rfl | (simp only [← nI_add, ← pk_mul]; rfl)) (by omega) ?_
        -- at 108: .iinc 1 1
        refine x_iincp_1 dR_back_108 rfl rfl ?_
        refine x_goto (tgt := 88) dR_back_111 (by decide) ?_
        -- at 88: .iload_n 1
        rw [nI_1, cp1_o _ (show 83 ≠ 69 by decide), cp1_1]
        exact ih (i + 1) (by omega)
    have loop4 : ∀ (J : IM), (∀ a1 : Value, X mR_back G (2, 0, 0) S1 (cp4 J 74 84 11) L 176 [.ref 59, a1] [] Post) → ∀ (k i : Nat), i + k = 11 → X mR_back G (2, 0, 0) S1 (cp4 J 74 84 i) L 116 [.ref 59, .int (nI i)] [] Post := by
      intro J hc k
      induction k with
      | zero =>
        intro i hi
        obtain rfl : i = 11 := by omega
        refine x_iload_n dR_back_116 rfl ?_
        refine x_bipush (v := 11) dR_back_117 rfl ?_
        -- at 119: .if_icmp .ge 57
        refine x_icmp_ge (tgt := 176) dR_back_119 (by decide) (fun _ => ?_) (fun h => absurd (Int32.le_refl _) h)
        exact hc _
      | succ k ih =>
        intro i hi
        refine x_iload_n dR_back_116 rfl ?_
        refine x_bipush (v := 11) dR_back_117 rfl ?_
        -- at 119: .if_icmp .ge 57
        refine x_icmp_ge (tgt := 176) dR_back_119 (by decide) (fun h => absurd h (nI_ge (b := 11) (by omega) (by omega))) (fun _ => ?_)
        refine x_aload_n dR_back_122 rfl ?_
        refine x_getR fl_R_56 rfl dR_back_123 rfl rfl rfl ?_
        refine x_iload_n dR_back_126 rfl ?_
        refine x_aload_n dR_back_127 rfl ?_
        refine x_getR fl_R_86 rfl dR_back_128 rfl rfl rfl ?_
        refine x_iload_n dR_back_131 rfl ?_
        refine x_ialdJ (j := i) dR_back_132 rfl rfl (by first | rfl | (simp only [← nI_add, ← pk_mul]; rfl)) (by omega) ?_
        refine x_iastJ (j := i) dR_back_133 rfl rfl (by first | rfl | (simp only [← nI_add, ← pk_mul]; rfl)) (by omega) ?_
        refine x_aload_n dR_back_134 rfl ?_
        refine x_getR fl_R_59 rfl dR_back_135 rfl rfl rfl ?_
        refine x_iload_n dR_back_138 rfl ?_
        refine x_aload_n dR_back_139 rfl ?_
        refine x_getR fl_R_89 rfl dR_back_140 rfl rfl rfl ?_
        refine x_iload_n dR_back_143 rfl ?_
        refine x_ialdJ (j := i) dR_back_144 rfl rfl (by first | rfl | (simp only [← nI_add, ← pk_mul]; rfl)) (by omega) ?_
        refine x_iastJ (j := i) dR_back_145 rfl rfl (by first | rfl | (simp only [← nI_add, ← pk_mul]; rfl)) (by omega) ?_
        refine x_aload_n dR_back_146 rfl ?_
        refine x_getR fl_R_62 rfl dR_back_147 rfl rfl rfl ?_
        refine x_iload_n dR_back_150 rfl ?_
        refine x_aload_n dR_back_151 rfl ?_
        refine x_getR fl_R_92 rfl dR_back_152 rfl rfl rfl ?_
        refine x_iload_n dR_back_155 rfl ?_
        refine x_ialdJ (j := i) dR_back_156 rfl rfl (by first | rfl | (simp only [← nI_add, ← pk_mul]; rfl)) (by omega) ?_
        refine x_iastJ (j := i) dR_back_157 rfl rfl (by first | rfl | (simp only [← nI_add, ← pk_mul]; rfl)) (by omega) ?_
        refine x_aload_n dR_back_158 rfl ?_
        refine x_getR fl_R_65 rfl dR_back_159 rfl rfl rfl ?_
        refine x_iload_n dR_back_162 rfl ?_
        refine x_aload_n dR_back_163 rfl ?_
        refine x_getR fl_R_95 rfl dR_back_164 rfl rfl rfl ?_
        refine x_iload_n dR_back_167 rfl ?_
        refine x_ialdJ (j := i) dR_back_168 rfl rfl (by first | rfl | (simp only [← nI_add, ← pk_mul]; rfl)) (by omega) ?_
        refine x_iastJ (j := i) dR_back_169 rfl rfl (by first | rfl | (simp only [← nI_add, ← pk_mul]; rfl)) (by omega) ?_
        -- at 170: .iinc 1 1
        simp only [up2_n, up2_s, ne_eq, Nat.reduceEqDiff, not_false_eq_true]
        rw [cp4_o J (show 84 < 74 ∨ 74 + 3 < 84 by omega), cp4_o J (show 85 < 74 ∨ 74 + 3 < 85 by omega), cp4_o J (show 86 < 74 ∨ 74 + 3 < 86 by omega), cp4_o J (show 87 < 74 ∨ 74 + 3 < 87 by omega), cp4_1 J (d := 74) (s := 84) (n := i) (by omega)]
        refine x_iincp_1 dR_back_170 rfl rfl ?_
        refine x_goto (tgt := 116) dR_back_173 (by decide) ?_
        -- at 116: .iload_n 1
        rw [nI_1]
        exact ih (i + 1) (by omega)
    refine x_aload_n dR_back_10 rfl ?_
    refine x_aload_n dR_back_11 rfl ?_
    refine x_getI fl_R_364 rfl dR_back_12 rfl rfl ?_
    refine x_putI fl_R_16 rfl dR_back_15 (by decide) rfl rfl rfl rfl ?_
    refine x_aload_n dR_back_18 rfl ?_
    refine x_aload_n dR_back_19 rfl ?_
    refine x_getI fl_R_370 rfl dR_back_20 rfl rfl ?_
    refine x_putI fl_R_158 rfl dR_back_23 (by decide) rfl rfl rfl rfl ?_
    refine x_aload_n dR_back_26 rfl ?_
    refine x_aload_n dR_back_27 rfl ?_
    refine x_getI fl_R_373 rfl dR_back_28 rfl rfl ?_
    refine x_putI fl_R_164 rfl dR_back_31 (by decide) rfl rfl rfl rfl ?_
    refine x_iconst (v := 0) dR_back_34 rfl ?_
    refine x_istoren_1 dR_back_35 rfl rfl ?_
    -- at 36: .iload_n 1
    have e1 := loop1 (rbkS I) (fun a1 => by
      refine x_iconst (v := 0) dR_back_60 rfl ?_
      refine x_istoren_1 dR_back_61 rfl rfl ?_
      -- at 62: .iload_n 1
      have e2 := loop2 (cp1 (rbkS I) 60 81 36) (fun a1 => by
        refine x_iconst (v := 0) dR_back_86 rfl ?_
        refine x_istoren_1 dR_back_87 rfl rfl ?_
        -- at 88: .iload_n 1
        have e3 := loop3 (cp1 (cp1 (rbkS I) 60 81 36) 61 82 6) (by
          rw [cp1_o _ (by omega), cp1_o _ (by omega)]
          unfold rbkS
          rw [up2_s, up1_n _ _ (by omega), up2_s, up1_n _ _ (by omega), up2_s, up1_n _ _ (by omega)]
          exact hn) (fun a1 => by
          refine x_iconst (v := 0) dR_back_114 rfl ?_
          refine x_istoren_1 dR_back_115 rfl rfl ?_
          -- at 116: .iload_n 1
          have e4 := loop4 (cp1 (cp1 (cp1 (rbkS I) 60 81 36) 61 82 6) 69 83 n) (fun a1 => by
            refine x_aload_n dR_back_176 rfl ?_
            refine x_getI fl_R_158 rfl dR_back_177 rfl rfl ?_
            -- at 180: .ireturn
            have es : rbkU I n 59 17 = I 59 31 := by
              unfold rbkU
              rw [cp4_o _ (by omega), cp1_o _ (by omega), cp1_o _ (by omega), cp1_o _ (by omega)]
              unfold rbkS
              rw [up2_s, up1_n _ _ (by omega), up2_s, up1_s]
            refine x_eqi (y := I 59 31) es ?_
            refine x_ireturn dR_back_180 rfl rfl ?_
            exact h1 (rbkU I n) L (fun k hk => by
              unfold rbkU
              rw [cp4_o _ (by omega), cp1_o _ (by omega), cp1_o _ (by omega), cp1_o _ (by omega)]
              unfold rbkS
              rw [up2_n _ _ _ (by omega), up2_n _ _ _ (by omega), up2_n _ _ _ (by omega)]) (bk_own hok.2 n) (rbk_rE I hok c1 n hn hnp (by rw [show I 59 31 = nI m from em, cl_nI (by omega)]; exact hm))) 11 0 rfl
          rw [cp4_0] at e4
          exact e4) n 0 (by omega)
        rw [cp1_0] at e3
        exact e3) 6 0 rfl
      rw [cp1_0] at e2
      exact e2) 36 0 rfl
    rw [cp1_0] at e1
    simp only [up2_n, up2_s, ne_eq, Nat.reduceEqDiff, not_false_eq_true, up1, Nat.reduceEqDiff, if_true, if_false]
    exact e1
  · rw [backS, backU, if_neg (show ¬ ¬ rE I 29 7 = 0 from fun z => z c1), if_neg (show ¬ ¬ rE I 29 7 = 0 from fun z => z c1)] at h1
    refine x_bipush (v := -3) dR_back_7 rfl ?_
    -- at 9: .ireturn
    refine x_ireturn dR_back_9 rfl rfl ?_
    exact h1 I L (fun _ _ => rfl) hok.2 rfl
end
section
-- 65.r5
/-! the reference: the host, THE TAPE -/
def rshU (I : IM) (s : Nat) (k n : Int32) : IM := upr (up2 (up2 I 88 s k) 89 s n) 90 (zer40 (I 90) s)
theorem rE_shU (I : IM) (s : Nat) (k n : Int32) : rE (rshU I s k n) = shU (rE I) s k n := by
  unfold rshU shU
  rw [rE_28, rE_u27, rE_u26]
  rfl
theorem rsh_own {I : IM} (h : rOwn I) (s : Nat) (k n : Int32) : rOwn (rshU I s k n) := by
  unfold rshU
  exact ((h.up (by decide) (Or.inl (by decide))).up (by decide) (Or.inl (by decide))).upr (by decide) (by decide)
def sp_R_sheet : SpT := fun as S I L Post => ∃ s k n : Int32, rSp [.int s, .int k, .int n] (fun _ => .int (sheetS s k n)) (fun E => sheetU E s k n) as S I L Post
set_option maxHeartbeats 4000000 in
set_option maxRecDepth 100000 in
theorem c_R_sheet : Con mR_sheet 3 0 0 sp_R_sheet := by
  refine con_of_X rfl fun G as S I L Post hs => ?_
  obtain ⟨s, k, n, rfl, rfl, hok, h1⟩ := hs
  dsimp only at h1
  refine ⟨1, Nat.le_of_ble_eq_true rfl, ?_⟩
  show X mR_sheet G _ S1 I L 0 [.ref 59, .int s, .int k, .int n, .null] [] Post
  have bad : ¬ shC s k n → X mR_sheet G (3, 0, 0) S1 I L 29 [.ref 59, .int s, .int k, .int n, .null] [] Post := by
    intro hc
    rw [sheetS, sheetU, if_pos hc, if_pos hc] at h1
    refine x_bipush (v := -2) dR_sheet_29 rfl ?_
    -- at 31: .ireturn
    refine x_ireturn dR_sheet_31 rfl rfl ?_
    exact h1 I L (fun _ _ => rfl) hok.2 rfl
  refine x_iload_n dR_sheet_0 rfl ?_
  refine x_iconst (v := 0) dR_sheet_1 rfl ?_
  refine x_iconst (v := 3) dR_sheet_2 rfl ?_
  -- at 3: .invokestatic 151
  refine x_callS_3 c_R_in ok_R_in ml_R_151 dR_sheet_3 rfl rfl ?_
  refine ⟨_, _, _, rfl, fun a1 => ?_, fun a1 => ?_⟩
  · have a1 : inR s 0 3 := a1
    refine x_if_eq (tgt := 29) dR_sheet_6 (by decide) (fun h => absurd h (by decide)) (fun _ => ?_)
    refine x_iload_n dR_sheet_9 rfl ?_
    refine x_iconst (v := -1) dR_sheet_10 rfl ?_
    refine x_iconst (v := 2) dR_sheet_11 rfl ?_
    -- at 12: .invokestatic 151
    refine x_callS_3 c_R_in ok_R_in ml_R_151 dR_sheet_12 rfl rfl ?_
    refine ⟨_, _, _, rfl, fun a2 => ?_, fun a2 => ?_⟩
    · refine x_if_eq (tgt := 29) dR_sheet_15 (by decide) (fun h => absurd h (by decide)) (fun _ => ?_)
      obtain ⟨i, hi, rfl⟩ := inR_of (n := 3) (by decide) a1
      have fin : ∀ n' : Int32, shC (nI i) k n → ¬ (¬ k = -1 ∧ n < 0) → n' = (if k = -1 then 0 else n) → X mR_sheet G (3, 0, 0) S1 (up2 I 88 i k) L 66 [.ref 59, .int (nI i), .int k, .int n, .null] [.int n', .int (nI i), .ref 89] Post := by
        intro n' hc hc2 hn'
        rw [sheetS, sheetU, if_neg (not_not_intro hc), if_neg (not_not_intro hc), if_neg hc2, if_neg hc2, cl_nI (by omega)] at h1
        refine x_iastJ (j := i) dR_sheet_66 rfl rfl (by first | rfl | (simp only [← nI_add, ← pk_mul]; rfl)) (by omega) ?_
        refine x_iconst (v := 0) dR_sheet_67 rfl ?_
        refine x_istore_4 dR_sheet_68 rfl rfl ?_
        -- at 70: .iload 4
        have loop : ∀ (m j : Nat) (I' : IM), j + m = 40 → I' = upr (up2 (up2 I 88 i k) 89 i n') 90 (fun x => if i * 40 ≤ x ∧ x < i * 40 + j then 0 else I 90 x) →
            X mR_sheet G (3, 0, 0) S1 I' L 70 [.ref 59, .int (nI i), .int k, .int n, .int (nI j)] [] Post := by
          intro m
          induction m with
          | zero =>
            intro j I' hj hI
            obtain rfl : j = 40 := by omega
            refine x_iload dR_sheet_70 rfl ?_
            refine x_bipush (v := 40) dR_sheet_72 rfl ?_
            -- at 74: .if_icmp .ge 22
            refine x_icmp_ge (tgt := 96) dR_sheet_74 (by decide) (fun _ => ?_) (fun h => absurd (Int32.le_refl _) h)
            refine x_iconst (v := 1) dR_sheet_96 rfl ?_
            -- at 97: .ireturn
            refine x_ireturn dR_sheet_97 rfl rfl ?_
            have e : I' = rshU I i k n' := hI
            rw [e]
            refine h1 _ L (fun q hq => by unfold rshU; rw [upr_n _ _ (by omega), up2_n _ _ _ (by omega), up2_n _ _ _ (by omega)]) (rsh_own hok.2 _ _ _) ?_
            rw [rE_shU, hn']
          | succ m ih =>
            intro j I' hj hI
            refine x_iload dR_sheet_70 rfl ?_
            refine x_bipush (v := 40) dR_sheet_72 rfl ?_
            -- at 74: .if_icmp .ge 22
            refine x_icmp_ge (tgt := 96) dR_sheet_74 (by decide) (fun h => absurd h (nI_ge (b := 40) (by omega) (by omega))) (fun _ => ?_)
            refine x_aload_n dR_sheet_77 rfl ?_
            refine x_getR fl_R_104 rfl dR_sheet_78 rfl rfl rfl ?_
            refine x_bipush (v := 40) dR_sheet_81 rfl ?_
            refine x_iload_n dR_sheet_83 rfl ?_
            refine x_imul dR_sheet_84 ?_
            refine x_iload dR_sheet_85 rfl ?_
            refine x_iadd dR_sheet_87 ?_
            refine x_iconst (v := 0) dR_sheet_88 rfl ?_
            refine x_iastJ dR_sheet_89 rfl rfl (r40 i j) (by omega) ?_
            -- at 90: .iinc 4 1
            refine x_iincp_4 dR_sheet_90 rfl rfl ?_
            refine x_goto (tgt := 70) dR_sheet_93 (by decide) ?_
            -- at 70: .iload 4
            rw [nI_1]
            refine ih (j + 1) _ (by omega) ?_
            rw [hI]
            funext a
            by_cases h : a = 90
            · subst h
              rw [up2_s, upr_s, upr_s]
              funext x
              unfold up1
              dsimp only
              by_cases hx : x = i * 40 + j
              · rw [if_pos hx, if_pos ⟨by omega, by omega⟩]
              · rw [if_neg hx]
                by_cases h2 : i * 40 ≤ x ∧ x < i * 40 + j
                · rw [if_pos h2, if_pos ⟨h2.1, by omega⟩]
                · rw [if_neg h2, if_neg (fun z => h2 ⟨z.1, by omega⟩)]
            · rw [up2_n _ _ _ h, upr_n _ _ h, upr_n _ _ h]
        refine loop 40 0 _ rfl ?_
        funext a
        by_cases h : a = 90
        · subst h
          rw [upr_s]
          simp only [up2_n, up2_s, ne_eq, Nat.reduceEqDiff, not_false_eq_true]
          funext x
          rw [if_neg (fun z => by omega)]
        · rw [upr_n _ _ h]
      refine x_iload_n dR_sheet_18 rfl ?_
      refine x_iconst (v := -1) dR_sheet_19 rfl ?_
      -- at 20: .if_icmp .eq 12
      refine x_icmp_eq (tgt := 32) dR_sheet_20 (by decide) (fun c1 => ?_) (fun c1 => ?_)
      · have hc : shC (nI i) k n := ⟨a1, a2, Or.inl c1⟩
        refine x_iload_n dR_sheet_32 rfl ?_
        refine x_iconst (v := -1) dR_sheet_33 rfl ?_
        -- at 34: .if_icmp .eq 10
        refine x_icmp_eq (tgt := 44) dR_sheet_34 (by decide) (fun _ => ?_) (fun h => absurd c1 h)
        refine x_aload_n dR_sheet_44 rfl ?_
        refine x_getR fl_R_98 rfl dR_sheet_45 rfl rfl rfl ?_
        refine x_iload_n dR_sheet_48 rfl ?_
        refine x_iload_n dR_sheet_49 rfl ?_
        refine x_iastJ (j := i) dR_sheet_50 rfl rfl (by first | rfl | (simp only [← nI_add, ← pk_mul]; rfl)) (by omega) ?_
        refine x_aload_n dR_sheet_51 rfl ?_
        refine x_getR fl_R_101 rfl dR_sheet_52 rfl rfl rfl ?_
        refine x_iload_n dR_sheet_55 rfl ?_
        refine x_iload_n dR_sheet_56 rfl ?_
        refine x_iconst (v := -1) dR_sheet_57 rfl ?_
        -- at 58: .if_icmp .ne 7
        refine x_icmp_ne (tgt := 65) dR_sheet_58 (by decide) (fun h => absurd c1 h) (fun _ => ?_)
        refine x_iconst (v := 0) dR_sheet_61 rfl ?_
        refine x_goto (tgt := 66) dR_sheet_62 (by decide) ?_
        -- at 66: .iastore
        exact fin 0 hc (fun z => z.1 c1) (by rw [if_pos c1])
      · refine x_iload_n dR_sheet_23 rfl ?_
        refine x_bipush (v := 40) dR_sheet_24 rfl ?_
        -- at 26: .if_icmp .le 6
        refine x_icmp_le (tgt := 32) dR_sheet_26 (by decide) (fun c2 => ?_) (fun c2 => ?_)
        · have hc : shC (nI i) k n := ⟨a1, a2, Or.inr c2⟩
          refine x_iload_n dR_sheet_32 rfl ?_
          refine x_iconst (v := -1) dR_sheet_33 rfl ?_
          -- at 34: .if_icmp .eq 10
          refine x_icmp_eq (tgt := 44) dR_sheet_34 (by decide) (fun h => absurd h c1) (fun _ => ?_)
          refine x_iload_n dR_sheet_37 rfl ?_
          -- at 38: .ifCond .ge 6
          refine x_if_ge (tgt := 44) dR_sheet_38 (by decide) (fun c3 => ?_) (fun c3 => ?_)
          · refine x_aload_n dR_sheet_44 rfl ?_
            refine x_getR fl_R_98 rfl dR_sheet_45 rfl rfl rfl ?_
            refine x_iload_n dR_sheet_48 rfl ?_
            refine x_iload_n dR_sheet_49 rfl ?_
            refine x_iastJ (j := i) dR_sheet_50 rfl rfl (by first | rfl | (simp only [← nI_add, ← pk_mul]; rfl)) (by omega) ?_
            refine x_aload_n dR_sheet_51 rfl ?_
            refine x_getR fl_R_101 rfl dR_sheet_52 rfl rfl rfl ?_
            refine x_iload_n dR_sheet_55 rfl ?_
            refine x_iload_n dR_sheet_56 rfl ?_
            refine x_iconst (v := -1) dR_sheet_57 rfl ?_
            -- at 58: .if_icmp .ne 7
            refine x_icmp_ne (tgt := 65) dR_sheet_58 (by decide) (fun _ => ?_) (fun h => absurd h c1)
            refine x_iload_n dR_sheet_65 rfl ?_
            -- at 66: .iastore
            exact fin n hc (fun z => absurd z.2 (Int32.not_lt.mpr c3)) (by rw [if_neg c1])
          · rw [sheetS, sheetU, if_neg (not_not_intro hc), if_neg (not_not_intro hc), if_pos ⟨c1, Int32.not_le.mp c3⟩, if_pos ⟨c1, Int32.not_le.mp c3⟩] at h1
            refine x_bipush (v := -14) dR_sheet_41 rfl ?_
            -- at 43: .ireturn
            refine x_ireturn dR_sheet_43 rfl rfl ?_
            exact h1 I L (fun _ _ => rfl) hok.2 rfl
        · exact bad (fun z => z.2.2.elim c1 c2)
    · refine x_if_eq (tgt := 29) dR_sheet_15 (by decide) (fun _ => ?_) (fun h => absurd (by decide) h)
      exact bad (fun z => a2 z.2.1)
  · refine x_if_eq (tgt := 29) dR_sheet_6 (by decide) (fun _ => ?_) (fun h => absurd (by decide) h)
    exact bad (fun z => a1 z.1)
def sp_R_cell : SpT := fun as S I L Post => ∃ s i v : Int32, rSp [.int s, .int i, .int v] (fun E => .int (cellBad E s i)) (fun E => cellU E s i v) as S I L Post
set_option maxHeartbeats 4000000 in
set_option maxRecDepth 100000 in
theorem c_R_cell : Con mR_cell 3 0 0 sp_R_cell := by
  refine con_of_X rfl fun G as S I L Post hs => ?_
  obtain ⟨s, i, v, rfl, rfl, hok, h1⟩ := hs
  dsimp only at h1
  refine ⟨0, Nat.le_of_ble_eq_true rfl, ?_⟩
  show X mR_cell G _ S1 I L 0 [.ref 59, .int s, .int i, .int v] [] Post
  rw [cellU] at h1
  refine x_iload_n dR_cell_0 rfl ?_
  refine x_iconst (v := 0) dR_cell_1 rfl ?_
  refine x_iconst (v := 3) dR_cell_2 rfl ?_
  -- at 3: .invokestatic 151
  refine x_callS_3 c_R_in ok_R_in ml_R_151 dR_cell_3 rfl rfl ?_
  refine ⟨_, _, _, rfl, fun a1 => ?_, fun a1 => ?_⟩
  · have a1 : inR s 0 3 := a1
    refine x_if_ne (tgt := 12) dR_cell_6 (by decide) (fun _ => ?_) (fun h => absurd h (by decide))
    rw [cellBad, if_neg (not_not_intro a1)] at h1
    obtain ⟨j, hj, rfl⟩ := inR_of (n := 3) (by decide) a1
    obtain ⟨n, hn, en⟩ := sz_nat hok.1 (s := j) (by omega)
    have en : I 89 j = nI n := en
    rw [cl_nI (by omega), show rE I 27 j = nI n from en] at h1
    refine x_aload_n dR_cell_12 rfl ?_
    refine x_getR fl_R_98 rfl dR_cell_13 rfl rfl rfl ?_
    refine x_iload_n dR_cell_16 rfl ?_
    refine x_ialdJ (j := j) dR_cell_17 rfl rfl (by first | rfl | (simp only [← nI_add, ← pk_mul]; rfl)) (by omega) ?_
    refine x_iconst (v := -1) dR_cell_18 rfl ?_
    -- at 19: .if_icmp .ne 6
    refine x_icmp_ne (tgt := 25) dR_cell_19 (by decide) (fun a2 => ?_) (fun a2 => ?_)
    · have a2 : ¬ rE I 26 j = -1 := a2
      rw [if_neg a2] at h1
      refine x_iload_n dR_cell_25 rfl ?_
      refine x_iconst (v := 0) dR_cell_26 rfl ?_
      refine x_aload_n dR_cell_27 rfl ?_
      refine x_getR fl_R_101 rfl dR_cell_28 rfl rfl rfl ?_
      refine x_iload_n dR_cell_31 rfl ?_
      refine x_ialdJ (j := j) dR_cell_32 rfl rfl (by first | rfl | (simp only [← nI_add, ← pk_mul]; rfl)) (by omega) ?_
      -- at 33: .iconst 1
      rw [en]
      refine x_iconst (v := 1) dR_cell_33 rfl ?_
      refine x_isub dR_cell_34 ?_
      -- at 35: .invokestatic 151
      refine x_callS_3 c_R_in ok_R_in ml_R_151 dR_cell_35 rfl rfl ?_
      refine ⟨_, _, _, rfl, fun a3 => ?_, fun a3 => ?_⟩
      · have a3 : inR i 0 (nI n - 1) := a3
        refine x_if_ne (tgt := 44) dR_cell_38 (by decide) (fun _ => ?_) (fun h => absurd h (by decide))
        rw [if_neg (not_not_intro a3), if_pos rfl] at h1
        obtain ⟨q, hq, rfl⟩ := has_nat (by omega) a3
        rw [cl_nI (by omega)] at h1
        have fin : ∀ x : Int32, x = shV (I 88 j) v → X mR_cell G (3, 0, 0) S1 I L 84 [.ref 59, .int (nI j), .int (nI q), .int v] [.int x, .int (40 * nI j + nI q), .ref 90] Post := by
          intro x hx
          refine x_iastJ dR_cell_84 rfl rfl (r40 j q) (by omega) ?_
          refine x_iconst (v := 1) dR_cell_85 rfl ?_
          -- at 86: .ireturn
          refine x_ireturn dR_cell_86 rfl rfl ?_
          rw [hx]
          exact h1 _ L (fun k hk => up2_n _ _ _ (by omega)) (hok.2.up (by decide) (Or.inl (by decide))) (rE_u28 I _ _)
        refine x_aload_n dR_cell_44 rfl ?_
        refine x_getR fl_R_104 rfl dR_cell_45 rfl rfl rfl ?_
        refine x_bipush (v := 40) dR_cell_48 rfl ?_
        refine x_iload_n dR_cell_50 rfl ?_
        refine x_imul dR_cell_51 ?_
        refine x_iload_n dR_cell_52 rfl ?_
        refine x_iadd dR_cell_53 ?_
        refine x_aload_n dR_cell_54 rfl ?_
        refine x_getR fl_R_98 rfl dR_cell_55 rfl rfl rfl ?_
        refine x_iload_n dR_cell_58 rfl ?_
        refine x_ialdJ (j := j) dR_cell_59 rfl rfl (by first | rfl | (simp only [← nI_add, ← pk_mul]; rfl)) (by omega) ?_
        -- at 60: .ifCond .ne 8
        refine x_if_ne (tgt := 68) dR_cell_60 (by decide) (fun c1 => ?_) (fun c1 => ?_)
        · refine x_aload_n dR_cell_68 rfl ?_
          refine x_getR fl_R_98 rfl dR_cell_69 rfl rfl rfl ?_
          refine x_iload_n dR_cell_72 rfl ?_
          refine x_ialdJ (j := j) dR_cell_73 rfl rfl (by first | rfl | (simp only [← nI_add, ← pk_mul]; rfl)) (by omega) ?_
          refine x_iconst (v := 1) dR_cell_74 rfl ?_
          -- at 75: .if_icmp .ne 8
          refine x_icmp_ne (tgt := 83) dR_cell_75 (by decide) (fun c2 => ?_) (fun c2 => ?_)
          · refine x_iload_n dR_cell_83 rfl ?_
            -- at 84: .iastore
            exact fin _ (by rw [shV, if_neg c1, if_neg c2])
          · refine x_iload_n dR_cell_78 rfl ?_
            refine x_i2s dR_cell_79 ?_
            refine x_goto (tgt := 84) dR_cell_80 (by decide) ?_
            -- at 84: .iastore
            exact fin _ (by rw [shV, if_neg c1, if_pos c2])
        · refine x_iload_n dR_cell_63 rfl ?_
          refine x_i2b dR_cell_64 ?_
          refine x_goto (tgt := 84) dR_cell_65 (by decide) ?_
          -- at 84: .iastore
          exact fin _ (by rw [shV, if_pos c1])
      · have a3 : ¬ inR i 0 (nI n - 1) := a3
        refine x_if_ne (tgt := 44) dR_cell_38 (by decide) (fun h => absurd (by decide) h) (fun _ => ?_)
        rw [if_pos a3] at h1
        refine x_bipush (v := -12) dR_cell_41 rfl ?_
        -- at 43: .ireturn
        refine x_ireturn dR_cell_43 rfl rfl ?_
        exact h1 I L (fun _ _ => rfl) hok.2 rfl
    · have a2 : rE I 26 j = -1 := a2
      rw [if_pos a2] at h1
      refine x_bipush (v := -11) dR_cell_22 rfl ?_
      -- at 24: .ireturn
      refine x_ireturn dR_cell_24 rfl rfl ?_
      exact h1 I L (fun _ _ => rfl) hok.2 rfl
  · have a1 : ¬ inR s 0 3 := a1
    refine x_if_ne (tgt := 12) dR_cell_6 (by decide) (fun h => absurd (by decide) h) (fun _ => ?_)
    rw [cellBad, if_pos a1] at h1
    refine x_bipush (v := -2) dR_cell_9 rfl ?_
    -- at 11: .ireturn
    refine x_ireturn dR_cell_11 rfl rfl ?_
    exact h1 I L (fun _ _ => rfl) hok.2 rfl
/-- how both sides ask whether three numbers fit -/
theorem cp_iff {i n : Int32} {Z : Nat} (hZ : Z ≤ 40) (hn : 0 ≤ n) : (0 ≤ i ∧ i ≤ nI Z ∧ n ≤ nI Z - i) ↔ inR i 0 (nI Z - n) := by
  constructor
  · rintro ⟨h1, h2, h3⟩
    obtain ⟨a, ha, rfl⟩ := nI_of2 (x := i) (M := nI Z) (n := Z) (nI_toInt (by omega)) (Int32.not_lt.mpr h1) h2
    rw [pk_sub ha] at h3
    obtain ⟨b, hb, rfl⟩ := nI_of2 (x := n) (M := nI (Z - a)) (n := Z - a) (nI_toInt (by omega)) (Int32.not_lt.mpr hn) h3
    refine ⟨h1, ?_⟩
    rw [pk_sub (by omega)]
    exact nI_le (by omega) (by omega)
  · intro h
    obtain ⟨a, b, rfl, rfl, hab⟩ := cp_nat rfl hZ hn h
    refine ⟨h.1, nI_le (by omega) (by omega), ?_⟩
    rw [pk_sub (by omega)]
    exact nI_le (by omega) (by omega)
def cpF (f : Nat → Int32) (a b k : Nat) : Nat → Int32 := fun j => if b ≤ j ∧ j < b + k then f (a + (j - b)) else f j
def cpB (f : Nat → Int32) (a b n k : Nat) : Nat → Int32 := fun j => if b + n - k ≤ j ∧ j < b + n then f (a + (j - b)) else f j
theorem cpF_n (f : Nat → Int32) (a b n : Nat) : cpF f a b n = va_cpy f f a b n := by
  funext j
  unfold cpF
  by_cases h : b ≤ j ∧ j < b + n
  · rw [if_pos h, pk_cpy_in h.1 h.2]
  · rw [if_neg h, pk_cpy_out (by omega)]
theorem cpB_n (f : Nat → Int32) (a b n : Nat) : cpB f a b n n = va_cpy f f a b n := by
  funext j
  unfold cpB
  rw [Nat.add_sub_cancel]
  by_cases h : b ≤ j ∧ j < b + n
  · rw [if_pos h, pk_cpy_in h.1 h.2]
  · rw [if_neg h, pk_cpy_out (by omega)]
theorem cpF_s (f : Nat → Int32) (a b k : Nat) (h : b ≤ a) : up1 (cpF f a b k) (b + k) (cpF f a b k (a + k)) = cpF f a b (k + 1) := by
  funext j
  have e : cpF f a b k (a + k) = f (a + k) := by unfold cpF; rw [if_neg (by omega)]
  rw [e]
  by_cases hj : j = b + k
  · subst hj
    rw [up1_s]
    unfold cpF
    rw [if_pos (by omega)]
    congr 1
    omega
  · rw [up1_n _ _ hj]
    unfold cpF
    by_cases h2 : b ≤ j ∧ j < b + k
    · rw [if_pos h2, if_pos (by omega)]
    · rw [if_neg h2, if_neg (by omega)]
theorem cpB_s (f : Nat → Int32) (a b n k : Nat) (h : a < b) (hk : k < n) : up1 (cpB f a b n k) (b + (n - 1 - k)) (cpB f a b n k (a + (n - 1 - k))) = cpB f a b n (k + 1) := by
  funext j
  have e : cpB f a b n k (a + (n - 1 - k)) = f (a + (n - 1 - k)) := by unfold cpB; rw [if_neg (by omega)]
  rw [e]
  by_cases hj : j = b + (n - 1 - k)
  · subst hj
    rw [up1_s]
    unfold cpB
    rw [if_pos (by omega)]
    congr 1
    omega
  · rw [up1_n _ _ hj]
    unfold cpB
    by_cases h2 : b + n - k ≤ j ∧ j < b + n
    · rw [if_pos h2, if_pos (by omega)]
    · rw [if_neg h2, if_neg (by omega)]
theorem up2_upr (I : IM) (k j : Nat) (f : Nat → Int32) (x : Int32) : up2 (upr I k f) k j x = upr I k (up1 f j x) := by
  funext q
  by_cases h : q = k
  · subst h; rw [up2_s, upr_s, upr_s]
  · rw [up2_n _ _ _ h, upr_n _ _ h, upr_n _ _ h]
def sp_R_copy : SpT := fun as S I L Post => ∃ s i o j n : Int32, rSp [.int s, .int i, .int o, .int j, .int n] (fun E => .int (copyS E s i o j n)) (fun E => copyU E s i o j n) as S I L Post
set_option maxHeartbeats 4000000 in
set_option maxRecDepth 100000 in
theorem c_R_copy : Con mR_copy 3 0 0 sp_R_copy := by
  refine con_of_X rfl fun G as S I L Post hs => ?_
  obtain ⟨s, i, o, j, n, rfl, rfl, hok, h1⟩ := hs
  dsimp only at h1
  refine ⟨4, Nat.le_of_ble_eq_true rfl, ?_⟩
  show X mR_copy G _ S1 I L 0 [.ref 59, .int s, .int i, .int o, .int j, .int n, .null, .null, .null, .null] [] Post
  have bad : ¬ (inR s 0 3 ∧ inR o 0 3) → X mR_copy G (3, 0, 0) S1 I L 18 [.ref 59, .int s, .int i, .int o, .int j, .int n, .null, .null, .null, .null] [] Post := by
    intro hc
    rw [copyS, copyU, if_pos hc, if_pos hc] at h1
    refine x_bipush (v := -2) dR_copy_18 rfl ?_
    -- at 20: .ireturn
    refine x_ireturn dR_copy_20 rfl rfl ?_
    exact h1 I L (fun _ _ => rfl) hok.2 rfl
  refine x_iload_n dR_copy_0 rfl ?_
  refine x_iconst (v := 0) dR_copy_1 rfl ?_
  refine x_iconst (v := 3) dR_copy_2 rfl ?_
  -- at 3: .invokestatic 151
  refine x_callS_3 c_R_in ok_R_in ml_R_151 dR_copy_3 rfl rfl ?_
  refine ⟨_, _, _, rfl, fun a1 => ?_, fun a1 => ?_⟩
  · have a1 : inR s 0 3 := a1
    refine x_if_eq (tgt := 18) dR_copy_6 (by decide) (fun h => absurd h (by decide)) (fun _ => ?_)
    refine x_iload_n dR_copy_9 rfl ?_
    refine x_iconst (v := 0) dR_copy_10 rfl ?_
    refine x_iconst (v := 3) dR_copy_11 rfl ?_
    -- at 12: .invokestatic 151
    refine x_callS_3 c_R_in ok_R_in ml_R_151 dR_copy_12 rfl rfl ?_
    refine ⟨_, _, _, rfl, fun a2 => ?_, fun a2 => ?_⟩
    · have a2 : inR o 0 3 := a2
      refine x_if_ne (tgt := 21) dR_copy_15 (by decide) (fun _ => ?_) (fun h => absurd h (by decide))
      have hso : inR s 0 3 ∧ inR o 0 3 := ⟨a1, a2⟩
      rw [copyS, copyU, if_neg (not_not_intro hso), if_neg (not_not_intro hso)] at h1
      obtain ⟨p, hp, rfl⟩ := inR_of (n := 3) (by decide) a1
      obtain ⟨q, hq, rfl⟩ := inR_of (n := 3) (by decide) a2
      obtain ⟨zp, hzp, ep⟩ := sz_nat hok.1 (s := p) (by omega)
      obtain ⟨zq, hzq, eq⟩ := sz_nat hok.1 (s := q) (by omega)
      have ep : I 89 p = nI zp := ep
      have eq : I 89 q = nI zq := eq
      unfold cpC cpU at h1
      rw [cl_nI (by omega), cl_nI (by omega), show rE I 27 p = nI zp from ep, show rE I 27 q = nI zq from eq] at h1
      have no : (rE I 26 p = -1 ∨ rE I 26 q = -1) → X mR_copy G (3, 0, 0) S1 I L 41 [.ref 59, .int (nI p), .int i, .int (nI q), .int j, .int n, .null, .null, .null, .null] [] Post := by
        intro hc
        rw [if_pos hc, if_pos hc] at h1
        refine x_bipush (v := -11) dR_copy_41 rfl ?_
        -- at 43: .ireturn
        refine x_ireturn dR_copy_43 rfl rfl ?_
        exact h1 I L (fun _ _ => rfl) hok.2 rfl
      refine x_aload_n dR_copy_21 rfl ?_
      refine x_getR fl_R_98 rfl dR_copy_22 rfl rfl rfl ?_
      refine x_iload_n dR_copy_25 rfl ?_
      refine x_ialdJ (j := p) dR_copy_26 rfl rfl (by first | rfl | (simp only [← nI_add, ← pk_mul]; rfl)) (by omega) ?_
      refine x_iconst (v := -1) dR_copy_27 rfl ?_
      -- at 28: .if_icmp .eq 13
      refine x_icmp_eq (tgt := 41) dR_copy_28 (by decide) (fun a3 => ?_) (fun a3 => ?_)
      · exact no (Or.inl a3)
      · have a3 : ¬ rE I 26 p = -1 := a3
        refine x_aload_n dR_copy_31 rfl ?_
        refine x_getR fl_R_98 rfl dR_copy_32 rfl rfl rfl ?_
        refine x_iload_n dR_copy_35 rfl ?_
        refine x_ialdJ (j := q) dR_copy_36 rfl rfl (by first | rfl | (simp only [← nI_add, ← pk_mul]; rfl)) (by omega) ?_
        refine x_iconst (v := -1) dR_copy_37 rfl ?_
        -- at 38: .if_icmp .ne 6
        refine x_icmp_ne (tgt := 44) dR_copy_38 (by decide) (fun a4 => ?_) (fun a4 => ?_)
        · have a4 : ¬ rE I 26 q = -1 := a4
          have hc : ¬ (rE I 26 p = -1 ∨ rE I 26 q = -1) := fun z => z.elim a3 a4
          rw [if_neg hc, if_neg hc] at h1
          refine x_aload_n dR_copy_44 rfl ?_
          refine x_getR fl_R_98 rfl dR_copy_45 rfl rfl rfl ?_
          refine x_iload_n dR_copy_48 rfl ?_
          refine x_ialdJ (j := p) dR_copy_49 rfl rfl (by first | rfl | (simp only [← nI_add, ← pk_mul]; rfl)) (by omega) ?_
          refine x_aload_n dR_copy_50 rfl ?_
          refine x_getR fl_R_98 rfl dR_copy_51 rfl rfl rfl ?_
          refine x_iload_n dR_copy_54 rfl ?_
          refine x_ialdJ (j := q) dR_copy_55 rfl rfl (by first | rfl | (simp only [← nI_add, ← pk_mul]; rfl)) (by omega) ?_
          -- at 56: .if_icmp .eq 6
          refine x_icmp_eq (tgt := 62) dR_copy_56 (by decide) (fun c5 => ?_) (fun c5 => ?_)
          · have c5 : rE I 26 p = rE I 26 q := c5
            rw [if_neg (not_not_intro c5), if_neg (not_not_intro c5)] at h1
            have out : ¬ (0 ≤ n ∧ inR i 0 (nI zp - n) ∧ inR j 0 (nI zq - n)) → X mR_copy G (3, 0, 0) S1 I L 124 [.ref 59, .int (nI p), .int i, .int (nI q), .int j, .int n, .null, .null, .null, .null] [] Post := by
              intro hc
              rw [if_pos hc, if_pos hc] at h1
              refine x_bipush (v := -12) dR_copy_124 rfl ?_
              -- at 126: .ireturn
              refine x_ireturn dR_copy_126 rfl rfl ?_
              exact h1 I L (fun _ _ => rfl) hok.2 rfl
            refine x_iload dR_copy_62 rfl ?_
            -- at 64: .ifCond .lt 60
            refine x_if_lt (tgt := 124) dR_copy_64 (by decide) (fun c6 => ?_) (fun c6 => ?_)
            · exact out (fun z => absurd z.1 (Int32.not_le.mpr c6))
            · have c6 : 0 ≤ n := Int32.not_lt.mp c6
              have ii := cp_iff (i := i) hzp c6
              have jj := cp_iff (i := j) hzq c6
              refine x_iload_n dR_copy_67 rfl ?_
              -- at 68: .ifCond .lt 56
              refine x_if_lt (tgt := 124) dR_copy_68 (by decide) (fun c7 => ?_) (fun c7 => ?_)
              · exact out (fun z => absurd z.2.1.1 (Int32.not_le.mpr c7))
              · have c7 : 0 ≤ i := Int32.not_lt.mp c7
                refine x_iload dR_copy_71 rfl ?_
                -- at 73: .ifCond .lt 51
                refine x_if_lt (tgt := 124) dR_copy_73 (by decide) (fun c8 => ?_) (fun c8 => ?_)
                · exact out (fun z => absurd z.2.2.1 (Int32.not_le.mpr c8))
                · have c8 : 0 ≤ j := Int32.not_lt.mp c8
                  refine x_iload_n dR_copy_76 rfl ?_
                  refine x_aload_n dR_copy_77 rfl ?_
                  refine x_getR fl_R_101 rfl dR_copy_78 rfl rfl rfl ?_
                  refine x_iload_n dR_copy_81 rfl ?_
                  refine x_ialdJ (j := p) dR_copy_82 rfl rfl (by first | rfl | (simp only [← nI_add, ← pk_mul]; rfl)) (by omega) ?_
                  -- at 83: .if_icmp .gt 41
                  rw [ep]
                  refine x_icmp_gt (tgt := 124) dR_copy_83 (by decide) (fun d1 => ?_) (fun d1 => ?_)
                  · exact out (fun z => absurd (ii.mpr z.2.1).2.1 (Int32.not_le.mpr d1))
                  · refine x_iload dR_copy_86 rfl ?_
                    refine x_aload_n dR_copy_88 rfl ?_
                    refine x_getR fl_R_101 rfl dR_copy_89 rfl rfl rfl ?_
                    refine x_iload_n dR_copy_92 rfl ?_
                    refine x_ialdJ (j := q) dR_copy_93 rfl rfl (by first | rfl | (simp only [← nI_add, ← pk_mul]; rfl)) (by omega) ?_
                    -- at 94: .if_icmp .gt 30
                    rw [eq]
                    refine x_icmp_gt (tgt := 124) dR_copy_94 (by decide) (fun d2 => ?_) (fun d2 => ?_)
                    · exact out (fun z => absurd (jj.mpr z.2.2).2.1 (Int32.not_le.mpr d2))
                    · refine x_iload dR_copy_97 rfl ?_
                      refine x_aload_n dR_copy_99 rfl ?_
                      refine x_getR fl_R_101 rfl dR_copy_100 rfl rfl rfl ?_
                      refine x_iload_n dR_copy_103 rfl ?_
                      refine x_ialdJ (j := p) dR_copy_104 rfl rfl (by first | rfl | (simp only [← nI_add, ← pk_mul]; rfl)) (by omega) ?_
                      -- at 105: .iload_n 2
                      rw [ep]
                      refine x_iload_n dR_copy_105 rfl ?_
                      refine x_isub dR_copy_106 ?_
                      -- at 107: .if_icmp .gt 17
                      refine x_icmp_gt (tgt := 124) dR_copy_107 (by decide) (fun d3 => ?_) (fun d3 => ?_)
                      · exact out (fun z => absurd (ii.mpr z.2.1).2.2 (Int32.not_le.mpr d3))
                      · refine x_iload dR_copy_110 rfl ?_
                        refine x_aload_n dR_copy_112 rfl ?_
                        refine x_getR fl_R_101 rfl dR_copy_113 rfl rfl rfl ?_
                        refine x_iload_n dR_copy_116 rfl ?_
                        refine x_ialdJ (j := q) dR_copy_117 rfl rfl (by first | rfl | (simp only [← nI_add, ← pk_mul]; rfl)) (by omega) ?_
                        -- at 118: .iload 4
                        rw [eq]
                        refine x_iload dR_copy_118 rfl ?_
                        refine x_isub dR_copy_120 ?_
                        -- at 121: .if_icmp .le 6
                        refine x_icmp_le (tgt := 127) dR_copy_121 (by decide) (fun d4 => ?_) (fun d4 => ?_)
                        · have a7 : inR i 0 (nI zp - n) := ii.mp ⟨c7, Int32.not_lt.mp d1, Int32.not_lt.mp d3⟩
                          have a8 : inR j 0 (nI zq - n) := jj.mp ⟨c8, Int32.not_lt.mp d2, d4⟩
                          have hc3 : 0 ≤ n ∧ inR i 0 (nI zp - n) ∧ inR j 0 (nI zq - n) := ⟨c6, a7, a8⟩
                          rw [if_neg (not_not_intro hc3), if_neg (not_not_intro hc3)] at h1
                          obtain ⟨a, b, ea, eb, hab⟩ := cp_nat rfl hzp c6 a7
                          obtain ⟨a', b', ea', eb', hab'⟩ := cp_nat rfl hzq c6 a8
                          have ebb : b' = b := by
                            rw [eb'] at eb
                            exact (nI_eq (by omega) (by omega)).mp eb
                          subst ebb
                          subst ea ea' eb
                          rw [cl_nI (by omega), cl_nI (by omega), cl_nI (by omega)] at h1
                          refine x_bipush (v := 40) dR_copy_127 rfl ?_
                          refine x_iload_n dR_copy_129 rfl ?_
                          refine x_imul dR_copy_130 ?_
                          refine x_iload_n dR_copy_131 rfl ?_
                          refine x_iadd dR_copy_132 ?_
                          -- at 133: .istore 6
                          refine x_eqi (y := nI (p * 40 + a)) (r40 p a) ?_
                          refine x_istore_6 dR_copy_133 rfl rfl ?_
                          refine x_bipush (v := 40) dR_copy_135 rfl ?_
                          refine x_iload_n dR_copy_137 rfl ?_
                          refine x_imul dR_copy_138 ?_
                          refine x_iload dR_copy_139 rfl ?_
                          refine x_iadd dR_copy_141 ?_
                          -- at 142: .istore 7
                          refine x_eqi (y := nI (q * 40 + a')) (r40 q a') ?_
                          refine x_istore_7 dR_copy_142 rfl rfl ?_
                          refine x_iconst (v := 0) dR_copy_144 rfl ?_
                          refine x_istore_8 dR_copy_145 rfl rfl ?_
                          -- at 147: .iload 8
                          have fin : ∀ g : Nat → Int32, g = va_cpy (I 90) (I 90) (p * 40 + a) (q * 40 + a') b' → Post (some (.int (nI b'))) S1 (upr I 90 g) L := by
                            intro g hg
                            rw [hg]
                            exact h1 _ L (fun k hk => upr_n _ _ (by omega)) (hok.2.upr (by decide) (by decide)) (rE_28 I _)
                          by_cases hdir : p * 40 + a < q * 40 + a'
                          · have loop : ∀ (m k : Nat) (a9 : Value), k + m = b' → X mR_copy G (3, 0, 0) S1 (upr I 90 (cpB (I 90) (p * 40 + a) (q * 40 + a') b' k)) L 147 [.ref 59, .int (nI p), .int (nI a), .int (nI q), .int (nI a'), .int (nI b'), .int (nI (p * 40 + a)), .int (nI (q * 40 + a')), .int (nI k), a9] [] Post := by
                              intro m
                              induction m with
                              | zero =>
                                intro k a9 hk
                                obtain rfl : k = b' := by omega
                                refine x_iload dR_copy_147 rfl ?_
                                refine x_iload dR_copy_149 rfl ?_
                                -- at 151: .if_icmp .ge 50
                                refine x_icmp_ge (tgt := 201) dR_copy_151 (by decide) (fun _ => ?_) (fun h => absurd (Int32.le_refl _) h)
                                refine x_iload dR_copy_201 rfl ?_
                                -- at 203: .ireturn
                                refine x_ireturn dR_copy_203 rfl rfl ?_
                                exact fin _ (cpB_n _ _ _ _)
                              | succ m ih =>
                                intro k a9 hk
                                refine x_iload dR_copy_147 rfl ?_
                                refine x_iload dR_copy_149 rfl ?_
                                -- at 151: .if_icmp .ge 50
                                refine x_icmp_ge (tgt := 201) dR_copy_151 (by decide) (fun h => absurd h (nI_ge (by omega) (by omega))) (fun _ => ?_)
                                refine x_iload dR_copy_154 rfl ?_
                                refine x_iload dR_copy_156 rfl ?_
                                -- at 158: .if_icmp .ge 13
                                refine x_icmp_ge (tgt := 171) dR_copy_158 (by decide) (fun h => absurd h (nI_ge hdir (by omega))) (fun _ => ?_)
                                refine x_iload dR_copy_161 rfl ?_
                                refine x_iconst (v := 1) dR_copy_163 rfl ?_
                                refine x_isub dR_copy_164 ?_
                                refine x_iload dR_copy_165 rfl ?_
                                refine x_isub dR_copy_167 ?_
                                -- at 168: .goto 5
                                refine x_eqi (y := nI (b' - 1 - k)) (by rw [show (1 : Int32) = nI 1 from rfl, pk_sub (by omega), pk_sub (by omega)]) ?_
                                refine x_goto (tgt := 173) dR_copy_168 (by decide) ?_
                                refine x_istore_9 dR_copy_173 rfl rfl ?_
                                refine x_aload_n dR_copy_175 rfl ?_
                                refine x_getR fl_R_104 rfl dR_copy_176 rfl rfl rfl ?_
                                refine x_iload dR_copy_179 rfl ?_
                                refine x_iload dR_copy_181 rfl ?_
                                refine x_iadd dR_copy_183 ?_
                                refine x_aload_n dR_copy_184 rfl ?_
                                refine x_getR fl_R_104 rfl dR_copy_185 rfl rfl rfl ?_
                                refine x_iload dR_copy_188 rfl ?_
                                refine x_iload dR_copy_190 rfl ?_
                                refine x_iadd dR_copy_192 ?_
                                -- at 193: .iaload
                                rw [nI_add, nI_add]
                                refine x_ialdJ dR_copy_193 rfl rfl rfl (by omega) ?_
                                refine x_iastJ dR_copy_194 rfl rfl rfl (by omega) ?_
                                -- at 195: .iinc 8 1
                                rw [upr_s, up2_upr, cpB_s _ _ _ _ _ hdir (by omega)]
                                refine x_iincp_8 dR_copy_195 rfl rfl ?_
                                refine x_goto (tgt := 147) dR_copy_198 (by decide) ?_
                                -- at 147: .iload 8
                                rw [nI_1]
                                exact ih (k + 1) _ (by omega)
                            have e := loop b' 0 .null (by omega)
                            have e0 : cpB (I 90) (p * 40 + a) (q * 40 + a') b' 0 = I 90 := by
                              funext x
                              unfold cpB
                              rw [if_neg (by omega)]
                            rw [e0, upr_id] at e
                            exact e
                          · have loop : ∀ (m k : Nat) (a9 : Value), k + m = b' → X mR_copy G (3, 0, 0) S1 (upr I 90 (cpF (I 90) (p * 40 + a) (q * 40 + a') k)) L 147 [.ref 59, .int (nI p), .int (nI a), .int (nI q), .int (nI a'), .int (nI b'), .int (nI (p * 40 + a)), .int (nI (q * 40 + a')), .int (nI k), a9] [] Post := by
                              intro m
                              induction m with
                              | zero =>
                                intro k a9 hk
                                obtain rfl : k = b' := by omega
                                refine x_iload dR_copy_147 rfl ?_
                                refine x_iload dR_copy_149 rfl ?_
                                -- at 151: .if_icmp .ge 50
                                refine x_icmp_ge (tgt := 201) dR_copy_151 (by decide) (fun _ => ?_) (fun h => absurd (Int32.le_refl _) h)
                                refine x_iload dR_copy_201 rfl ?_
                                -- at 203: .ireturn
                                refine x_ireturn dR_copy_203 rfl rfl ?_
                                exact fin _ (cpF_n _ _ _ _)
                              | succ m ih =>
                                intro k a9 hk
                                refine x_iload dR_copy_147 rfl ?_
                                refine x_iload dR_copy_149 rfl ?_
                                -- at 151: .if_icmp .ge 50
                                refine x_icmp_ge (tgt := 201) dR_copy_151 (by decide) (fun h => absurd h (nI_ge (by omega) (by omega))) (fun _ => ?_)
                                refine x_iload dR_copy_154 rfl ?_
                                refine x_iload dR_copy_156 rfl ?_
                                -- at 158: .if_icmp .ge 13
                                refine x_icmp_ge (tgt := 171) dR_copy_158 (by decide) (fun _ => ?_) (fun h => absurd (nI_le (by omega) (by omega)) h)
                                refine x_iload dR_copy_171 rfl ?_
                                refine x_istore_9 dR_copy_173 rfl rfl ?_
                                refine x_aload_n dR_copy_175 rfl ?_
                                refine x_getR fl_R_104 rfl dR_copy_176 rfl rfl rfl ?_
                                refine x_iload dR_copy_179 rfl ?_
                                refine x_iload dR_copy_181 rfl ?_
                                refine x_iadd dR_copy_183 ?_
                                refine x_aload_n dR_copy_184 rfl ?_
                                refine x_getR fl_R_104 rfl dR_copy_185 rfl rfl rfl ?_
                                refine x_iload dR_copy_188 rfl ?_
                                refine x_iload dR_copy_190 rfl ?_
                                refine x_iadd dR_copy_192 ?_
                                -- at 193: .iaload
                                rw [nI_add, nI_add]
                                refine x_ialdJ dR_copy_193 rfl rfl rfl (by omega) ?_
                                refine x_iastJ dR_copy_194 rfl rfl rfl (by omega) ?_
                                -- at 195: .iinc 8 1
                                rw [upr_s, up2_upr, cpF_s _ _ _ _ (by omega)]
                                refine x_iincp_8 dR_copy_195 rfl rfl ?_
                                refine x_goto (tgt := 147) dR_copy_198 (by decide) ?_
                                -- at 147: .iload 8
                                rw [nI_1]
                                exact ih (k + 1) _ (by omega)
                            have e := loop b' 0 .null (by omega)
                            have e0 : cpF (I 90) (p * 40 + a) (q * 40 + a') 0 = I 90 := by
                              funext x
                              unfold cpF
                              rw [if_neg (by omega)]
                            rw [e0, upr_id] at e
                            exact e
                        · exact out (fun z => d4 (jj.mpr z.2.2).2.2)
          · have c5 : ¬ rE I 26 p = rE I 26 q := c5
            rw [if_pos c5, if_pos c5] at h1
            refine x_bipush (v := -13) dR_copy_59 rfl ?_
            -- at 61: .ireturn
            refine x_ireturn dR_copy_61 rfl rfl ?_
            exact h1 I L (fun _ _ => rfl) hok.2 rfl
        · exact no (Or.inr a4)
    · refine x_if_ne (tgt := 21) dR_copy_15 (by decide) (fun h => absurd (by decide) h) (fun _ => ?_)
      exact bad (fun z => a2 z.2)
  · refine x_if_eq (tgt := 18) dR_copy_6 (by decide) (fun _ => ?_) (fun h => absurd (by decide) h)
    exact bad (fun z => a1 z.1)
theorem pb_iff {z k : Nat} {a0 : Int32} (hz : z ≤ 40) (hk : k ≤ 8) : (0 ≤ a0 ∧ a0 ≤ a0 + 4 * nI k ∧ a0 + 4 * nI k ≤ nI z - 4) ↔ inR a0 0 (nI z - 4 - 4 * nI k) := by
  have e4 : (4 : Int32) * nI k = nI (4 * k) := pk_mul 4 k
  constructor
  · rintro ⟨h1, h2, h3⟩
    obtain ⟨a, ha, rfl⟩ := nat_any h1
    rw [e4, nI_add] at h2 h3
    have hb : a + 4 * k < 2 ^ 31 := by
      by_cases y : a + 4 * k < 2 ^ 31
      · exact y
      · exfalso
        have h5 := Int32.le_iff_toInt_le.mp h2
        rw [nI_toInt ha] at h5
        have e : (nI (a + 4 * k)).toInt = ((a + 4 * k : Nat) : Int) - 2 ^ 32 := by
          rw [← nI_add, Int32.toInt_add, nI_toInt ha, nI_toInt (show 4 * k < 2 ^ 31 by omega), Int.bmod_eq_emod, if_pos (by omega)]
          omega
        omega
    have h5 := Int32.le_iff_toInt_le.mp h3
    rw [show (nI z - 4 : Int32) = nI z - nI 4 from rfl, pk_sub_toInt (by omega) (by omega), nI_toInt hb] at h5
    refine ⟨h1, ?_⟩
    rw [e4, show (nI z - 4 : Int32) = nI z - nI 4 from rfl, pk_sub (by omega), pk_sub (by omega)]
    exact nI_le (by omega) (by omega)
  · intro h
    obtain ⟨a, rfl, hza⟩ := pb_nat hz hk h
    refine ⟨h.1, ?_, ?_⟩
    · rw [e4, nI_add]
      exact nI_le (by omega) (by omega)
    · rw [e4, nI_add, show (nI z - 4 : Int32) = nI z - nI 4 from rfl, pk_sub (by omega)]
      exact nI_le (by omega) (by omega)
def sp_R_promisesBy : SpT := fun as S I L Post => ∃ s so a0 n : Int32, rSp [.int s, .int so, .int a0, .int n] (fun E => .int (pbS E s so a0 n)) (fun E => pbU E s so a0 n) as S I L Post
set_option maxHeartbeats 4000000 in
set_option maxRecDepth 100000 in
theorem c_R_promisesBy : Con mR_promisesBy 4 0 0 sp_R_promisesBy := by
  refine con_of_X rfl fun G as S I0 L Post hs => ?_
  obtain ⟨s, so, a0, n, rfl, rfl, hok, h1⟩ := hs
  dsimp only at h1
  refine ⟨4, Nat.le_of_ble_eq_true rfl, ?_⟩
  show X mR_promisesBy G _ S1 I0 L 0 [.ref 59, .int s, .int so, .int a0, .int n, .null, .null, .null, .null] [] Post
  have bad : ¬ pbOk s so n → X mR_promisesBy G (4, 0, 0) S1 I0 L 29 [.ref 59, .int s, .int so, .int a0, .int n, .null, .null, .null, .null] [] Post := by
    intro hc
    rw [pbS, pbU, if_pos hc, if_pos hc] at h1
    refine x_bipush (v := -2) dR_promisesBy_29 rfl ?_
    -- at 31: .ireturn
    refine x_ireturn dR_promisesBy_31 rfl rfl ?_
    exact h1 I0 L (fun _ _ => rfl) hok.2 rfl
  refine x_iload_n dR_promisesBy_0 rfl ?_
  refine x_iconst (v := 0) dR_promisesBy_1 rfl ?_
  refine x_iconst (v := 3) dR_promisesBy_2 rfl ?_
  -- at 3: .invokestatic 151
  refine x_callS_3 c_R_in ok_R_in ml_R_151 dR_promisesBy_3 rfl rfl ?_
  refine ⟨_, _, _, rfl, fun a1 => ?_, fun a1 => ?_⟩
  · have a1 : inR s 0 3 := a1
    refine x_if_eq (tgt := 29) dR_promisesBy_6 (by decide) (fun h => absurd h (by decide)) (fun _ => ?_)
    refine x_iload_n dR_promisesBy_9 rfl ?_
    refine x_iconst (v := 0) dR_promisesBy_10 rfl ?_
    refine x_iconst (v := 2) dR_promisesBy_11 rfl ?_
    -- at 12: .invokestatic 151
    refine x_callS_3 c_R_in ok_R_in ml_R_151 dR_promisesBy_12 rfl rfl ?_
    refine ⟨_, _, _, rfl, fun a2 => ?_, fun a2 => ?_⟩
    · refine x_if_eq (tgt := 29) dR_promisesBy_15 (by decide) (fun h => absurd h (by decide)) (fun _ => ?_)
      refine x_iload dR_promisesBy_18 rfl ?_
      refine x_iconst (v := 0) dR_promisesBy_20 rfl ?_
      refine x_bipush (v := 8) dR_promisesBy_21 rfl ?_
      -- at 23: .invokestatic 151
      refine x_callS_3 c_R_in ok_R_in ml_R_151 dR_promisesBy_23 rfl rfl ?_
      refine ⟨_, _, _, rfl, fun a3 => ?_, fun a3 => ?_⟩
      · have a3 : inR n 0 8 := a3
        refine x_if_ne (tgt := 32) dR_promisesBy_26 (by decide) (fun _ => ?_) (fun h => absurd h (by decide))
        have hc : pbOk s so n := ⟨a1, a2, a3⟩
        rw [pbS, pbU, if_neg (not_not_intro hc), if_neg (not_not_intro hc)] at h1
        obtain ⟨i, hi, rfl⟩ := inR_of (n := 3) (by decide) a1
        obtain ⟨N, hN, rfl⟩ := inR_of (n := 8) (by decide) a3
        rw [cl_nI (by omega), cl_nI (by omega)] at h1
        refine x_aload_n dR_promisesBy_32 rfl ?_
        refine x_getR fl_R_98 rfl dR_promisesBy_33 rfl rfl rfl ?_
        refine x_iload_n dR_promisesBy_36 rfl ?_
        refine x_ialdJ (j := i) dR_promisesBy_37 rfl rfl (by first | rfl | (simp only [← nI_add, ← pk_mul]; rfl)) (by omega) ?_
        refine x_iconst (v := -1) dR_promisesBy_38 rfl ?_
        -- at 39: .if_icmp .ne 6
        refine x_icmp_ne (tgt := 45) dR_promisesBy_39 (by decide) (fun a4 => ?_) (fun a4 => ?_)
        · have a4 : ¬ rE I0 26 i = -1 := a4
          rw [if_neg a4, if_neg a4] at h1
          refine x_aload_n dR_promisesBy_45 rfl ?_
          refine x_getR fl_R_98 rfl dR_promisesBy_46 rfl rfl rfl ?_
          refine x_iload_n dR_promisesBy_49 rfl ?_
          refine x_ialdJ (j := i) dR_promisesBy_50 rfl rfl (by first | rfl | (simp only [← nI_add, ← pk_mul]; rfl)) (by omega) ?_
          refine x_iload_n dR_promisesBy_51 rfl ?_
          -- at 52: .if_icmp .eq 6
          refine x_icmp_eq (tgt := 58) dR_promisesBy_52 (by decide) (fun c5 => ?_) (fun c5 => ?_)
          · have c5 : rE I0 26 i = so := c5
            rw [if_neg (not_not_intro c5), if_neg (not_not_intro c5)] at h1
            refine x_iconst (v := 0) dR_promisesBy_58 rfl ?_
            refine x_istore_5 dR_promisesBy_59 rfl rfl ?_
            refine x_iconst (v := 0) dR_promisesBy_61 rfl ?_
            refine x_istore_6 dR_promisesBy_62 rfl rfl ?_
            -- at 64: .iload 6
            have loop : ∀ (m k : Nat) (I : IM) (L : LM) (came : Int32) (a7 a8 : Value), k + m = N → rOk I → (∀ k, k < 59 → I k = I0 k) →
                (∀ (I' : IM) (L' : LM), (∀ k, k < 59 → I' k = I0 k) → rOwn I' → rE I' = (pbR i a0 m k came (rE I)).2 → Post (some (.int (pbR i a0 m k came (rE I)).1)) S1 I' L') →
                X mR_promisesBy G (4, 0, 0) S1 I L 64 [.ref 59, .int (nI i), .int so, .int a0, .int (nI N), .int came, .int (nI k), a7, a8] [] Post := by
              intro m
              induction m with
              | zero =>
                intro k I L came a7 a8 hk ok st hcc
                obtain rfl : k = N := by omega
                refine x_iload dR_promisesBy_64 rfl ?_
                refine x_iload dR_promisesBy_66 rfl ?_
                -- at 68: .if_icmp .ge 103
                refine x_icmp_ge (tgt := 171) dR_promisesBy_68 (by decide) (fun _ => ?_) (fun h => absurd (Int32.le_refl _) h)
                refine x_iload dR_promisesBy_171 rfl ?_
                -- at 173: .ireturn
                refine x_ireturn dR_promisesBy_173 rfl rfl ?_
                exact hcc I L st ok.2 rfl
              | succ m ih =>
                intro k I L came a7 a8 hk ok st hcc
                obtain ⟨z, hz, ez⟩ := sz_nat ok.1 (s := i) (by omega)
                have ez : I 89 i = nI z := ez
                rw [pbR, show rE I 27 i = nI z from ez] at hcc
                have iff := pb_iff (k := k) (a0 := a0) hz (by omega)
                have out : ¬ inR a0 0 (nI z - 4 - 4 * nI k) → ∀ x : Int32, X mR_promisesBy G (4, 0, 0) S1 I L 102 [.ref 59, .int (nI i), .int so, .int a0, .int (nI N), .int came, .int (nI k), .int x, a8] [] Post := by
                  intro g x
                  rw [if_pos g] at hcc
                  refine x_bipush (v := -12) dR_promisesBy_102 rfl ?_
                  -- at 104: .ireturn
                  refine x_ireturn dR_promisesBy_104 rfl rfl ?_
                  exact hcc I L st ok.2 rfl
                refine x_iload dR_promisesBy_64 rfl ?_
                refine x_iload dR_promisesBy_66 rfl ?_
                -- at 68: .if_icmp .ge 103
                refine x_icmp_ge (tgt := 171) dR_promisesBy_68 (by decide) (fun h => absurd h (nI_ge (b := N) (by omega) (by omega))) (fun _ => ?_)
                refine x_iload_n dR_promisesBy_71 rfl ?_
                refine x_iconst (v := 4) dR_promisesBy_72 rfl ?_
                refine x_iload dR_promisesBy_73 rfl ?_
                refine x_imul dR_promisesBy_75 ?_
                refine x_iadd dR_promisesBy_76 ?_
                refine x_istore_7 dR_promisesBy_77 rfl rfl ?_
                refine x_iload_n dR_promisesBy_79 rfl ?_
                -- at 80: .ifCond .lt 22
                refine x_if_lt (tgt := 102) dR_promisesBy_80 (by decide) (fun c6 => ?_) (fun c6 => ?_)
                · exact out (fun z => absurd z.1 (Int32.not_le.mpr c6)) _
                · refine x_iload dR_promisesBy_83 rfl ?_
                  refine x_iload_n dR_promisesBy_85 rfl ?_
                  -- at 86: .if_icmp .lt 16
                  refine x_icmp_lt (tgt := 102) dR_promisesBy_86 (by decide) (fun c7 => ?_) (fun c7 => ?_)
                  · exact out (fun z => absurd (iff.mpr z).2.1 (Int32.not_le.mpr c7)) _
                  · refine x_iload dR_promisesBy_89 rfl ?_
                    refine x_aload_n dR_promisesBy_91 rfl ?_
                    refine x_getR fl_R_101 rfl dR_promisesBy_92 rfl rfl rfl ?_
                    refine x_iload_n dR_promisesBy_95 rfl ?_
                    refine x_ialdJ (j := i) dR_promisesBy_96 rfl rfl (by first | rfl | (simp only [← nI_add, ← pk_mul]; rfl)) (by omega) ?_
                    -- at 97: .iconst 4
                    rw [ez]
                    refine x_iconst (v := 4) dR_promisesBy_97 rfl ?_
                    refine x_isub dR_promisesBy_98 ?_
                    -- at 99: .if_icmp .le 6
                    refine x_icmp_le (tgt := 105) dR_promisesBy_99 (by decide) (fun c8 => ?_) (fun c8 => ?_)
                    · have g : inR a0 0 (nI z - 4 - 4 * nI k) := iff.mp ⟨Int32.not_lt.mp c6, Int32.not_lt.mp c7, c8⟩
                      rw [if_neg (not_not_intro g)] at hcc
                      obtain ⟨a, rfl, hza⟩ := pb_nat hz (by omega) g
                      have ec : pbC i (nI a) k = i * 40 + a + 4 * k := by unfold pbC; rw [cl_nI (by omega)]
                      rw [ec] at hcc
                      refine x_bipush (v := 40) dR_promisesBy_105 rfl ?_
                      refine x_iload_n dR_promisesBy_107 rfl ?_
                      refine x_imul dR_promisesBy_108 ?_
                      refine x_iload dR_promisesBy_109 rfl ?_
                      refine x_iadd dR_promisesBy_111 ?_
                      -- at 112: .istore 8
                      refine x_eqi (y := nI (i * 40 + a + 4 * k)) (by rw [show (4 : Int32) * nI k = nI (4 * k) from pk_mul 4 k, nI_add, r40, ← Nat.add_assoc]) ?_
                      refine x_istore_8 dR_promisesBy_112 rfl rfl ?_
                      refine x_iload dR_promisesBy_114 rfl ?_
                      refine x_aload_n dR_promisesBy_116 rfl ?_
                      refine x_aload_n dR_promisesBy_117 rfl ?_
                      refine x_getR fl_R_104 rfl dR_promisesBy_118 rfl rfl rfl ?_
                      refine x_iload dR_promisesBy_121 rfl ?_
                      refine x_ialdJ (j := i * 40 + a + 4 * k) dR_promisesBy_123 rfl rfl (by first | rfl | (simp only [← nI_add, ← pk_mul]; rfl)) (by omega) ?_
                      refine x_aload_n dR_promisesBy_124 rfl ?_
                      refine x_getR fl_R_104 rfl dR_promisesBy_125 rfl rfl rfl ?_
                      refine x_iload dR_promisesBy_128 rfl ?_
                      refine x_iconst (v := 1) dR_promisesBy_130 rfl ?_
                      refine x_iadd dR_promisesBy_131 ?_
                      refine x_ialdJ (j := i * 40 + a + 4 * k + 1) dR_promisesBy_132 rfl rfl (by first | rfl | (simp only [← nI_add, ← pk_mul]; rfl)) (by omega) ?_
                      refine x_aload_n dR_promisesBy_133 rfl ?_
                      refine x_getR fl_R_104 rfl dR_promisesBy_134 rfl rfl rfl ?_
                      refine x_iload dR_promisesBy_137 rfl ?_
                      refine x_iconst (v := 2) dR_promisesBy_139 rfl ?_
                      refine x_iadd dR_promisesBy_140 ?_
                      refine x_ialdJ (j := i * 40 + a + 4 * k + 2) dR_promisesBy_141 rfl rfl (by first | rfl | (simp only [← nI_add, ← pk_mul]; rfl)) (by omega) ?_
                      refine x_aload_n dR_promisesBy_142 rfl ?_
                      refine x_getR fl_R_104 rfl dR_promisesBy_143 rfl rfl rfl ?_
                      refine x_iload dR_promisesBy_146 rfl ?_
                      refine x_iconst (v := 3) dR_promisesBy_148 rfl ?_
                      refine x_iadd dR_promisesBy_149 ?_
                      refine x_ialdJ (j := i * 40 + a + 4 * k + 3) dR_promisesBy_150 rfl rfl (by first | rfl | (simp only [← nI_add, ← pk_mul]; rfl)) (by omega) ?_
                      -- at 151: .invokevirtual 376
                      refine x_callV_4 c_R_promise ok_R_promise ml_R_376 dR_promisesBy_151 rfl rfl rfl rfl rfl ?_
                      refine ⟨_, _, _, _, rfl, rfl, ok, fun I' L' st' own' e' => ?_⟩
                      have ok' : rOk I' := by
                        refine ⟨?_, own'⟩
                        rw [e']
                        exact Inv_promise ok.1 _ _ _ _
                      have st2 : ∀ k, k < 59 → I' k = I0 k := fun k hk => (st' k hk).trans (st k hk)
                      refine x_if_lt (tgt := 161) dR_promisesBy_154 (by decide) (fun d1 => ?_) (fun d1 => ?_)
                      · have d1 : promiseS (rE I) (rE I 28 (i * 40 + a + 4 * k)) (rE I 28 (i * 40 + a + 4 * k + 1)) (rE I 28 (i * 40 + a + 4 * k + 2)) (rE I 28 (i * 40 + a + 4 * k + 3)) < 0 := d1
                        refine x_iconst (v := 0) dR_promisesBy_161 rfl ?_
                        refine x_iadd dR_promisesBy_162 ?_
                        -- at 163: .istore 5
                        refine x_eqi (y := came) (Int32.add_zero came) ?_
                        refine x_istore_5 dR_promisesBy_163 rfl rfl ?_
                        refine x_iincp_6 dR_promisesBy_165 rfl rfl ?_
                        refine x_goto (tgt := 64) dR_promisesBy_168 (by decide) ?_
                        -- at 64: .iload 6
                        rw [nI_1]
                        refine ih (k + 1) I' L' _ _ _ (by omega) ok' st2 ?_
                        rw [e']
                        rw [if_neg (Int32.not_le.mpr d1)] at hcc
                        exact hcc
                      · have d1 : ¬ promiseS (rE I) (rE I 28 (i * 40 + a + 4 * k)) (rE I 28 (i * 40 + a + 4 * k + 1)) (rE I 28 (i * 40 + a + 4 * k + 2)) (rE I 28 (i * 40 + a + 4 * k + 3)) < 0 := d1
                        refine x_iconst (v := 1) dR_promisesBy_157 rfl ?_
                        refine x_goto (tgt := 162) dR_promisesBy_158 (by decide) ?_
                        refine x_iadd dR_promisesBy_162 ?_
                        refine x_istore_5 dR_promisesBy_163 rfl rfl ?_
                        refine x_iincp_6 dR_promisesBy_165 rfl rfl ?_
                        refine x_goto (tgt := 64) dR_promisesBy_168 (by decide) ?_
                        -- at 64: .iload 6
                        rw [nI_1]
                        refine ih (k + 1) I' L' _ _ _ (by omega) ok' st2 ?_
                        rw [e']
                        rw [if_pos (Int32.not_lt.mp d1)] at hcc
                        exact hcc
                    · exact out (fun z => absurd (iff.mpr z).2.2 c8) _
            exact loop N 0 I0 L 0 _ _ (by omega) hok (fun _ _ => rfl) h1
          · have c5 : ¬ rE I0 26 i = so := c5
            rw [if_pos c5, if_pos c5] at h1
            refine x_bipush (v := -13) dR_promisesBy_55 rfl ?_
            -- at 57: .ireturn
            refine x_ireturn dR_promisesBy_57 rfl rfl ?_
            exact h1 I0 L (fun _ _ => rfl) hok.2 rfl
        · have a4 : rE I0 26 i = -1 := a4
          rw [if_pos a4, if_pos a4] at h1
          refine x_bipush (v := -11) dR_promisesBy_42 rfl ?_
          -- at 44: .ireturn
          refine x_ireturn dR_promisesBy_44 rfl rfl ?_
          exact h1 I0 L (fun _ _ => rfl) hok.2 rfl
      · refine x_if_ne (tgt := 32) dR_promisesBy_26 (by decide) (fun h => absurd (by decide) h) (fun _ => ?_)
        exact bad (fun z => a3 z.2.2)
    · refine x_if_eq (tgt := 29) dR_promisesBy_15 (by decide) (fun _ => ?_) (fun h => absurd (by decide) h)
      exact bad (fun z => a2 z.2.1)
  · refine x_if_eq (tgt := 29) dR_promisesBy_6 (by decide) (fun _ => ?_) (fun h => absurd (by decide) h)
    exact bad (fun z => a1 z.1)
end
section
-- 66.r6
/-! the reference: a text's program; how well one hears -/
theorem rE_fr {I I' : IM} (h : Fr [93, 94, 95, 96, 97, 98, 99] I I') : rE I' = rE I := by
  have e : ∀ k, k ∉ [93, 94, 95, 96, 97, 98, 99] → I' k = I k := h
  funext a
  have e29 : rSc I' = rSc I := by
    funext j
    unfold rSc
    rw [e 59 (by decide)]
  unfold rE
  rw [e29, e 59 (by decide), e 60 (by decide), e 61 (by decide), e 62 (by decide), e 63 (by decide), e 64 (by decide), e 65 (by decide), e 66 (by decide), e 67 (by decide), e 68 (by decide), e 69 (by decide), e 70 (by decide), e 71 (by decide), e 72 (by decide), e 73 (by decide), e 74 (by decide), e 75 (by decide), e 76 (by decide), e 77 (by decide), e 78 (by decide), e 79 (by decide), e 80 (by decide), e 81 (by decide), e 82 (by decide), e 83 (by decide), e 84 (by decide), e 85 (by decide), e 86 (by decide), e 87 (by decide), e 88 (by decide), e 89 (by decide), e 90 (by decide)]
theorem rV_fr {I I' : IM} (h : Fr [93, 94, 95, 96, 97, 98, 99] I I') : rV I' = rV I := by
  have e : ∀ k, k ∉ [93, 94, 95, 96, 97, 98, 99] → I' k = I k := h
  funext a
  unfold rV
  rw [e 60 (by decide), e 61 (by decide), e 62 (by decide), e 63 (by decide), e 64 (by decide), e 65 (by decide), e 66 (by decide), e 67 (by decide), e 68 (by decide), e 69 (by decide), e 70 (by decide), e 71 (by decide), e 72 (by decide), e 73 (by decide), e 74 (by decide), e 75 (by decide), e 76 (by decide), e 77 (by decide)]
theorem rOwn.fr {I I' : IM} (h : Fr [93, 94, 95, 96, 97, 98, 99] I I') (ho : rOwn I) : rOwn I' := by
  unfold rOwn
  rw [h 59 (by decide), h 92 (by decide)]
  exact ho
def TxtR (I : IM) (P : Nat → List Int32) (t : Nat) : Prop := t < 6 ∧ ∀ j, j < 3 → ∃ a, I 80 (4 * t + j) = nI a ∧ I 80 (4 * t + j + 1) = nI (a + (P j).length) ∧ a + (P j).length ≤ 160 ∧ (∀ i, i < (P j).length → I 79 (200 * t + (a + i)) = (P j).getD i 0) ∧ wfR (P j) 0 = some 1
def RTx (I : IM) (P : Nat → List Int32) : Prop := ∃ t, I 59 27 = nI t ∧ TxtR I P t
theorem RTx.fr {I I' : IM} {P : Nat → List Int32} (h : RTx I P) (h0 : I' 59 = I 59) (h1 : I' 79 = I 79) (h2 : I' 80 = I 80) : RTx I' P := by
  unfold RTx TxtR at h ⊢
  rw [h0, h1, h2]
  exact h
theorem wfR_cases {c : Int32} {t : List Int32} {h o : Nat} (hw : wfR (c :: t) h = some o) : (∃ n, n < 10000 ∧ c = nI (n + 100000)) ∨ (∃ n, n < 6 ∧ c = nI n) ∨ c = 13 ∨ c = 19 ∨ binC c := by
  rw [wfR] at hw
  by_cases h1 : (100000 ≤ c ∧ c < 110000) ∨ (0 ≤ c ∧ c < 6)
  · rcases h1 with ⟨a, b⟩ | ⟨a, b⟩
    · obtain ⟨n, hn, e⟩ := rng_of (n := 110000) rfl (by omega) (Int32.le_trans (by decide) a) b
      rw [e] at a
      have h3 := (nI_leI (a := 100000) (by omega) (by omega)).mp a
      exact Or.inl ⟨n - 100000, by omega, by rw [e]; congr 1; omega⟩
    · obtain ⟨n, hn, e⟩ := rng_of (n := 6) rfl (by omega) a b
      exact Or.inr (Or.inl ⟨n, hn, e⟩)
  · rw [if_neg h1] at hw
    by_cases h2 : c = 13 ∨ c = 19
    · exact Or.inr (Or.inr (h2.elim Or.inl (fun z => Or.inr (Or.inl z))))
    · rw [if_neg h2] at hw
      by_cases h3 : c = 11 ∨ c = 12 ∨ (14 ≤ c ∧ c ≤ 18)
      · refine Or.inr (Or.inr (Or.inr (Or.inr ?_)))
        rcases h3 with h3 | h3 | h3
        · exact Or.inl h3
        · exact Or.inr (Or.inl h3)
        · obtain ⟨k, hk, e⟩ := nat_of (n := 18) (by decide) (by decide) h3
          rw [e] at h3
          have h4 := (nI_leI (a := 14) (by omega) (by omega)).mp h3.1
          rw [e]
          rcases (show k = 14 ∨ k = 15 ∨ k = 16 ∨ k = 17 ∨ k = 18 by omega) with rfl | rfl | rfl | rfl | rfl <;> decide
      · rw [if_neg h3] at hw
        cases hw
def sp_R_two : SpT := fun as S I L Post => ∃ c x y : Int32, as = [.int c, .int x, .int y] ∧ binC c ∧ Post (some (.int (two c x y))) S I L
set_option maxHeartbeats 4000000 in
set_option maxRecDepth 100000 in
theorem c_R_two : Con mR_two 2 0 0 sp_R_two := by
  refine con_of_X rfl fun G as S I L Post hs => ?_
  obtain ⟨c, x, y, rfl, hc, h1⟩ := hs
  refine ⟨0, Nat.le_of_ble_eq_true rfl, ?_⟩
  show X mR_two G _ S I L 0 [.int c, .int x, .int y] [] Post
  refine x_iload_n dR_two_0 rfl ?_
  -- at 1: .tableswitch 101 11 17 #[43, 57, 101, 71, 82, 93, 97]
  rcases hc with rfl | rfl | rfl | rfl | rfl | rfl | rfl
  · refine x_tableIn (tgt := 44) dR_two_1 (by decide) (by decide) rfl (by decide) ?_
    have h1 : Post (some (.int (b2i (¬ x = 0 ∨ ¬ y = 0)))) S I L := h1
    have yes : (¬ x = 0 ∨ ¬ y = 0) → X mR_two G (2, 0, 0) S I L 52 [.int 11, .int x, .int y] [] Post := by
      intro h
      rw [b2i, if_pos h] at h1
      refine x_iconst (v := 1) dR_two_52 rfl ?_
      refine x_goto (tgt := 57) dR_two_53 (by decide) ?_
      -- at 57: .ireturn
      refine x_ireturn dR_two_57 rfl rfl ?_
      exact h1
    refine x_iload_n dR_two_44 rfl ?_
    -- at 45: .ifCond .ne 7
    refine x_if_ne (tgt := 52) dR_two_45 (by decide) (fun c1 => ?_) (fun c1 => ?_)
    · exact yes (Or.inl c1)
    · refine x_iload_n dR_two_48 rfl ?_
      -- at 49: .ifCond .eq 7
      refine x_if_eq (tgt := 56) dR_two_49 (by decide) (fun c2 => ?_) (fun c2 => ?_)
      · rw [b2i, if_neg (fun z => z.elim (fun y => y c1) (fun y => y c2))] at h1
        refine x_iconst (v := 0) dR_two_56 rfl ?_
        -- at 57: .ireturn
        refine x_ireturn dR_two_57 rfl rfl ?_
        exact h1
      · exact yes (Or.inr c2)
  · refine x_tableIn (tgt := 58) dR_two_1 (by decide) (by decide) rfl (by decide) ?_
    have h1 : Post (some (.int (b2i (¬ x = 0 ∧ ¬ y = 0)))) S I L := h1
    have no : ¬ (¬ x = 0 ∧ ¬ y = 0) → X mR_two G (2, 0, 0) S I L 70 [.int 12, .int x, .int y] [] Post := by
      intro h
      rw [b2i, if_neg h] at h1
      refine x_iconst (v := 0) dR_two_70 rfl ?_
      -- at 71: .ireturn
      refine x_ireturn dR_two_71 rfl rfl ?_
      exact h1
    refine x_iload_n dR_two_58 rfl ?_
    -- at 59: .ifCond .eq 11
    refine x_if_eq (tgt := 70) dR_two_59 (by decide) (fun c1 => ?_) (fun c1 => ?_)
    · exact no (fun z => z.1 c1)
    · refine x_iload_n dR_two_62 rfl ?_
      -- at 63: .ifCond .eq 7
      refine x_if_eq (tgt := 70) dR_two_63 (by decide) (fun c2 => ?_) (fun c2 => ?_)
      · exact no (fun z => z.2 c2)
      · rw [b2i, if_pos ⟨c1, c2⟩] at h1
        refine x_iconst (v := 1) dR_two_66 rfl ?_
        refine x_goto (tgt := 71) dR_two_67 (by decide) ?_
        -- at 71: .ireturn
        refine x_ireturn dR_two_71 rfl rfl ?_
        exact h1
  · refine x_tableIn (tgt := 72) dR_two_1 (by decide) (by decide) rfl (by decide) ?_
    have h1 : Post (some (.int (b2i (x < y)))) S I L := h1
    refine x_iload_n dR_two_72 rfl ?_
    refine x_iload_n dR_two_73 rfl ?_
    -- at 74: .if_icmp .ge 7
    refine x_icmp_ge (tgt := 81) dR_two_74 (by decide) (fun c1 => ?_) (fun c1 => ?_)
    · rw [b2i, if_neg (Int32.not_lt.mpr c1)] at h1
      refine x_iconst (v := 0) dR_two_81 rfl ?_
      -- at 82: .ireturn
      refine x_ireturn dR_two_82 rfl rfl ?_
      exact h1
    · rw [b2i, if_pos (Int32.not_le.mp c1)] at h1
      refine x_iconst (v := 1) dR_two_77 rfl ?_
      refine x_goto (tgt := 82) dR_two_78 (by decide) ?_
      -- at 82: .ireturn
      refine x_ireturn dR_two_82 rfl rfl ?_
      exact h1
  · refine x_tableIn (tgt := 83) dR_two_1 (by decide) (by decide) rfl (by decide) ?_
    have h1 : Post (some (.int (b2i (x = y)))) S I L := h1
    refine x_iload_n dR_two_83 rfl ?_
    refine x_iload_n dR_two_84 rfl ?_
    -- at 85: .if_icmp .ne 7
    refine x_icmp_ne (tgt := 92) dR_two_85 (by decide) (fun c1 => ?_) (fun c1 => ?_)
    · rw [b2i, if_neg c1] at h1
      refine x_iconst (v := 0) dR_two_92 rfl ?_
      -- at 93: .ireturn
      refine x_ireturn dR_two_93 rfl rfl ?_
      exact h1
    · rw [b2i, if_pos c1] at h1
      refine x_iconst (v := 1) dR_two_88 rfl ?_
      refine x_goto (tgt := 93) dR_two_89 (by decide) ?_
      -- at 93: .ireturn
      refine x_ireturn dR_two_93 rfl rfl ?_
      exact h1
  · refine x_tableIn (tgt := 94) dR_two_1 (by decide) (by decide) rfl (by decide) ?_
    refine x_iload_n dR_two_94 rfl ?_
    refine x_iload_n dR_two_95 rfl ?_
    refine x_iadd dR_two_96 ?_
    -- at 97: .ireturn
    refine x_ireturn dR_two_97 rfl rfl ?_
    exact h1
  · refine x_tableIn (tgt := 98) dR_two_1 (by decide) (by decide) rfl (by decide) ?_
    refine x_iload_n dR_two_98 rfl ?_
    refine x_iload_n dR_two_99 rfl ?_
    refine x_isub dR_two_100 ?_
    -- at 101: .ireturn
    refine x_ireturn dR_two_101 rfl rfl ?_
    exact h1
  · refine x_tableOut (tgt := 102) dR_two_1 (by decide) (by decide) ?_
    refine x_iload_n dR_two_102 rfl ?_
    refine x_iload_n dR_two_103 rfl ?_
    refine x_imul dR_two_104 ?_
    -- at 105: .ireturn
    refine x_ireturn dR_two_105 rfl rfl ?_
    exact h1
theorem r4 (a b : Nat) : (4 : Int32) * nI a + nI b = nI (4 * a + b) := by
  rw [show (4 : Int32) = nI 4 from rfl, pk_mul, nI_add]
theorem r41 (a b : Nat) : (4 : Int32) * nI a + nI b + 1 = nI (4 * a + b + 1) := by
  rw [r4, nI_1]
theorem r200 (a b : Nat) : (200 : Int32) * nI a + nI b = nI (200 * a + b) := by
  rw [show (200 : Int32) = nI 200 from rfl, pk_mul, nI_add]
def sp_R_worthOf : SpT := fun as S I L Post => ∃ (j : Nat) (P : Nat → List Int32), as = [.ref 59, .int (nI j)] ∧ S = S1 ∧ j < 3 ∧ RTx I P ∧ ∀ I' : IM, Fr [94] I I' → Post (some (.int (valP (I 95) (P j)))) S1 I' L
set_option maxHeartbeats 4000000 in
set_option maxRecDepth 100000 in
theorem worth_loop {G : WG} {I : IM} {L : LM} {Post : PostT} {t j e : Nat} {V : Int32} (ht : t < 6) (hj : j < 3) (hr : I 59 27 = nI t) (hE : I 80 (4 * t + j + 1) = nI e) (he : e ≤ 160) (hp : ∀ I' : IM, Fr [94] I I' → Post (some (.int V)) S1 I' L) :
    ∀ (rs : List Int32) (i : Nat) (st : List Int32) (I' : IM) (a4 : Value), Fr [94] I I' → i + rs.length = e → (∀ k, k < rs.length → I 79 (200 * t + (i + k)) = rs.getD k 0) → wfR rs st.length = some 1 → st.length ≤ i → Held (I' 94) st → (runP (I 95) rs st).headD 0 = V →
    X mR_worthOf G (3, 0, 0) S1 I' L 16 [.ref 59, .int (nI j), .int (nI st.length), .int (nI i), a4] [] Post := by
  intro rs
  induction rs with
  | nil =>
    intro i st I' a4 hF hi hc hw hst hH hV
    have e59 : I' 59 = I 59 := hF 59 (by decide)
    have e80 : I' 80 = I 80 := hF 80 (by decide)
    refine x_iload_n dR_worthOf_16 rfl ?_
    refine x_aload_n dR_worthOf_17 rfl ?_
    refine x_getR fl_R_74 rfl dR_worthOf_18 rfl rfl rfl ?_
    refine x_iconst (v := 4) dR_worthOf_21 rfl ?_
    refine x_aload_n dR_worthOf_22 rfl ?_
    refine x_getI fl_R_164 rfl dR_worthOf_23 rfl rfl ?_
    -- at 26: .imul
    rw [e59, hr]
    refine x_imul dR_worthOf_26 ?_
    refine x_iload_n dR_worthOf_27 rfl ?_
    refine x_iadd dR_worthOf_28 ?_
    refine x_iconst (v := 1) dR_worthOf_29 rfl ?_
    refine x_iadd dR_worthOf_30 ?_
    refine x_ialdJ dR_worthOf_31 rfl rfl (r41 t j) (by omega) ?_
    -- at 32: .if_icmp .ge 165
    rw [e80, hE]
    obtain rfl : i = e := by simpa using hi
    refine x_icmp_ge (tgt := 197) dR_worthOf_32 (by decide) (fun _ => ?_) (fun h => absurd (Int32.le_refl _) h)
    have h1 : st.length = 1 := by simpa [wfR] using hw
    refine x_aload_n dR_worthOf_197 rfl ?_
    refine x_getR fl_R_116 rfl dR_worthOf_198 rfl rfl rfl ?_
    refine x_iconst (v := 0) dR_worthOf_201 rfl ?_
    -- at 202: .iaload
    refine x_ialdJ (j := 0) dR_worthOf_202 rfl rfl rfl (by omega) ?_
    refine x_ireturn dR_worthOf_203 rfl rfl ?_
    match st, h1 with
    | [y], _ =>
      rw [show I' 94 0 = y from hH.top, show y = V from hV]
      exact hp I' hF
  | cons c rs ih =>
    intro i st I' a4 hF hi hc hw hst hH hV
    have e59 : I' 59 = I 59 := hF 59 (by decide)
    have e80 : I' 80 = I 80 := hF 80 (by decide)
    have e79 : I' 79 = I 79 := hF 79 (by decide)
    have e95 : I' 95 = I 95 := hF 95 (by decide)
    rw [List.length_cons] at hi
    have hc0 := hc 0 (by simp)
    have hcr : ∀ k, k < rs.length → I 79 (200 * t + (i + 1 + k)) = rs.getD k 0 := fun k hk => by
      have := hc (k + 1) (by simp; omega)
      rw [show i + 1 + k = i + (k + 1) by omega, this]
      simp
    simp only [Nat.add_zero, List.getD_cons_zero] at hc0
    refine x_iload_n dR_worthOf_16 rfl ?_
    refine x_aload_n dR_worthOf_17 rfl ?_
    refine x_getR fl_R_74 rfl dR_worthOf_18 rfl rfl rfl ?_
    refine x_iconst (v := 4) dR_worthOf_21 rfl ?_
    refine x_aload_n dR_worthOf_22 rfl ?_
    refine x_getI fl_R_164 rfl dR_worthOf_23 rfl rfl ?_
    -- at 26: .imul
    rw [e59, hr]
    refine x_imul dR_worthOf_26 ?_
    refine x_iload_n dR_worthOf_27 rfl ?_
    refine x_iadd dR_worthOf_28 ?_
    refine x_iconst (v := 1) dR_worthOf_29 rfl ?_
    refine x_iadd dR_worthOf_30 ?_
    refine x_ialdJ dR_worthOf_31 rfl rfl (r41 t j) (by omega) ?_
    -- at 32: .if_icmp .ge 165
    rw [e80, hE]
    refine x_icmp_ge (tgt := 197) dR_worthOf_32 (by decide) (fun h => absurd h (nI_ge (b := e) (by omega) (by omega))) (fun _ => ?_)
    refine x_aload_n dR_worthOf_35 rfl ?_
    refine x_getR fl_R_71 rfl dR_worthOf_36 rfl rfl rfl ?_
    refine x_sipush (v := 200) dR_worthOf_39 rfl ?_
    refine x_aload_n dR_worthOf_42 rfl ?_
    refine x_getI fl_R_164 rfl dR_worthOf_43 rfl rfl ?_
    -- at 46: .imul
    rw [e59, hr]
    refine x_imul dR_worthOf_46 ?_
    refine x_iload_n dR_worthOf_47 rfl ?_
    refine x_iadd dR_worthOf_48 ?_
    refine x_ialdJ dR_worthOf_49 rfl rfl (r200 t i) (by omega) ?_
    -- at 50: .istore 4
    rw [e79, hc0]
    have at66 : ∀ y : Int32, wfR rs (st.length + 1) = some 1 → runP (I 95) rs (y :: st) = runP (I 95) (c :: rs) st → ∀ (hst2 : st.length < 160), X mR_worthOf G (3, 0, 0) S1 I' L 93 [.ref 59, .int (nI j), .int (nI st.length), .int (nI i), .int c] [.int y, .int (nI st.length), .ref 94] Post := by
      intro y w2 hy hst2
      refine x_iastJ (j := st.length) dR_worthOf_93 rfl rfl (by first | rfl | (simp only [← nI_add, ← pk_mul]; rfl)) (by omega) ?_
      refine x_iincp_2 dR_worthOf_94 rfl rfl ?_
      refine x_goto (tgt := 191) dR_worthOf_97 (by decide) ?_
      -- at 191: .iinc 3 1
      refine x_iincp_3 dR_worthOf_191 rfl rfl ?_
      refine x_goto (tgt := 16) dR_worthOf_194 (by decide) ?_
      -- at 16: .iload_n 3
      rw [nI_1, nI_1]
      exact ih (i + 1) (y :: st) _ _ (hF.up (by decide) _ _) (by omega) hcr w2 (by simp; omega) (by rw [up2_s]; exact hH.push _) (by rw [hy]; exact hV)
    rcases wfR_cases hw with ⟨n, hn, rfl⟩ | ⟨n, hn, rfl⟩ | rfl | rfl | hb
    · rw [wfR_num _ _ hn] at hw
      refine x_istore_4 dR_worthOf_50 rfl rfl ?_
      refine x_iload dR_worthOf_52 rfl ?_
      refine x_ldc dR_worthOf_54 cn_R_212 ?_
      -- at 56: .if_icmp .ge 10
      refine x_icmp_ge (tgt := 66) dR_worthOf_56 (by decide) (fun _ => ?_) (fun h => absurd (nI_le (a := 100000) (by omega) (by omega)) h)
      refine x_aload_n dR_worthOf_66 rfl ?_
      refine x_getR fl_R_116 rfl dR_worthOf_67 rfl rfl rfl ?_
      refine x_iload_n dR_worthOf_70 rfl ?_
      refine x_iload dR_worthOf_71 rfl ?_
      refine x_bipush (v := 11) dR_worthOf_73 rfl ?_
      -- at 75: .if_icmp .ge 13
      refine x_icmp_ge (tgt := 88) dR_worthOf_75 (by decide) (fun _ => ?_) (fun h => absurd (nI_le (a := 11) (by omega) (by omega)) h)
      refine x_iload dR_worthOf_88 rfl ?_
      refine x_ldc dR_worthOf_90 cn_R_212 ?_
      refine x_isub dR_worthOf_92 ?_
      -- at 93: .iastore
      refine x_eqi (y := nI n) (by rw [show (100000 : Int32) = nI 100000 from rfl, pk_sub (by omega), Nat.add_sub_cancel]) ?_
      exact at66 (nI n) hw (by rw [runP, stp_num _ _ hn]) (by omega)
    · rw [wfR_nm _ _ hn] at hw
      refine x_istore_4 dR_worthOf_50 rfl rfl ?_
      refine x_iload dR_worthOf_52 rfl ?_
      refine x_ldc dR_worthOf_54 cn_R_212 ?_
      -- at 56: .if_icmp .ge 10
      refine x_icmp_ge (tgt := 66) dR_worthOf_56 (by decide) (fun h => absurd h (nI_ge (b := 100000) (by omega) (by omega))) (fun _ => ?_)
      refine x_iload dR_worthOf_59 rfl ?_
      refine x_bipush (v := 11) dR_worthOf_61 rfl ?_
      -- at 63: .if_icmp .ge 37
      refine x_icmp_ge (tgt := 100) dR_worthOf_63 (by decide) (fun h => absurd h (nI_ge (b := 11) (by omega) (by omega))) (fun _ => ?_)
      refine x_aload_n dR_worthOf_66 rfl ?_
      refine x_getR fl_R_116 rfl dR_worthOf_67 rfl rfl rfl ?_
      refine x_iload_n dR_worthOf_70 rfl ?_
      refine x_iload dR_worthOf_71 rfl ?_
      refine x_bipush (v := 11) dR_worthOf_73 rfl ?_
      -- at 75: .if_icmp .ge 13
      refine x_icmp_ge (tgt := 88) dR_worthOf_75 (by decide) (fun h => absurd h (nI_ge (b := 11) (by omega) (by omega))) (fun _ => ?_)
      refine x_aload_n dR_worthOf_78 rfl ?_
      refine x_getR fl_R_119 rfl dR_worthOf_79 rfl rfl rfl ?_
      refine x_iload dR_worthOf_82 rfl ?_
      refine x_ialdJ (j := n) dR_worthOf_84 rfl rfl (by first | rfl | (simp only [← nI_add, ← pk_mul]; rfl)) (by omega) ?_
      -- at 85: .goto 8
      rw [e95]
      refine x_goto (tgt := 93) dR_worthOf_85 (by decide) ?_
      -- at 93: .iastore
      exact at66 (I 95 n) hw (by rw [runP, stp_nm _ _ hn]) (by omega)
    · obtain ⟨w1, w2⟩ := wfR_un (Or.inl rfl) hw
      match st, w1, w2, hst, hH, hV with
      | y :: u, w1, w2, hst, hH, hV =>
        rw [List.length_cons] at hst w2 ⊢
        refine x_istore_4 dR_worthOf_50 rfl rfl ?_
        refine x_iload dR_worthOf_52 rfl ?_
        refine x_ldc dR_worthOf_54 cn_R_212 ?_
        -- at 56: .if_icmp .ge 10
        refine x_icmp_ge (tgt := 66) dR_worthOf_56 (by decide) (fun h => absurd h (by decide)) (fun _ => ?_)
        refine x_iload dR_worthOf_59 rfl ?_
        refine x_bipush (v := 11) dR_worthOf_61 rfl ?_
        -- at 63: .if_icmp .ge 37
        refine x_icmp_ge (tgt := 100) dR_worthOf_63 (by decide) (fun _ => ?_) (fun h => absurd (by decide) h)
        refine x_iload dR_worthOf_100 rfl ?_
        refine x_bipush (v := 13) dR_worthOf_102 rfl ?_
        -- at 104: .if_icmp .ne 30
        refine x_icmp_ne (tgt := 134) dR_worthOf_104 (by decide) (fun h => absurd rfl h) (fun _ => ?_)
        refine x_aload_n dR_worthOf_107 rfl ?_
        refine x_getR fl_R_116 rfl dR_worthOf_108 rfl rfl rfl ?_
        refine x_iload_n dR_worthOf_111 rfl ?_
        refine x_iconst (v := 1) dR_worthOf_112 rfl ?_
        refine x_isub dR_worthOf_113 ?_
        -- at 114: .aload_n 0
        refine x_eqi (nI_pred u.length) ?_
        refine x_aload_n dR_worthOf_114 rfl ?_
        refine x_getR fl_R_116 rfl dR_worthOf_115 rfl rfl rfl ?_
        refine x_iload_n dR_worthOf_118 rfl ?_
        refine x_iconst (v := 1) dR_worthOf_119 rfl ?_
        refine x_isub dR_worthOf_120 ?_
        refine x_ialdJ dR_worthOf_121 rfl rfl (nI_pred u.length) (by omega) ?_
        -- at 122: .ifCond .ne 7
        rw [hH.top]
        have tail : ∀ x : Int32, x = b2i (y = 0) → X mR_worthOf G (3, 0, 0) S1 I' L 130 [.ref 59, .int (nI j), .int (nI (u.length + 1)), .int (nI i), .int 13] [.int x, .int (nI u.length), .ref 94] Post := by
          intro x hx
          refine x_iastJ (j := u.length) dR_worthOf_130 rfl rfl (by first | rfl | (simp only [← nI_add, ← pk_mul]; rfl)) (by omega) ?_
          refine x_goto (tgt := 191) dR_worthOf_131 (by decide) ?_
          -- at 191: .iinc 3 1
          refine x_iincp_3 dR_worthOf_191 rfl rfl ?_
          refine x_goto (tgt := 16) dR_worthOf_194 (by decide) ?_
          -- at 16: .iload_n 3
          rw [nI_1]
          exact ih (i + 1) (x :: u) _ _ (hF.up (by decide) _ _) (by omega) hcr w2 (by simp; omega) (by rw [up2_s]; exact hH.pop.push _) (by rw [hx]; exact hV)
        refine x_if_ne (tgt := 129) dR_worthOf_122 (by decide) (fun d1 => ?_) (fun d1 => ?_)
        · refine x_iconst (v := 0) dR_worthOf_129 rfl ?_
          -- at 130: .iastore
          exact tail 0 (by rw [b2i, if_neg d1])
        · refine x_iconst (v := 1) dR_worthOf_125 rfl ?_
          refine x_goto (tgt := 130) dR_worthOf_126 (by decide) ?_
          -- at 130: .iastore
          exact tail 1 (by rw [b2i, if_pos d1])
    · obtain ⟨w1, w2⟩ := wfR_un (Or.inr rfl) hw
      match st, w1, w2, hst, hH, hV with
      | y :: u, w1, w2, hst, hH, hV =>
        rw [List.length_cons] at hst w2 ⊢
        refine x_istore_4 dR_worthOf_50 rfl rfl ?_
        refine x_iload dR_worthOf_52 rfl ?_
        refine x_ldc dR_worthOf_54 cn_R_212 ?_
        -- at 56: .if_icmp .ge 10
        refine x_icmp_ge (tgt := 66) dR_worthOf_56 (by decide) (fun h => absurd h (by decide)) (fun _ => ?_)
        refine x_iload dR_worthOf_59 rfl ?_
        refine x_bipush (v := 11) dR_worthOf_61 rfl ?_
        -- at 63: .if_icmp .ge 37
        refine x_icmp_ge (tgt := 100) dR_worthOf_63 (by decide) (fun _ => ?_) (fun h => absurd (by decide) h)
        refine x_iload dR_worthOf_100 rfl ?_
        refine x_bipush (v := 13) dR_worthOf_102 rfl ?_
        -- at 104: .if_icmp .ne 30
        refine x_icmp_ne (tgt := 134) dR_worthOf_104 (by decide) (fun _ => ?_) (fun h => absurd h (by decide))
        refine x_iload dR_worthOf_134 rfl ?_
        refine x_bipush (v := 19) dR_worthOf_136 rfl ?_
        -- at 138: .if_icmp .ne 23
        refine x_icmp_ne (tgt := 161) dR_worthOf_138 (by decide) (fun h => absurd rfl h) (fun _ => ?_)
        refine x_aload_n dR_worthOf_141 rfl ?_
        refine x_getR fl_R_116 rfl dR_worthOf_142 rfl rfl rfl ?_
        refine x_iload_n dR_worthOf_145 rfl ?_
        refine x_iconst (v := 1) dR_worthOf_146 rfl ?_
        refine x_isub dR_worthOf_147 ?_
        -- at 148: .aload_n 0
        refine x_eqi (nI_pred u.length) ?_
        refine x_aload_n dR_worthOf_148 rfl ?_
        refine x_getR fl_R_116 rfl dR_worthOf_149 rfl rfl rfl ?_
        refine x_iload_n dR_worthOf_152 rfl ?_
        refine x_iconst (v := 1) dR_worthOf_153 rfl ?_
        refine x_isub dR_worthOf_154 ?_
        refine x_ialdJ dR_worthOf_155 rfl rfl (nI_pred u.length) (by omega) ?_
        -- at 156: .ineg
        rw [hH.top]
        refine x_ineg dR_worthOf_156 ?_
        refine x_iastJ (j := u.length) dR_worthOf_157 rfl rfl (by first | rfl | (simp only [← nI_add, ← pk_mul]; rfl)) (by omega) ?_
        refine x_goto (tgt := 191) dR_worthOf_158 (by decide) ?_
        -- at 191: .iinc 3 1
        refine x_iincp_3 dR_worthOf_191 rfl rfl ?_
        refine x_goto (tgt := 16) dR_worthOf_194 (by decide) ?_
        -- at 16: .iload_n 3
        rw [nI_1]
        exact ih (i + 1) (-y :: u) _ _ (hF.up (by decide) _ _) (by omega) hcr w2 (by simp; omega) (by rw [up2_s]; exact hH.pop.push _) hV
    · obtain ⟨w1, w2⟩ := wfR_bin hb hw
      match st, w1, w2, hst, hH, hV with
      | y :: z :: u, w1, w2, hst, hH, hV =>
        rw [List.length_cons, List.length_cons] at hst w2 ⊢
        rw [runP, stp_bin _ hb] at hV
        have hb13 : ¬ c = 13 ∧ ¬ c = 19 ∧ ¬ 100000 ≤ c ∧ 11 ≤ c := by
          rcases hb with rfl | rfl | rfl | rfl | rfl | rfl | rfl <;> decide
        refine x_istore_4 dR_worthOf_50 rfl rfl ?_
        refine x_iload dR_worthOf_52 rfl ?_
        refine x_ldc dR_worthOf_54 cn_R_212 ?_
        -- at 56: .if_icmp .ge 10
        refine x_icmp_ge (tgt := 66) dR_worthOf_56 (by decide) (fun h => absurd h hb13.2.2.1) (fun _ => ?_)
        refine x_iload dR_worthOf_59 rfl ?_
        refine x_bipush (v := 11) dR_worthOf_61 rfl ?_
        -- at 63: .if_icmp .ge 37
        refine x_icmp_ge (tgt := 100) dR_worthOf_63 (by decide) (fun _ => ?_) (fun h => absurd hb13.2.2.2 h)
        refine x_iload dR_worthOf_100 rfl ?_
        refine x_bipush (v := 13) dR_worthOf_102 rfl ?_
        -- at 104: .if_icmp .ne 30
        refine x_icmp_ne (tgt := 134) dR_worthOf_104 (by decide) (fun _ => ?_) (fun h => absurd h hb13.1)
        refine x_iload dR_worthOf_134 rfl ?_
        refine x_bipush (v := 19) dR_worthOf_136 rfl ?_
        -- at 138: .if_icmp .ne 23
        refine x_icmp_ne (tgt := 161) dR_worthOf_138 (by decide) (fun _ => ?_) (fun h => absurd h hb13.2.1)
        refine x_iinc_2 (v := nI (u.length + 1)) dR_worthOf_161 (by rw [show Int32.ofInt (-1) = -1 from rfl, ← Int32.sub_eq_add_neg]; exact nI_pred _) rfl rfl ?_
        have hy : I' 94 (u.length + 1) = y := by simpa using hH.top
        refine x_aload_n dR_worthOf_164 rfl ?_
        refine x_getR fl_R_116 rfl dR_worthOf_165 rfl rfl rfl ?_
        refine x_iload_n dR_worthOf_168 rfl ?_
        refine x_iconst (v := 1) dR_worthOf_169 rfl ?_
        refine x_isub dR_worthOf_170 ?_
        -- at 171: .iload 4
        refine x_eqi (nI_pred u.length) ?_
        refine x_iload dR_worthOf_171 rfl ?_
        refine x_aload_n dR_worthOf_173 rfl ?_
        refine x_getR fl_R_116 rfl dR_worthOf_174 rfl rfl rfl ?_
        refine x_iload_n dR_worthOf_177 rfl ?_
        refine x_iconst (v := 1) dR_worthOf_178 rfl ?_
        refine x_isub dR_worthOf_179 ?_
        -- at 180: .iaload
        refine x_eqi (nI_pred u.length) ?_
        refine x_ialdJ (j := u.length) dR_worthOf_180 rfl rfl (by first | rfl | (simp only [← nI_add, ← pk_mul]; rfl)) (by omega) ?_
        -- at 181: .aload_n 0
        rw [hH.pop.top]
        refine x_aload_n dR_worthOf_181 rfl ?_
        refine x_getR fl_R_116 rfl dR_worthOf_182 rfl rfl rfl ?_
        refine x_iload_n dR_worthOf_185 rfl ?_
        refine x_ialdJ (j := u.length + 1) dR_worthOf_186 rfl rfl (by first | rfl | (simp only [← nI_add, ← pk_mul]; rfl)) (by omega) ?_
        -- at 187: .invokestatic 226
        rw [hy]
        refine x_callS_3 c_R_two ok_R_two ml_R_226 dR_worthOf_187 rfl rfl ?_
        refine ⟨c, z, y, rfl, hb, ?_⟩
        refine x_iastJ (j := u.length) dR_worthOf_190 rfl rfl (by first | rfl | (simp only [← nI_add, ← pk_mul]; rfl)) (by omega) ?_
        -- at 191: .iinc 3 1
        refine x_iincp_3 dR_worthOf_191 rfl rfl ?_
        refine x_goto (tgt := 16) dR_worthOf_194 (by decide) ?_
        -- at 16: .iload_n 3
        rw [nI_1]
        have ej : two c z y = jnS c z y := by rw [jnS, if_neg hb13.1, if_neg hb13.2.1]
        exact ih (i + 1) (two c z y :: u) _ _ (hF.up (by decide) _ _) (by omega) hcr w2 (by simp; omega) (by rw [up2_s]; exact hH.pop.pop.push _) (by rw [ej]; exact hV)
set_option maxHeartbeats 4000000 in
set_option maxRecDepth 100000 in
theorem c_R_worthOf : Con mR_worthOf 3 0 0 sp_R_worthOf := by
  refine con_of_X rfl fun G as S I L Post hs => ?_
  obtain ⟨j, P, rfl, rfl, hj, ⟨t, hr, ht6, htx⟩, h1⟩ := hs
  obtain ⟨a, ha, hb, hab, hc, hw⟩ := htx j hj
  refine ⟨3, Nat.le_of_ble_eq_true rfl, ?_⟩
  show X mR_worthOf G _ S1 I L 0 [.ref 59, .int (nI j), .null, .null, .null] [] Post
  refine x_iconst (v := 0) dR_worthOf_0 rfl ?_
  refine x_istoren_2 dR_worthOf_1 rfl rfl ?_
  refine x_aload_n dR_worthOf_2 rfl ?_
  refine x_getR fl_R_74 rfl dR_worthOf_3 rfl rfl rfl ?_
  refine x_iconst (v := 4) dR_worthOf_6 rfl ?_
  refine x_aload_n dR_worthOf_7 rfl ?_
  refine x_getI fl_R_164 rfl dR_worthOf_8 rfl rfl ?_
  -- at 11: .imul
  rw [hr]
  refine x_imul dR_worthOf_11 ?_
  refine x_iload_n dR_worthOf_12 rfl ?_
  refine x_iadd dR_worthOf_13 ?_
  refine x_ialdJ dR_worthOf_14 rfl rfl (r4 t j) (by omega) ?_
  -- at 15: .istore_n 3
  rw [ha]
  refine x_istoren_3 dR_worthOf_15 rfl rfl ?_
  -- at 16: .iload_n 3
  exact worth_loop ht6 hj hr hb hab h1 (P j) a [] I _ Fr.rfl rfl hc hw (by simp) (fun k hk => absurd hk (Nat.not_lt_zero k)) rfl
def sp_R_names : SpT := fun as S I L Post => ∃ a b c d e f : Int32, as = [.ref 59, .int a, .int b, .int c, .int d, .int e, .int f] ∧ S = S1 ∧ ∀ I' : IM, Fr [95] I I' → (∀ j, j < 6 → I' 95 j = nm6 a b c d e f j) → Post none S1 I' L
set_option maxHeartbeats 4000000 in
set_option maxRecDepth 100000 in
theorem c_R_names : Con mR_names 2 0 0 sp_R_names := by
  refine con_of_X rfl fun G as S I L Post hs => ?_
  obtain ⟨a, b, c, d, e, f, rfl, rfl, h1⟩ := hs
  refine ⟨0, Nat.le_of_ble_eq_true rfl, ?_⟩
  show X mR_names G _ S1 I L 0 [.ref 59, .int a, .int b, .int c, .int d, .int e, .int f] [] Post
  refine x_aload_n dR_names_0 rfl ?_
  refine x_getR fl_R_119 rfl dR_names_1 rfl rfl rfl ?_
  refine x_iconst (v := 0) dR_names_4 rfl ?_
  refine x_iload_n dR_names_5 rfl ?_
  refine x_iastJ (j := 0) dR_names_6 rfl rfl (by first | rfl | (simp only [← nI_add, ← pk_mul]; rfl)) (by omega) ?_
  refine x_aload_n dR_names_7 rfl ?_
  refine x_getR fl_R_119 rfl dR_names_8 rfl rfl rfl ?_
  refine x_iconst (v := 1) dR_names_11 rfl ?_
  refine x_iload_n dR_names_12 rfl ?_
  refine x_iastJ (j := 1) dR_names_13 rfl rfl (by first | rfl | (simp only [← nI_add, ← pk_mul]; rfl)) (by omega) ?_
  refine x_aload_n dR_names_14 rfl ?_
  refine x_getR fl_R_119 rfl dR_names_15 rfl rfl rfl ?_
  refine x_iconst (v := 2) dR_names_18 rfl ?_
  refine x_iload_n dR_names_19 rfl ?_
  refine x_iastJ (j := 2) dR_names_20 rfl rfl (by first | rfl | (simp only [← nI_add, ← pk_mul]; rfl)) (by omega) ?_
  refine x_aload_n dR_names_21 rfl ?_
  refine x_getR fl_R_119 rfl dR_names_22 rfl rfl rfl ?_
  refine x_iconst (v := 3) dR_names_25 rfl ?_
  refine x_iload dR_names_26 rfl ?_
  refine x_iastJ (j := 3) dR_names_28 rfl rfl (by first | rfl | (simp only [← nI_add, ← pk_mul]; rfl)) (by omega) ?_
  refine x_aload_n dR_names_29 rfl ?_
  refine x_getR fl_R_119 rfl dR_names_30 rfl rfl rfl ?_
  refine x_iconst (v := 4) dR_names_33 rfl ?_
  refine x_iload dR_names_34 rfl ?_
  refine x_iastJ (j := 4) dR_names_36 rfl rfl (by first | rfl | (simp only [← nI_add, ← pk_mul]; rfl)) (by omega) ?_
  refine x_aload_n dR_names_37 rfl ?_
  refine x_getR fl_R_119 rfl dR_names_38 rfl rfl rfl ?_
  refine x_iconst (v := 5) dR_names_41 rfl ?_
  refine x_iload dR_names_42 rfl ?_
  refine x_iastJ (j := 5) dR_names_44 rfl rfl (by first | rfl | (simp only [← nI_add, ← pk_mul]; rfl)) (by omega) ?_
  -- at 45: .return_
  refine x_return dR_names_45 rfl ?_
  refine h1 _ (((((Fr.rfl.up (by decide) _ _).up (by decide) _ _).up (by decide) _ _).up (by decide) _ _).up (by decide) _ _ |>.up (by decide) _ _) (fun j hj => ?_)
  simp only [up2_n, up2_s, ne_eq, Nat.reduceEqDiff, not_false_eq_true]
  rcases (show j = 0 ∨ j = 1 ∨ j = 2 ∨ j = 3 ∨ j = 4 ∨ j = 5 by omega) with rfl | rfl | rfl | rfl | rfl | rfl <;> simp [up1, nm6]
def sp_R_can : SpT := fun as S I L Post => ∃ p q : Nat, as = [.ref 59, .int (nI p), .int (nI q)] ∧ S = S1 ∧ p < 8 ∧ q < 8 ∧ bPost (canV (rV I) p q = true) S1 I L Post
set_option maxHeartbeats 4000000 in
set_option maxRecDepth 100000 in
theorem c_R_can : Con mR_can 2 0 0 sp_R_can := by
  refine con_of_X rfl fun G as S I L Post hs => ?_
  obtain ⟨p, q, rfl, rfl, hp, hq, h1, h2⟩ := hs
  refine ⟨0, Nat.le_of_ble_eq_true rfl, ?_⟩
  show X mR_can G _ S1 I L 0 [.ref 59, .int (nI p), .int (nI q)] [] Post
  refine x_aload_n dR_can_0 rfl ?_
  refine x_getR fl_R_32 rfl dR_can_1 rfl rfl rfl ?_
  refine x_iload_n dR_can_4 rfl ?_
  refine x_ialdJ (j := p) dR_can_5 rfl rfl (by first | rfl | (simp only [← nI_add, ← pk_mul]; rfl)) (by omega) ?_
  refine x_aload_n dR_can_6 rfl ?_
  refine x_getR fl_R_44 rfl dR_can_7 rfl rfl rfl ?_
  refine x_iload_n dR_can_10 rfl ?_
  refine x_ialdJ (j := q) dR_can_11 rfl rfl (by first | rfl | (simp only [← nI_add, ← pk_mul]; rfl)) (by omega) ?_
  refine x_ishr dR_can_12 ?_
  refine x_iconst (v := 1) dR_can_13 rfl ?_
  refine x_iand dR_can_14 ?_
  refine x_iconst (v := 1) dR_can_15 rfl ?_
  -- at 16: .if_icmp .ne 7
  refine x_icmp_ne (tgt := 23) dR_can_16 (by decide) (fun c1 => ?_) (fun c1 => ?_)
  · refine x_iconst (v := 0) dR_can_23 rfl ?_
    -- at 24: .ireturn
    refine x_ireturn dR_can_24 rfl rfl ?_
    exact h2 (fun z => c1 (of_decide_eq_true z))
  · refine x_iconst (v := 1) dR_can_19 rfl ?_
    refine x_goto (tgt := 24) dR_can_20 (by decide) ?_
    -- at 24: .ireturn
    refine x_ireturn dR_can_24 rfl rfl ?_
    exact h1 (decide_eq_true c1)
def sp_R_ones : SpT := fun as S I L Post => ∃ x : Int32, as = [.int x] ∧ Post (some (.int (onesR x 8))) S I L
set_option maxHeartbeats 4000000 in
set_option maxRecDepth 100000 in
theorem c_R_ones : Con mR_ones 2 0 0 sp_R_ones := by
  refine con_of_X rfl fun G as S I L Post hs => ?_
  obtain ⟨x, rfl, h1⟩ := hs
  refine ⟨2, Nat.le_of_ble_eq_true rfl, ?_⟩
  show X mR_ones G _ S I L 0 [.int x, .null, .null] [] Post
  refine x_iconst (v := 0) dR_ones_0 rfl ?_
  refine x_istoren_1 dR_ones_1 rfl rfl ?_
  refine x_iconst (v := 0) dR_ones_2 rfl ?_
  refine x_istoren_2 dR_ones_3 rfl rfl ?_
  -- at 4: .iload_n 2
  have loop : ∀ (k i : Nat), i + k = 8 → X mR_ones G (2, 0, 0) S I L 4 [.int x, .int (onesR x i), .int (nI i)] [] Post := by
    intro k
    induction k with
    | zero =>
      intro i hi
      obtain rfl : i = 8 := by omega
      refine x_iload_n dR_ones_4 rfl ?_
      refine x_bipush (v := 8) dR_ones_5 rfl ?_
      -- at 7: .if_icmp .ge 17
      refine x_icmp_ge (tgt := 24) dR_ones_7 (by decide) (fun _ => ?_) (fun h => absurd (Int32.le_refl _) h)
      refine x_iload_n dR_ones_24 rfl ?_
      -- at 25: .ireturn
      refine x_ireturn dR_ones_25 rfl rfl ?_
      exact h1
    | succ k ih =>
      intro i hi
      refine x_iload_n dR_ones_4 rfl ?_
      refine x_bipush (v := 8) dR_ones_5 rfl ?_
      -- at 7: .if_icmp .ge 17
      refine x_icmp_ge (tgt := 24) dR_ones_7 (by decide) (fun h => absurd h (nI_ge (b := 8) (by omega) (by omega))) (fun _ => ?_)
      refine x_iload_n dR_ones_10 rfl ?_
      refine x_iload_n dR_ones_11 rfl ?_
      refine x_iload_n dR_ones_12 rfl ?_
      refine x_ishr dR_ones_13 ?_
      refine x_iconst (v := 1) dR_ones_14 rfl ?_
      refine x_iand dR_ones_15 ?_
      refine x_iadd dR_ones_16 ?_
      refine x_istoren_1 dR_ones_17 rfl rfl ?_
      refine x_iincp_2 dR_ones_18 rfl rfl ?_
      refine x_goto (tgt := 4) dR_ones_21 (by decide) ?_
      -- at 4: .iload_n 2
      rw [nI_1]
      exact ih (i + 1) (by omega)
  exact loop 8 0 rfl
def sp_R_hearsOf : SpT := fun as S I L Post => ∃ (s p : Nat) (P : Nat → List Int32), as = [.ref 59, .int (nI s), .int (nI p)] ∧ S = S1 ∧ s < 11 ∧ p < 8 ∧ SayV (rV I) s ∧ PerV (rV I) p ∧ RTx I P ∧ ∀ I' : IM, Fr [94, 95] I I' → Post (some (.int (hearV (rV I) P s p))) S1 I' L
set_option maxHeartbeats 4000000 in
set_option maxRecDepth 100000 in
theorem c_R_hearsOf : Con mR_hearsOf 4 0 0 sp_R_hearsOf := by
  refine con_of_X rfl fun G as S I L Post hs => ?_
  obtain ⟨s, p, P, rfl, rfl, hs, hp, ⟨hq, ⟨u, hu, eu⟩, ⟨m, hm, em⟩⟩, hper, hT, h1⟩ := hs
  have eu : I 75 s = nI u := eu
  have em : I 76 s = nI m := em
  obtain ⟨w, hw, ew⟩ := where_rng hper hm
  obtain ⟨t, hr, ht6, htx⟩ := hT
  obtain ⟨a, ha, hb, hab, hc, hwf⟩ := htx 0 (by omega)
  refine ⟨2, Nat.le_of_ble_eq_true rfl, ?_⟩
  show X mR_hearsOf G _ S1 I L 0 [.ref 59, .int (nI s), .int (nI p), .null, .null] [] Post
  refine x_aload_n dR_hearsOf_0 rfl ?_
  refine x_getR fl_R_7 rfl dR_hearsOf_1 rfl rfl rfl ?_
  refine x_bipush (v := 6) dR_hearsOf_4 rfl ?_
  refine x_aload_n dR_hearsOf_6 rfl ?_
  refine x_iload_n dR_hearsOf_7 rfl ?_
  refine x_aload_n dR_hearsOf_8 rfl ?_
  refine x_getR fl_R_62 rfl dR_hearsOf_9 rfl rfl rfl ?_
  refine x_iload_n dR_hearsOf_12 rfl ?_
  refine x_ialdJ (j := s) dR_hearsOf_13 rfl rfl (by first | rfl | (simp only [← nI_add, ← pk_mul]; rfl)) (by omega) ?_
  -- at 14: .invokevirtual 233
  rw [em]
  refine x_callV_2 c_R_whereIs ok_R_whereIs ml_R_233 dR_hearsOf_14 rfl rfl rfl rfl rfl ?_
  refine ⟨p, _, rfl, rfl, hp, hper, ?_⟩
  rw [ew]
  refine x_imul dR_hearsOf_17 ?_
  refine x_aload_n dR_hearsOf_18 rfl ?_
  refine x_getR fl_R_59 rfl dR_hearsOf_19 rfl rfl rfl ?_
  refine x_iload_n dR_hearsOf_22 rfl ?_
  refine x_ialdJ (j := s) dR_hearsOf_23 rfl rfl (by first | rfl | (simp only [← nI_add, ← pk_mul]; rfl)) (by omega) ?_
  -- at 24: .iadd
  rw [eu]
  refine x_iadd dR_hearsOf_24 ?_
  refine x_ialdJ dR_hearsOf_25 rfl rfl (r6 w u) (by omega) ?_
  -- at 26: .istore_n 3
  refine x_istoren_3 dR_hearsOf_26 rfl rfl ?_
  refine x_aload_n dR_hearsOf_27 rfl ?_
  refine x_aload_n dR_hearsOf_28 rfl ?_
  refine x_getR fl_R_65 rfl dR_hearsOf_29 rfl rfl rfl ?_
  refine x_iload_n dR_hearsOf_32 rfl ?_
  refine x_ialdJ (j := s) dR_hearsOf_33 rfl rfl (by first | rfl | (simp only [← nI_add, ← pk_mul]; rfl)) (by omega) ?_
  refine x_iload_n dR_hearsOf_34 rfl ?_
  refine x_aload_n dR_hearsOf_35 rfl ?_
  refine x_getR fl_R_26 rfl dR_hearsOf_36 rfl rfl rfl ?_
  refine x_iload_n dR_hearsOf_39 rfl ?_
  refine x_ialdJ (j := p) dR_hearsOf_40 rfl rfl (by first | rfl | (simp only [← nI_add, ← pk_mul]; rfl)) (by omega) ?_
  refine x_iconst (v := 0) dR_hearsOf_41 rfl ?_
  refine x_iconst (v := 0) dR_hearsOf_42 rfl ?_
  refine x_aload_n dR_hearsOf_43 rfl ?_
  refine x_getR fl_R_13 rfl dR_hearsOf_44 rfl rfl rfl ?_
  refine x_aload_n dR_hearsOf_47 rfl ?_
  refine x_getR fl_R_62 rfl dR_hearsOf_48 rfl rfl rfl ?_
  refine x_iload_n dR_hearsOf_51 rfl ?_
  refine x_ialdJ (j := s) dR_hearsOf_52 rfl rfl (by first | rfl | (simp only [← nI_add, ← pk_mul]; rfl)) (by omega) ?_
  -- at 53: .iaload
  rw [em]
  refine x_ialdJ (j := m) dR_hearsOf_53 rfl rfl (by first | rfl | (simp only [← nI_add, ← pk_mul]; rfl)) (by omega) ?_
  -- at 54: .invokevirtual 246
  refine x_callV_6 c_R_names ok_R_names ml_R_246 dR_hearsOf_54 rfl rfl rfl rfl rfl ?_
  refine ⟨_, _, _, _, _, _, rfl, rfl, fun I1 hF1 hn => ?_⟩
  refine x_aload_n dR_hearsOf_57 rfl ?_
  refine x_iconst (v := 0) dR_hearsOf_58 rfl ?_
  -- at 59: .invokevirtual 250
  refine x_callV_1 c_R_worthOf ok_R_worthOf ml_R_250 dR_hearsOf_59 rfl rfl rfl rfl rfl ?_
  refine ⟨0, P, rfl, rfl, by omega, (RTx.fr ⟨t, hr, ht6, htx⟩ (hF1 59 (by decide)) (hF1 79 (by decide)) (hF1 80 (by decide))), fun I2 hF2 => ?_⟩
  have hF3 : Fr [94, 95] I I2 := (hF1.wk (by decide)).tr (hF2.wk (by decide))
  have eV : valP (I1 95) (P 0) = valP (nm6 (rV I 17 s) (farV (rV I) s p) (rV I 4 p) 0 0 (rV I 1 (cl (rV I 16 s)))) (P 0) := by
    refine valP_congr (h := 0) (o := 1) (fun j hj => ?_) hwf
    rw [hn j hj]
    have efar : farV (rV I) s p = I 60 (w * 6 + u) := by
      unfold farV
      rw [show rV I 16 s = nI m from em, show rV I 15 s = nI u from eu, ew, cl_nI (by omega), cl_nI (by omega)]
      rfl
    rw [efar, show rV I 16 s = nI m from em, cl_nI (by omega)]
    rfl
  rw [eV]
  refine x_iconst (v := 0) dR_hearsOf_62 rfl ?_
  refine x_bipush (v := 100) dR_hearsOf_63 rfl ?_
  -- at 65: .invokestatic 253
  refine x_callS_3 c_R_within ok_R_within ml_R_253 dR_hearsOf_65 rfl rfl ?_
  refine ⟨_, _, _, rfl, by decide, ?_⟩
  have fin : ∀ x : Int32, x = hearV (rV I) P s p → ∀ a3 a4 : Value, X mR_hearsOf G (4, 0, 0) S1 I2 L 118 [.ref 59, .int (nI s), .int (nI p), a3, a4] [.int x] Post := by
    intro x hx a3 a4
    refine x_ireturn dR_hearsOf_118 rfl rfl ?_
    rw [hx]
    exact h1 I2 hF3
  have e62 : I2 62 = I 62 := hF3 62 (by decide)
  have e77 : I2 77 = I 77 := hF3 77 (by decide)
  have e65 : I2 65 = I 65 := hF3 65 (by decide)
  refine x_istore_4 dR_hearsOf_68 rfl rfl ?_
  refine x_aload_n dR_hearsOf_70 rfl ?_
  refine x_getR fl_R_20 rfl dR_hearsOf_71 rfl rfl rfl ?_
  refine x_iload_n dR_hearsOf_74 rfl ?_
  refine x_ialdJ (j := p) dR_hearsOf_75 rfl rfl (by first | rfl | (simp only [← nI_add, ← pk_mul]; rfl)) (by omega) ?_
  refine x_iconst (v := 2) dR_hearsOf_76 rfl ?_
  -- at 77: .if_icmp .ne 10
  rw [e62]
  refine x_icmp_ne (tgt := 87) dR_hearsOf_77 (by decide) (fun c1 => ?_) (fun c1 => ?_)
  · refine x_aload_n dR_hearsOf_87 rfl ?_
    refine x_getR fl_R_20 rfl dR_hearsOf_88 rfl rfl rfl ?_
    refine x_iload_n dR_hearsOf_91 rfl ?_
    refine x_ialdJ (j := p) dR_hearsOf_92 rfl rfl (by first | rfl | (simp only [← nI_add, ← pk_mul]; rfl)) (by omega) ?_
    refine x_iconst (v := 5) dR_hearsOf_93 rfl ?_
    -- at 94: .if_icmp .ne 22
    rw [e62]
    refine x_icmp_ne (tgt := 116) dR_hearsOf_94 (by decide) (fun c2 => ?_) (fun c2 => ?_)
    · refine x_iload dR_hearsOf_116 rfl ?_
      -- at 118: .ireturn
      refine fin _ ?_ _ _
      unfold hearV hrK
      rw [if_neg (fun z => c2 z.1), if_neg (show ¬ rV I 2 p = 2 from c1)]
      rfl
    · refine x_aload_n dR_hearsOf_97 rfl ?_
      refine x_getR fl_R_65 rfl dR_hearsOf_98 rfl rfl rfl ?_
      refine x_iload_n dR_hearsOf_101 rfl ?_
      refine x_ialdJ (j := s) dR_hearsOf_102 rfl rfl (by first | rfl | (simp only [← nI_add, ← pk_mul]; rfl)) (by omega) ?_
      refine x_aload_n dR_hearsOf_103 rfl ?_
      refine x_getR fl_R_29 rfl dR_hearsOf_104 rfl rfl rfl ?_
      refine x_iload_n dR_hearsOf_107 rfl ?_
      refine x_ialdJ (j := p) dR_hearsOf_108 rfl rfl (by first | rfl | (simp only [← nI_add, ← pk_mul]; rfl)) (by omega) ?_
      -- at 109: .if_icmp .le 7
      rw [e77, e65]
      refine x_icmp_le (tgt := 116) dR_hearsOf_109 (by decide) (fun c3 => ?_) (fun c3 => ?_)
      · refine x_iload dR_hearsOf_116 rfl ?_
        -- at 118: .ireturn
        refine fin _ ?_ _ _
        unfold hearV hrK
        rw [if_neg (fun z => absurd z.2 (Int32.not_lt.mpr c3)), if_neg (show ¬ rV I 2 p = 2 from c1)]
        rfl
      · refine x_iconst (v := 0) dR_hearsOf_112 rfl ?_
        refine x_goto (tgt := 118) dR_hearsOf_113 (by decide) ?_
        -- at 118: .ireturn
        refine fin _ ?_ _ _
        unfold hearV hrK
        rw [if_pos ⟨c2, Int32.not_le.mp c3⟩]
  · refine x_iload dR_hearsOf_80 rfl ?_
    refine x_iconst (v := 2) dR_hearsOf_82 rfl ?_
    refine x_idiv dR_hearsOf_83 (by decide) ?_
    refine x_goto (tgt := 118) dR_hearsOf_84 (by decide) ?_
    -- at 118: .ireturn
    refine fin _ ?_ _ _
    unfold hearV hrK
    rw [if_neg (fun z => absurd (z.1.symm.trans c1) (by decide)), if_pos (show rV I 2 p = 2 from c1)]
    rfl
end
section
-- 67.r7
/-! the reference: who hears CLEARLY, what is owed -/
/-- lots or none: the sets of who hears CLEARLY, at a saying -/
def Md (I : IM) (L : LM) (V : IM) (P : Nat → List Int32) (n : Nat) (C : Nat → Int32) (s : Nat) : Prop := (I 59 55 = 0 ∧ C = CC V P n) ∨ (I 59 55 = 1 ∧ ∃ a, L 59 56 = lot a (s * n) ∧ C = CDr V P n a)
theorem Md.fr {I I' : IM} {L : LM} {V : IM} {P : Nat → List Int32} {n s : Nat} {C : Nat → Int32} (h : Md I L V P n C s) (h1 : I' 59 = I 59) : Md I' L V P n C s := by
  unfold Md at h ⊢
  rw [h1]
  exact h
theorem Md.any {I : IM} {L L' : LM} {V : IM} {P : Nat → List Int32} {n s s' : Nat} {C : Nat → Int32} (h : Md I L V P n C s) (h0 : I 59 55 = 0) : Md I L' V P n C s' := by
  rcases h with h | h
  · exact Or.inl h
  · rw [h.1] at h0
    exact absurd h0 (by decide)
theorem Md.bs {I : IM} {L : LM} {V : IM} {P : Nat → List Int32} {n s : Nat} {C : Nat → Int32} (h : Md I L V P n C s) : ∀ s, ∃ f, C s = bs n f := by
  intro x
  rcases h with ⟨-, rfl⟩ | ⟨-, a, -, rfl⟩
  · exact ⟨clF V P x, rfl⟩
  · exact ⟨dF a n (hearV V P) x, rfl⟩
/-- what the reckoning rests on -/
def RkOk (I : IM) (P : Nat → List Int32) (n m : Nat) : Prop := I 59 3 = nI n ∧ n ≤ 8 ∧ m ≤ 11 ∧ (∀ p, p < n → PerV (rV I) p) ∧ (∀ s, s < m → SayV (rV I) s) ∧ RTx I P
theorem RkOk.fr {I I' : IM} {P : Nat → List Int32} {n m : Nat} (h : RkOk I P n m) (hF : Fr [93, 94, 95, 96, 97, 98, 99] I I') : RkOk I' P n m := by
  obtain ⟨a1, a2, a3, a4, a5, a6⟩ := h
  refine ⟨by rw [hF 59 (by decide)]; exact a1, a2, a3, ?_, ?_, a6.fr (hF 59 (by decide)) (hF 79 (by decide)) (hF 80 (by decide))⟩
  · rw [rV_fr hF]; exact a4
  · rw [rV_fr hF]; exact a5
/-- one more step of a drawing, between two of PEOPLE -/
def MdP (I : IM) (L : LM) (V : IM) (P : Nat → List Int32) (n : Nat) (C : Nat → Int32) (s p : Nat) : Prop := (I 59 55 = 0 ∧ C = CC V P n) ∨ (I 59 55 = 1 ∧ ∃ a, L 59 56 = lot a (s * n + p) ∧ C = CDr V P n a)
def sp_R_isClear : SpT := fun as S I L Post => ∃ (s p n : Nat) (P : Nat → List Int32) (C : Nat → Int32), as = [.ref 59, .int (nI s), .int (nI p)] ∧ S = S1 ∧ s < 11 ∧ p < n ∧ n ≤ 8 ∧ SayV (rV I) s ∧ PerV (rV I) p ∧ RTx I P ∧ MdP I L (rV I) P n C s p ∧
  ∀ (I' : IM) (L' : LM) (b : Bool), Fr [94, 95] I I' → MdP I' L' (rV I) P n C s (p + 1) → (∀ f, C s = bs n f → b = f p) → (∃ f, C s = bs n f ∧ b = f p) → Post (some (.int (if b then 1 else 0))) S1 I' L'
theorem bs_inj {n p : Nat} {f g : Nat → Bool} (hn : n ≤ 32) (hp : p < n) (h : bs n f = bs n g) : f p = g p := by
  have h1 := bt_bs f n hn p (by omega)
  have h2 := bt_bs g n hn p (by omega)
  rw [h, h2] at h1
  simp [hp] at h1
  exact h1.symm
set_option maxHeartbeats 4000000 in
set_option maxRecDepth 100000 in
theorem c_R_isClear : Con mR_isClear 5 0 0 sp_R_isClear := by
  refine con_of_X rfl fun G as S I L Post hs => ?_
  obtain ⟨s, p, n, P, C, rfl, rfl, hs, hp, hn8, hsv, hper, hT, hM, h1⟩ := hs
  refine ⟨1, Nat.le_of_ble_eq_true rfl, ?_⟩
  show X mR_isClear G _ S1 I L 0 [.ref 59, .int (nI s), .int (nI p), .null] [] Post
  refine x_aload_n dR_isClear_0 rfl ?_
  refine x_iload_n dR_isClear_1 rfl ?_
  refine x_iload_n dR_isClear_2 rfl ?_
  -- at 3: .invokevirtual 256
  refine x_callV_2 c_R_hearsOf ok_R_hearsOf ml_R_256 dR_isClear_3 rfl rfl rfl rfl rfl ?_
  refine ⟨s, p, P, rfl, rfl, hs, by omega, hsv, hper, hT, fun I' hF => ?_⟩
  have e59 : I' 59 = I 59 := hF 59 (by decide)
  rcases hM with ⟨d0, hC⟩ | ⟨d1, a, hl, hC⟩
  · have key : ∀ b : Bool, b = clF (rV I) P s p → Post (some (.int (if b then 1 else 0))) S1 I' L := fun b hb => by
      refine h1 I' L b hF (Or.inl ⟨by rw [e59]; exact d0, hC⟩) (fun f hf => ?_) ⟨clF (rV I) P s, by rw [hC]; rfl, hb⟩
      rw [hC] at hf
      rw [hb]
      exact bs_inj (by omega) hp hf
    refine x_istoren_3 dR_isClear_6 rfl rfl ?_
    refine x_aload_n dR_isClear_7 rfl ?_
    refine x_getI fl_R_259 rfl dR_isClear_8 rfl rfl ?_
    -- at 11: .ifCond .ne 15
    refine x_if_ne (tgt := 26) dR_isClear_11 (by decide) (fun h => absurd (by rw [e59]; exact d0) h) (fun _ => ?_)
    refine x_iload_n dR_isClear_14 rfl ?_
    refine x_bipush (v := 50) dR_isClear_15 rfl ?_
    -- at 17: .if_icmp .lt 7
    refine x_icmp_lt (tgt := 24) dR_isClear_17 (by decide) (fun c1 => ?_) (fun c1 => ?_)
    · refine x_iconst (v := 0) dR_isClear_24 rfl ?_
      -- at 25: .ireturn
      refine x_ireturn dR_isClear_25 rfl rfl ?_
      exact key false (by unfold clF; rw [decide_eq_false (Int32.not_le.mpr c1)])
    · refine x_iconst (v := 1) dR_isClear_20 rfl ?_
      refine x_goto (tgt := 25) dR_isClear_21 (by decide) ?_
      -- at 25: .ireturn
      refine x_ireturn dR_isClear_25 rfl rfl ?_
      exact key true (by unfold clF; rw [decide_eq_true (Int32.not_lt.mp c1)])
  · have key : ∀ (b : Bool) (L' : LM), L' 59 56 = lot a (s * n + (p + 1)) → b = dF a n (hearV (rV I) P) s p → Post (some (.int (if b then 1 else 0))) S1 I' L' := fun b L' hL hb => by
      refine h1 I' L' b hF (Or.inr ⟨by rw [e59]; exact d1, a, hL, hC⟩) (fun f hf => ?_) ⟨dF a n (hearV (rV I) P) s, by rw [hC]; rfl, hb⟩
      rw [hC] at hf
      rw [hb]
      exact bs_inj (by omega) hp hf
    have hne : ∀ x y : Int64, (y = 2147483647 ∨ y = 100) → ¬ y = 0 := by
      rintro x y (rfl | rfl) <;> decide
    refine x_istoren_3 dR_isClear_6 rfl rfl ?_
    refine x_aload_n dR_isClear_7 rfl ?_
    refine x_getI fl_R_259 rfl dR_isClear_8 rfl rfl ?_
    -- at 11: .ifCond .ne 15
    refine x_if_ne (tgt := 26) dR_isClear_11 (by decide) (fun _ => ?_) (fun h => absurd h (by rw [e59, show I 59 55 = 1 from d1]; decide))
    refine x_aload_n dR_isClear_26 rfl ?_
    refine x_aload_n dR_isClear_27 rfl ?_
    refine x_getJ fl_R_263 rfl dR_isClear_28 rfl rfl ?_
    refine x_ldc2 dR_isClear_31 cn_R_267 ?_
    refine x_lmul dR_isClear_34 ?_
    refine x_ldc2 dR_isClear_35 cn_R_269 ?_
    refine x_lrem dR_isClear_38 (by decide) ?_
    refine x_putJ fl_R_263 rfl dR_isClear_39 (by decide) rfl rfl rfl rfl ?_
    -- at 42: .aload_n 0
    rw [hl]
    have el : lot a (s * n + p) * 48271 - lot a (s * n + p) * 48271 / 2147483647 * 2147483647 = lot a (s * n + (p + 1)) := rfl
    rw [el]
    refine x_aload_n dR_isClear_42 rfl ?_
    refine x_getJ fl_R_263 rfl dR_isClear_43 rfl rfl ?_
    refine x_ldc2 dR_isClear_46 cn_R_271 ?_
    refine x_lrem dR_isClear_49 (by decide) ?_
    refine x_iload_n dR_isClear_50 rfl ?_
    refine x_i2l dR_isClear_51 ?_
    -- at 52: .lcmp
    simp only [up2_n, up2_s, ne_eq, Nat.reduceEqDiff, not_false_eq_true, up1, if_true]
    have e3 : lot a (s * n + (p + 1)) - lot a (s * n + (p + 1)) / 100 * 100 = remL (lot a (s * n + p + 1)) 100 := rfl
    rw [e3]
    have hLn : up2 L 59 56 (lot a (s * n + (p + 1))) 59 56 = lot a (s * n + (p + 1)) := by rw [up2_s]; simp [up1]
    refine x_lcmp dR_isClear_52 ?_
    -- at 53: .ifCond .ge 7
    refine x_if_ge (tgt := 60) dR_isClear_53 (by decide) (fun c1 => ?_) (fun c1 => ?_)
    · refine x_iconst (v := 0) dR_isClear_60 rfl ?_
      -- at 61: .ireturn
      refine x_ireturn dR_isClear_61 rfl rfl ?_
      refine key false _ hLn ?_
      have h3 := (lg_cmp_ge _ _).mp c1
      unfold dF
      simp only [Bool.false_eq, decide_eq_false_iff_not, Int64.not_lt]
      exact h3
    · refine x_iconst (v := 1) dR_isClear_56 rfl ?_
      refine x_goto (tgt := 61) dR_isClear_57 (by decide) ?_
      -- at 61: .ireturn
      refine x_ireturn dR_isClear_61 rfl rfl ?_
      refine key true _ hLn ?_
      have h3 : ¬ _ := fun z => c1 ((lg_cmp_ge _ _).mpr z)
      unfold dF
      simp only [Bool.true_eq, decide_eq_true_eq]
      exact Int64.not_le.mp h3
def sp_R_clearTo : SpT := fun as S I L Post => ∃ (s n : Nat) (P : Nat → List Int32) (C : Nat → Int32), as = [.ref 59, .int (nI s)] ∧ S = S1 ∧ s < 11 ∧ RkOk I P n 0 ∧ SayV (rV I) s ∧ Md I L (rV I) P n C s ∧
  ∀ (I' : IM) (L' : LM), Fr [94, 95] I I' → Md I' L' (rV I) P n C (s + 1) → Post (some (.int (C s))) S1 I' L'
set_option maxHeartbeats 4000000 in
set_option maxRecDepth 100000 in
theorem c_R_clearTo : Con mR_clearTo 6 0 0 sp_R_clearTo := by
  refine con_of_X rfl fun G as S I L Post hs => ?_
  obtain ⟨s, n, P, C, rfl, rfl, hs, ⟨hn, hn8, -, hper, -, hT⟩, hsv, hM, h1⟩ := hs
  refine ⟨2, Nat.le_of_ble_eq_true rfl, ?_⟩
  show X mR_clearTo G _ S1 I L 0 [.ref 59, .int (nI s), .null, .null] [] Post
  obtain ⟨f, hf⟩ := hM.bs s
  refine x_iconst (v := 0) dR_clearTo_0 rfl ?_
  refine x_istoren_2 dR_clearTo_1 rfl rfl ?_
  refine x_iconst (v := 0) dR_clearTo_2 rfl ?_
  refine x_istoren_3 dR_clearTo_3 rfl rfl ?_
  -- at 4: .iload_n 3
  have loop : ∀ (k i : Nat) (I' : IM) (L' : LM), i + k = n → Fr [94, 95] I I' → MdP I' L' (rV I) P n C s i → X mR_clearTo G (6, 0, 0) S1 I' L' 4 [.ref 59, .int (nI s), .int (bs i f), .int (nI i)] [] Post := by
    intro k
    induction k with
    | zero =>
      intro i I' L' hi hF hm
      obtain rfl : i = n := by omega
      refine x_iload_n dR_clearTo_4 rfl ?_
      refine x_aload_n dR_clearTo_5 rfl ?_
      refine x_getI fl_R_148 rfl dR_clearTo_6 rfl rfl ?_
      -- at 9: .if_icmp .ge 28
      rw [hF 59 (by decide), hn]
      refine x_icmp_ge (tgt := 37) dR_clearTo_9 (by decide) (fun _ => ?_) (fun h => absurd (Int32.le_refl _) h)
      refine x_iload_n dR_clearTo_37 rfl ?_
      -- at 38: .ireturn
      refine x_ireturn dR_clearTo_38 rfl rfl ?_
      rw [← hf]
      refine h1 I' L' hF ?_
      rcases hm with hm | ⟨b1, a, b2, b3⟩
      · exact Or.inl hm
      · exact Or.inr ⟨b1, a, by rw [b2, Nat.succ_mul], b3⟩
    | succ k ih =>
      intro i I' L' hi hF hm
      have hV : rV I' = rV I := rV_fr (hF.wk (by decide))
      refine x_iload_n dR_clearTo_4 rfl ?_
      refine x_aload_n dR_clearTo_5 rfl ?_
      refine x_getI fl_R_148 rfl dR_clearTo_6 rfl rfl ?_
      -- at 9: .if_icmp .ge 28
      rw [hF 59 (by decide), hn]
      refine x_icmp_ge (tgt := 37) dR_clearTo_9 (by decide) (fun h => absurd h (nI_ge (by omega) (by omega))) (fun _ => ?_)
      refine x_iload_n dR_clearTo_12 rfl ?_
      refine x_aload_n dR_clearTo_13 rfl ?_
      refine x_iload_n dR_clearTo_14 rfl ?_
      refine x_iload_n dR_clearTo_15 rfl ?_
      -- at 16: .invokevirtual 273
      refine x_callV_2 c_R_isClear ok_R_isClear ml_R_273 dR_clearTo_16 rfl rfl rfl rfl rfl ?_
      refine ⟨s, i, n, P, C, rfl, rfl, hs, by omega, hn8, by rw [hV]; exact hsv, by rw [hV]; exact hper i (by omega), hT.fr (hF 59 (by decide)) (hF 79 (by decide)) (hF 80 (by decide)), by rw [hV]; exact hm, fun I2 L2 b hF2 hm2 hb _ => ?_⟩
      rw [hV] at hm2
      have hb := hb f hf
      cases b with
      | true =>
        refine x_if_eq (tgt := 28) dR_clearTo_19 (by decide) (fun h => absurd h (by decide)) (fun _ => ?_)
        refine x_iconst (v := 1) dR_clearTo_22 rfl ?_
        refine x_iload_n dR_clearTo_23 rfl ?_
        refine x_ishl dR_clearTo_24 ?_
        refine x_goto (tgt := 29) dR_clearTo_25 (by decide) ?_
        refine x_ior dR_clearTo_29 ?_
        refine x_istoren_2 dR_clearTo_30 rfl rfl ?_
        refine x_iincp_3 dR_clearTo_31 rfl rfl ?_
        refine x_goto (tgt := 4) dR_clearTo_34 (by decide) ?_
        -- at 4: .iload_n 3
        rw [nI_1]
        have h3 := ih (i + 1) I2 L2 (by omega) (hF.tr hF2) hm2
        rw [bs, if_pos hb.symm] at h3
        exact h3
      | false =>
        refine x_if_eq (tgt := 28) dR_clearTo_19 (by decide) (fun _ => ?_) (fun h => absurd (by decide) h)
        refine x_iconst (v := 0) dR_clearTo_28 rfl ?_
        refine x_ior dR_clearTo_29 ?_
        -- at 30: .istore_n 2
        refine x_eqi (y := bs i f) (by simp) ?_
        refine x_istoren_2 dR_clearTo_30 rfl rfl ?_
        refine x_iincp_3 dR_clearTo_31 rfl rfl ?_
        refine x_goto (tgt := 4) dR_clearTo_34 (by decide) ?_
        -- at 4: .iload_n 3
        rw [nI_1]
        have h3 := ih (i + 1) I2 L2 (by omega) (hF.tr hF2) hm2
        rw [bs, if_neg (by rw [← hb]; decide)] at h3
        exact h3
  refine loop n 0 I L (by omega) Fr.rfl ?_
  rcases hM with hm | ⟨b1, a, b2, b3⟩
  · exact Or.inl hm
  · exact Or.inr ⟨b1, a, b2, b3⟩
theorem r8 (a b : Nat) : (8 : Int32) * nI a + nI b = nI (a * 8 + b) := by
  rw [show (8 : Int32) = nI 8 from rfl, pk_mul, nI_add, Nat.mul_comm]
/-- the reference's rows of what is owed -/
def RowR (I : IM) (n : Nat) (O : Nat → Nat → Int32) : Prop := ∀ p, p < n → ∀ q, q < 8 → I 96 (p * 8 + q) = O p q
theorem RowR.up {I : IM} {n p q : Nat} {O : Nat → Nat → Int32} {x : Int32} (h : RowR I n O) (hp : p < n) (hq : q < 8) : RowR (up2 I 96 (p * 8 + q) x) n (fun i => if i = p then up1 (O p) q x else O i) := by
  intro i hi k hk
  rw [up2_s]
  dsimp only
  by_cases e : i = p
  · subst e
    rw [if_pos rfl]
    by_cases e2 : k = q
    · subst e2
      rw [up1_s, up1_s]
    · rw [up1_n _ _ e2, up1_n _ _ (by omega)]
      exact h i hi k hk
  · rw [if_neg e, up1_n _ _ (by omega)]
    exact h i hi k hk
theorem bnd_nn (x m : Int32) : 0 ≤ bnd x m := by
  unfold bnd imax
  by_cases h : 0 < imin x m
  · rw [if_pos h]; exact Int32.le_of_lt h
  · rw [if_neg h]; exact Int32.le_refl _
theorem share_nn (V : IM) (P : Nat → List Int32) (c : Int32) (s p : Nat) : 0 ≤ shareV V P c s p := by
  unfold shareV
  split
  · exact bnd_nn _ _
  · exact Int32.le_refl _
theorem imax_0 {x : Int32} (h : 0 ≤ x) : imax x 0 = x := by
  unfold imax
  rw [if_neg (Int32.not_lt.mpr h)]
def sp_R_owesBy : SpT := fun as S I L Post => ∃ (s n q : Nat) (P : Nat → List Int32) (C : Nat → Int32) (O : Nat → Nat → Int32), as = [.ref 59, .int (nI s)] ∧ S = S1 ∧ s < 11 ∧ RkOk I P n 0 ∧ SayV (rV I) s ∧ Md I L (rV I) P n C s ∧ rV I 14 s = nI q ∧ q < 8 ∧ RowR I n O ∧ (∀ p, p < n → 0 ≤ O p q) ∧
  ∀ (I' : IM) (L' : LM), Fr [94, 95, 96] I I' → Md I' L' (rV I) P n C (s + 1) → RowR I' n (fun p => up1 (O p) q (imax (O p q) (shareV (rV I) P (C s) s p))) → Post none S1 I' L'
set_option maxHeartbeats 4000000 in
set_option maxRecDepth 100000 in
theorem c_R_owesBy : Con mR_owesBy 7 0 0 sp_R_owesBy := by
  refine con_of_X rfl fun G as S I L Post hs => ?_
  obtain ⟨s, n, q, P, C, O, rfl, rfl, hs, hR, hsv, hM, hq, hq8, hO, hO0, h1⟩ := hs
  obtain ⟨hn, hn8, -, hper, -, hT⟩ := hR
  obtain ⟨f, hf⟩ := hM.bs s
  have hq' : I 74 s = nI q := hq
  refine ⟨5, Nat.le_of_ble_eq_true rfl, ?_⟩
  show X mR_owesBy G _ S1 I L 0 [.ref 59, .int (nI s), .null, .null, .null, .null, .null] [] Post
  refine x_aload_n dR_owesBy_0 rfl ?_
  refine x_iload_n dR_owesBy_1 rfl ?_
  -- at 2: .invokevirtual 277
  refine x_callV_1 c_R_clearTo ok_R_clearTo ml_R_277 dR_owesBy_2 rfl rfl rfl rfl rfl ?_
  refine ⟨s, n, P, C, rfl, rfl, hs, ⟨hn, hn8, by omega, hper, fun s hs => absurd hs (Nat.not_lt_zero s), hT⟩, hsv, hM, fun I1 L1 hF1 hM1 => ?_⟩
  refine x_istoren_2 dR_owesBy_5 rfl rfl ?_
  refine x_iload_n dR_owesBy_6 rfl ?_
  -- at 7: .invokestatic 280
  refine x_callS_1 c_R_ones ok_R_ones ml_R_280 dR_owesBy_7 rfl rfl ?_
  refine ⟨_, rfl, ?_⟩
  refine x_istoren_3 dR_owesBy_10 rfl rfl ?_
  refine x_aload_n dR_owesBy_11 rfl ?_
  refine x_getR fl_R_56 rfl dR_owesBy_12 rfl rfl rfl ?_
  refine x_iload_n dR_owesBy_15 rfl ?_
  refine x_ialdJ (j := s) dR_owesBy_16 rfl rfl (by first | rfl | (simp only [← nI_add, ← pk_mul]; rfl)) (by omega) ?_
  -- at 17: .istore 4
  rw [hF1 74 (by decide), hq']
  refine x_istore_4 dR_owesBy_17 rfl rfl ?_
  refine x_iconst (v := 0) dR_owesBy_19 rfl ?_
  refine x_istore_5 dR_owesBy_20 rfl rfl ?_
  -- at 22: .iload 5
  have loop : ∀ (k i : Nat) (I' : IM) (a6 : Value), i + k = n → Fr [94, 95, 96] I I' → I' 59 = I1 59 → RowR I' n (fun p => if p < i then up1 (O p) q (imax (O p q) (shareV (rV I) P (C s) s p)) else O p) →
      X mR_owesBy G (7, 0, 0) S1 I' L1 22 [.ref 59, .int (nI s), .int (C s), .int (onesR (C s) 8), .int (nI q), .int (nI i), a6] [] Post := by
    intro k
    induction k with
    | zero =>
      intro i I' a6 hi hF h59 hRow
      obtain rfl : i = n := by omega
      refine x_iload dR_owesBy_22 rfl ?_
      refine x_aload_n dR_owesBy_24 rfl ?_
      refine x_getI fl_R_148 rfl dR_owesBy_25 rfl rfl ?_
      -- at 28: .if_icmp .ge 128
      rw [hF 59 (by decide), hn]
      refine x_icmp_ge (tgt := 156) dR_owesBy_28 (by decide) (fun _ => ?_) (fun h => absurd (Int32.le_refl _) h)
      refine x_return dR_owesBy_156 rfl ?_
      refine h1 I' L1 hF (hM1.fr h59) (fun p hp q hq => ?_)
      have := hRow p hp q hq
      dsimp only at this
      rw [if_pos hp] at this
      exact this
    | succ k ih =>
      intro i I' a6 hi hF h59 hRow
      have hV : rV I' = rV I := by
        funext a
        have hw : ∀ k, k ∉ [94, 95, 96] → I' k = I k := hF
        exact congrFun (rV_fr (hF.wk (by decide))) a
      have hT' : RTx I' P := hT.fr (hF 59 (by decide)) (hF 79 (by decide)) (hF 80 (by decide))
      have hrow : ∀ q, q < 8 → I' 96 (i * 8 + q) = O i q := fun q hq => by
        have := hRow i (by omega) q hq
        dsimp only at this
        rw [if_neg (Nat.lt_irrefl i)] at this
        exact this
      have next : ∀ (I2 : IM) (a6 : Value), Fr [94, 95, 96] I I2 → I2 59 = I1 59 → RowR I2 n (fun p => if p < i + 1 then up1 (O p) q (imax (O p q) (shareV (rV I) P (C s) s p)) else O p) →
          X mR_owesBy G (7, 0, 0) S1 I2 L1 150 [.ref 59, .int (nI s), .int (C s), .int (onesR (C s) 8), .int (nI q), .int (nI i), a6] [] Post := by
        intro I2 a6 hF2 h2 hR2
        refine x_iincp_5 dR_owesBy_150 rfl rfl ?_
        refine x_goto (tgt := 22) dR_owesBy_153 (by decide) ?_
        -- at 22: .iload 5
        rw [nI_1]
        exact ih (i + 1) I2 _ (by omega) hF2 h2 hR2
      have none_ : shareV (rV I) P (C s) s i = 0 → X mR_owesBy G (7, 0, 0) S1 I' L1 150 [.ref 59, .int (nI s), .int (C s), .int (onesR (C s) 8), .int (nI q), .int (nI i), a6] [] Post := by
        intro h0
        refine next I' a6 hF h59 (fun p hp k hk => ?_)
        rw [hRow p hp k hk]
        dsimp only
        by_cases e : p = i
        · subst e
          rw [if_neg (Nat.lt_irrefl p), if_pos (Nat.lt_succ_self p), h0, imax_0 (hO0 p hp)]
          by_cases e2 : k = q
          · subst e2; rw [up1_s]
          · rw [up1_n _ _ e2]
        · by_cases e2 : p < i
          · rw [if_pos e2, if_pos (by omega)]
          · rw [if_neg e2, if_neg (by omega)]
      refine x_iload dR_owesBy_22 rfl ?_
      refine x_aload_n dR_owesBy_24 rfl ?_
      refine x_getI fl_R_148 rfl dR_owesBy_25 rfl rfl ?_
      -- at 28: .if_icmp .ge 128
      rw [hF 59 (by decide), hn]
      refine x_icmp_ge (tgt := 156) dR_owesBy_28 (by decide) (fun h => absurd h (nI_ge (by omega) (by omega))) (fun _ => ?_)
      refine x_iload_n dR_owesBy_31 rfl ?_
      refine x_iload dR_owesBy_32 rfl ?_
      refine x_ishr dR_owesBy_34 ?_
      refine x_iconst (v := 1) dR_owesBy_35 rfl ?_
      refine x_iand dR_owesBy_36 ?_
      -- at 37: .iconst 1
      rw [tst_bit (by omega)]
      refine x_iconst (v := 1) dR_owesBy_37 rfl ?_
      -- at 38: .if_icmp .ne 112
      by_cases hb : bt (C s) i = true
      · rw [if_pos hb]
        refine x_icmp_ne (tgt := 150) dR_owesBy_38 (by decide) (fun h => absurd rfl h) (fun _ => ?_)
        refine x_aload_n dR_owesBy_41 rfl ?_
        refine x_getR fl_R_20 rfl dR_owesBy_42 rfl rfl rfl ?_
        refine x_iload dR_owesBy_45 rfl ?_
        refine x_ialdJ (j := i) dR_owesBy_47 rfl rfl (by first | rfl | (simp only [← nI_add, ← pk_mul]; rfl)) (by omega) ?_
        refine x_iconst (v := 4) dR_owesBy_48 rfl ?_
        -- at 49: .if_icmp .eq 101
        rw [hF 62 (by decide)]
        by_cases hk4 : I 62 i = 4
        · refine x_icmp_eq (tgt := 150) dR_owesBy_49 (by decide) (fun _ => ?_) (fun h => absurd hk4 h)
          exact none_ (by unfold shareV; rw [if_neg (fun z => z.2 hk4)])
        · refine x_icmp_eq (tgt := 150) dR_owesBy_49 (by decide) (fun h => absurd h hk4) (fun _ => ?_)
          refine x_aload_n dR_owesBy_52 rfl ?_
          refine x_aload_n dR_owesBy_53 rfl ?_
          refine x_getR fl_R_65 rfl dR_owesBy_54 rfl rfl rfl ?_
          refine x_iload_n dR_owesBy_57 rfl ?_
          refine x_ialdJ (j := s) dR_owesBy_58 rfl rfl (by first | rfl | (simp only [← nI_add, ← pk_mul]; rfl)) (by omega) ?_
          refine x_iconst (v := 0) dR_owesBy_59 rfl ?_
          refine x_iconst (v := 0) dR_owesBy_60 rfl ?_
          refine x_aload_n dR_owesBy_61 rfl ?_
          refine x_getR fl_R_47 rfl dR_owesBy_62 rfl rfl rfl ?_
          refine x_iload dR_owesBy_65 rfl ?_
          refine x_ialdJ (j := q) dR_owesBy_67 rfl rfl (by first | rfl | (simp only [← nI_add, ← pk_mul]; rfl)) (by omega) ?_
          refine x_iload_n dR_owesBy_68 rfl ?_
          refine x_aload_n dR_owesBy_69 rfl ?_
          refine x_iload dR_owesBy_70 rfl ?_
          refine x_iload dR_owesBy_72 rfl ?_
          -- at 74: .invokevirtual 283
          rw [hF 77 (by decide), hF 71 (by decide)]
          refine x_callV_2 c_R_can ok_R_can ml_R_283 dR_owesBy_74 rfl rfl rfl rfl rfl ?_
          have tail : ∀ x : Int32, x = (if canV (rV I) i q then 1 else 0) → X mR_owesBy G (7, 0, 0) S1 I' L1 85 [.ref 59, .int (nI s), .int (C s), .int (onesR (C s) 8), .int (nI q), .int (nI i), a6] [.int x, .int (onesR (C s) 8), .int (I 71 q), .int 0, .int 0, .int (I 77 s), .ref 59] Post := by
            intro x hx
            refine x_callV_6 c_R_names ok_R_names ml_R_246 dR_owesBy_85 rfl rfl rfl rfl rfl ?_
            refine ⟨_, _, _, _, _, _, rfl, rfl, fun I2 hF2 hn2 => ?_⟩
            refine x_aload_n dR_owesBy_88 rfl ?_
            refine x_iconst (v := 1) dR_owesBy_89 rfl ?_
            -- at 90: .invokevirtual 250
            refine x_callV_1 c_R_worthOf ok_R_worthOf ml_R_250 dR_owesBy_90 rfl rfl rfl rfl rfl ?_
            refine ⟨1, P, rfl, rfl, by omega, hT'.fr (hF2 59 (by decide)) (hF2 79 (by decide)) (hF2 80 (by decide)), fun I3 hF3 => ?_⟩
            obtain ⟨t, hr, ht6, htx⟩ := hT
            obtain ⟨a, -, -, -, -, hwf⟩ := htx 1 (by omega)
            have hsh : bnd (valP (I2 95) (P 1)) 99 = shareV (rV I) P (C s) s i := by
              unfold shareV
              rw [if_pos ⟨hb, hk4⟩, hq, cl_nI (by omega)]
              congr 1
              refine valP_congr (h := 0) (o := 1) (fun j hj => ?_) hwf
              rw [hn2 j hj, hx]
              rfl
            refine x_iconst (v := 0) dR_owesBy_93 rfl ?_
            refine x_bipush (v := 99) dR_owesBy_94 rfl ?_
            -- at 96: .invokestatic 253
            refine x_callS_3 c_R_within ok_R_within ml_R_253 dR_owesBy_96 rfl rfl ?_
            refine ⟨_, _, _, rfl, by decide, ?_⟩
            refine x_eqi (y := shareV (rV I) P (C s) s i) hsh ?_
            have hF4 : Fr [94, 95, 96] I I3 := (hF.tr (hF2.wk (by decide))).tr (hF3.wk (by decide))
            have e96 : I3 96 = I' 96 := by rw [hF3 96 (by decide), hF2 96 (by decide)]
            have e59 : I3 59 = I1 59 := by rw [hF3 59 (by decide), hF2 59 (by decide)]; exact h59
            have hRow3 : RowR I3 n (fun p => if p < i then up1 (O p) q (imax (O p q) (shareV (rV I) P (C s) s p)) else O p) := by
              unfold RowR
              rw [e96]
              exact hRow
            generalize hsv2 : shareV (rV I) P (C s) s i = sv
            have fin : ∀ y : Int32, y = imax (O i q) sv → X mR_owesBy G (7, 0, 0) S1 I3 L1 149 [.ref 59, .int (nI s), .int (C s), .int (onesR (C s) 8), .int (nI q), .int (nI i), .int sv] [.int y, .int (8 * nI i + nI q), .ref 96] Post := by
              intro y hy
              refine x_iastJ dR_owesBy_149 rfl rfl (r8 i q) (by omega) ?_
              -- at 150: .iinc 5 1
              refine next _ _ (hF4.up (by decide) _ _) (by rw [up2_n _ _ _ (by decide)]; exact e59) (fun p hp k hk => ?_)
              rw [hRow3.up (by omega) hq8 p hp k hk]
              dsimp only
              by_cases e : p = i
              · subst e
                rw [if_pos rfl, if_neg (Nat.lt_irrefl p), if_pos (Nat.lt_succ_self p), hsv2, hy]
              · rw [if_neg e]
                by_cases e2 : p < i
                · rw [if_pos e2, if_pos (by omega)]
                · rw [if_neg e2, if_neg (by omega)]
            refine x_istore_6 dR_owesBy_99 rfl rfl ?_
            refine x_aload_n dR_owesBy_101 rfl ?_
            refine x_getR fl_R_122 rfl dR_owesBy_102 rfl rfl rfl ?_
            refine x_bipush (v := 8) dR_owesBy_105 rfl ?_
            refine x_iload dR_owesBy_107 rfl ?_
            refine x_imul dR_owesBy_109 ?_
            refine x_iload dR_owesBy_110 rfl ?_
            refine x_iadd dR_owesBy_112 ?_
            refine x_iload dR_owesBy_113 rfl ?_
            refine x_aload_n dR_owesBy_115 rfl ?_
            refine x_getR fl_R_122 rfl dR_owesBy_116 rfl rfl rfl ?_
            refine x_bipush (v := 8) dR_owesBy_119 rfl ?_
            refine x_iload dR_owesBy_121 rfl ?_
            refine x_imul dR_owesBy_123 ?_
            refine x_iload dR_owesBy_124 rfl ?_
            refine x_iadd dR_owesBy_126 ?_
            refine x_ialdJ dR_owesBy_127 rfl rfl (r8 i q) (by omega) ?_
            -- at 128: .if_icmp .le 8
            rw [e96, hrow q hq8]
            refine x_icmp_le (tgt := 136) dR_owesBy_128 (by decide) (fun d1 => ?_) (fun d1 => ?_)
            · refine x_aload_n dR_owesBy_136 rfl ?_
              refine x_getR fl_R_122 rfl dR_owesBy_137 rfl rfl rfl ?_
              refine x_bipush (v := 8) dR_owesBy_140 rfl ?_
              refine x_iload dR_owesBy_142 rfl ?_
              refine x_imul dR_owesBy_144 ?_
              refine x_iload dR_owesBy_145 rfl ?_
              refine x_iadd dR_owesBy_147 ?_
              refine x_ialdJ dR_owesBy_148 rfl rfl (r8 i q) (by omega) ?_
              -- at 149: .iastore
              rw [e96, hrow q hq8]
              exact fin _ (by unfold imax; rw [if_neg (Int32.not_lt.mpr d1)])
            · refine x_iload dR_owesBy_131 rfl ?_
              refine x_goto (tgt := 149) dR_owesBy_133 (by decide) ?_
              -- at 149: .iastore
              exact fin _ (by unfold imax; rw [if_pos (Int32.not_le.mp d1)])
          refine ⟨i, q, rfl, rfl, by omega, hq8, fun g => ?_, fun g => ?_⟩
          · rw [hV] at g
            refine x_if_eq (tgt := 84) dR_owesBy_77 (by decide) (fun h => absurd h (by decide)) (fun _ => ?_)
            refine x_iconst (v := 1) dR_owesBy_80 rfl ?_
            refine x_goto (tgt := 85) dR_owesBy_81 (by decide) ?_
            -- at 85: .invokevirtual 246
            exact tail 1 (by rw [if_pos g])
          · rw [hV] at g
            refine x_if_eq (tgt := 84) dR_owesBy_77 (by decide) (fun _ => ?_) (fun h => absurd (by decide) h)
            refine x_iconst (v := 0) dR_owesBy_84 rfl ?_
            -- at 85: .invokevirtual 246
            exact tail 0 (by rw [if_neg g])
      · rw [if_neg hb]
        refine x_icmp_ne (tgt := 150) dR_owesBy_38 (by decide) (fun _ => ?_) (fun h => absurd h (by decide))
        exact none_ (by unfold shareV; rw [if_neg (fun z => hb z.1)])
  refine loop n 0 I1 _ (by omega) (hF1.wk (by decide)) rfl (fun p hp k hk => ?_)
  rw [hF1 96 (by decide)]
  dsimp only
  rw [if_neg (Nat.not_lt_zero p)]
  exact hO p hp k hk
end
