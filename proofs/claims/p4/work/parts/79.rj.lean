/-! the reference: signs held, codes put out -/
abbrev hcP (c : Int32) : Prop := c = 0 ∨ c = 11 ∨ c = 12 ∨ c = 13 ∨ c = 14 ∨ c = 15 ∨ c = 16 ∨ c = 17 ∨ c = 18 ∨ c = 19
def sp_R_rank : SpT := fun as S I L Post => ∃ c : Int32, as = [.int c] ∧ hcP c ∧ Post (some (.int (nI (rank c)))) S I L
set_option maxHeartbeats 4000000 in
set_option maxRecDepth 100000 in
theorem c_R_rank : Con mR_rank 2 0 0 sp_R_rank := by
  refine con_of_X rfl fun G as S I L Post hs => ?_
  obtain ⟨c, rfl, hc, h1⟩ := hs
  refine ⟨0, Nat.le_of_ble_eq_true rfl, ?_⟩
  show X mR_rank G _ S I L 0 [.int c] [] Post
  have fin : ∀ x : Int32, nI (rank c) = x → X mR_rank G (2, 0, 0) S I L 71 [.int c] [.int x] Post := by
    intro x hx
    refine x_ireturn dR_rank_71 rfl rfl ?_
    rw [← hx]
    exact h1
  refine x_iload_n dR_rank_0 rfl ?_
  -- at 1: .ifCond .ne 7
  refine x_if_ne (tgt := 8) dR_rank_1 (by decide) (fun c0 => ?_) (fun c0 => ?_)
  · refine x_iload_n dR_rank_8 rfl ?_
    refine x_bipush (v := 11) dR_rank_9 rfl ?_
    -- at 11: .if_icmp .ne 7
    refine x_icmp_ne (tgt := 18) dR_rank_11 (by decide) (fun c1 => ?_) (fun c1 => ?_)
    · refine x_iload_n dR_rank_18 rfl ?_
      refine x_bipush (v := 12) dR_rank_19 rfl ?_
      -- at 21: .if_icmp .ne 7
      refine x_icmp_ne (tgt := 28) dR_rank_21 (by decide) (fun c2 => ?_) (fun c2 => ?_)
      · refine x_iload_n dR_rank_28 rfl ?_
        refine x_bipush (v := 13) dR_rank_29 rfl ?_
        -- at 31: .if_icmp .ne 7
        refine x_icmp_ne (tgt := 38) dR_rank_31 (by decide) (fun c3 => ?_) (fun c3 => ?_)
        · refine x_iload_n dR_rank_38 rfl ?_
          refine x_bipush (v := 15) dR_rank_39 rfl ?_
          -- at 41: .if_icmp .gt 7
          refine x_icmp_gt (tgt := 48) dR_rank_41 (by decide) (fun c4 => ?_) (fun c4 => ?_)
          · refine x_iload_n dR_rank_48 rfl ?_
            refine x_bipush (v := 17) dR_rank_49 rfl ?_
            -- at 51: .if_icmp .gt 7
            refine x_icmp_gt (tgt := 58) dR_rank_51 (by decide) (fun c5 => ?_) (fun c5 => ?_)
            · refine x_iload_n dR_rank_58 rfl ?_
              refine x_bipush (v := 18) dR_rank_59 rfl ?_
              -- at 61: .if_icmp .ne 8
              refine x_icmp_ne (tgt := 69) dR_rank_61 (by decide) (fun c6 => ?_) (fun c6 => ?_)
              · refine x_bipush (v := 7) dR_rank_69 rfl ?_
                -- at 71: .ireturn
                refine fin 7 ?_
                revert c0 c1 c2 c3 c4 c5 c6
                rcases hc with rfl | rfl | rfl | rfl | rfl | rfl | rfl | rfl | rfl | rfl <;> decide
              · refine x_bipush (v := 6) dR_rank_64 rfl ?_
                refine x_goto (tgt := 71) dR_rank_66 (by decide) ?_
                -- at 71: .ireturn
                refine fin 6 ?_
                revert c6
                rcases hc with rfl | rfl | rfl | rfl | rfl | rfl | rfl | rfl | rfl | rfl <;> decide
            · refine x_iconst (v := 5) dR_rank_54 rfl ?_
              refine x_goto (tgt := 71) dR_rank_55 (by decide) ?_
              -- at 71: .ireturn
              refine fin 5 ?_
              revert c0 c1 c2 c3 c4 c5
              rcases hc with rfl | rfl | rfl | rfl | rfl | rfl | rfl | rfl | rfl | rfl <;> decide
          · refine x_iconst (v := 4) dR_rank_44 rfl ?_
            refine x_goto (tgt := 71) dR_rank_45 (by decide) ?_
            -- at 71: .ireturn
            refine fin 4 ?_
            revert c0 c1 c2 c3 c4
            rcases hc with rfl | rfl | rfl | rfl | rfl | rfl | rfl | rfl | rfl | rfl <;> decide
        · refine x_iconst (v := 3) dR_rank_34 rfl ?_
          refine x_goto (tgt := 71) dR_rank_35 (by decide) ?_
          -- at 71: .ireturn
          refine fin 3 ?_
          revert c3
          rcases hc with rfl | rfl | rfl | rfl | rfl | rfl | rfl | rfl | rfl | rfl <;> decide
      · refine x_iconst (v := 2) dR_rank_24 rfl ?_
        refine x_goto (tgt := 71) dR_rank_25 (by decide) ?_
        -- at 71: .ireturn
        refine fin 2 ?_
        revert c2
        rcases hc with rfl | rfl | rfl | rfl | rfl | rfl | rfl | rfl | rfl | rfl <;> decide
    · refine x_iconst (v := 1) dR_rank_14 rfl ?_
      refine x_goto (tgt := 71) dR_rank_15 (by decide) ?_
      -- at 71: .ireturn
      refine fin 1 ?_
      revert c1
      rcases hc with rfl | rfl | rfl | rfl | rfl | rfl | rfl | rfl | rfl | rfl <;> decide
  · refine x_iconst (v := 0) dR_rank_4 rfl ?_
    refine x_goto (tgt := 71) dR_rank_5 (by decide) ?_
    -- at 71: .ireturn
    refine fin 0 ?_
    rw [c0]
    rfl
/-- the codes put out of the text t, from a0 on -/
def Outs (f : Nat → Int32) (t a0 : Nat) (o : List Int32) : Prop := ∀ i, i < o.length → f (200 * t + (a0 + i)) = o.getD i 0
theorem Outs.app {f : Nat → Int32} {t a0 : Nat} {o : List Int32} (h : Outs f t a0 o) (c : Int32) : Outs (up1 f (200 * t + (a0 + o.length)) c) t a0 (o ++ [c]) := by
  intro i hi
  rw [List.length_append, List.length_singleton] at hi
  by_cases e : i = o.length
  · subst e
    rw [up1_s]
    simp
  · rw [up1_n _ _ (by omega), h i (by omega), List.getD_eq_getElem?_getD, List.getD_eq_getElem?_getD, List.getElem?_append_left (by omega)]
/-- the reference's state while it reads -/
def RS (I : IM) (t a0 : Nat) (h o : List Int32) : Prop := I 59 26 = nI t ∧ I 59 50 = nI h.length ∧ I 59 51 = nI (cnt h) ∧ I 59 52 = nI (a0 + o.length) ∧ Held (I 93) h ∧ Outs (I 79) t a0 o ∧ ∀ c ∈ h, hcP c
/-- what reading may touch: fields, codes of the text t from a0 on, what is held -/
def FrT (t a0 : Nat) (I I' : IM) : Prop := (∀ k, k ≠ 59 → k ≠ 79 → k ≠ 93 → I' k = I k) ∧ (∀ j, j ∉ [44, 45, 46, 47, 50, 51, 52] → I' 59 j = I 59 j) ∧ ∀ i, i < 200 * t + a0 → I' 79 i = I 79 i
theorem FrT.rfl {t a0 : Nat} {I : IM} : FrT t a0 I I := ⟨fun _ _ _ _ => Eq.refl _, fun _ _ => Eq.refl _, fun _ _ => Eq.refl _⟩
theorem FrT.tr {t a0 : Nat} {I I' I'' : IM} (h : FrT t a0 I I') (h2 : FrT t a0 I' I'') : FrT t a0 I I'' :=
  ⟨fun k a b c => (h2.1 k a b c).trans (h.1 k a b c), fun j hj => (h2.2.1 j hj).trans (h.2.1 j hj), fun i hi => (h2.2.2 i hi).trans (h.2.2 i hi)⟩
theorem FrT.up59 {t a0 : Nat} {I I' : IM} (h : FrT t a0 I I') {j : Nat} (hj : j ∈ [44, 45, 46, 47, 50, 51, 52]) (x : Int32) : FrT t a0 I (up2 I' 59 j x) := by
  refine ⟨fun k a b c => by rw [up2_n _ _ _ a]; exact h.1 k a b c, fun i hi => ?_, fun i hi => by rw [up2_n _ _ _ (by decide)]; exact h.2.2 i hi⟩
  rw [up2_s, up1_n]
  · exact h.2.1 i hi
  · rintro rfl
    exact hi hj
theorem FrT.up93 {t a0 : Nat} {I I' : IM} (h : FrT t a0 I I') (j : Nat) (x : Int32) : FrT t a0 I (up2 I' 93 j x) :=
  ⟨fun k a b c => by rw [up2_n _ _ _ c]; exact h.1 k a b c, fun j hj => by rw [up2_n _ _ _ (by decide)]; exact h.2.1 j hj, fun i hi => by rw [up2_n _ _ _ (by decide)]; exact h.2.2 i hi⟩
theorem FrT.up79 {t a0 : Nat} {I I' : IM} (h : FrT t a0 I I') {j : Nat} (hj : a0 ≤ j) (x : Int32) : FrT t a0 I (up2 I' 79 (200 * t + j) x) :=
  ⟨fun k a b c => by rw [up2_n _ _ _ b]; exact h.1 k a b c, fun j hj => by rw [up2_n _ _ _ (by decide)]; exact h.2.1 j hj, fun i hi => by rw [up2_s, up1_n _ _ (by omega)]; exact h.2.2 i hi⟩
theorem FrT.ofN {t a0 : Nat} {I I' : IM} (h : FrN [44, 45, 46, 47] I I') : FrT t a0 I I' :=
  ⟨fun k a _ _ => h.1 k a, fun j hj => h.2 j (fun z => hj (by simp at z ⊢; omega)), fun i _ => congrFun (h.1 79 (by decide)) i⟩
/-- the fields of the last token stay -/
def tokSame (I I' : IM) : Prop := ∀ j, j ∈ [44, 45, 46, 47] → I' 59 j = I 59 j
theorem RS.ofN {I I' : IM} {t a0 : Nat} {h o : List Int32} (hr : RS I t a0 h o) (hF : FrN [44, 45, 46, 47] I I') : RS I' t a0 h o := by
  obtain ⟨r1, r2, r3, r4, r5, r6, r7⟩ := hr
  exact ⟨(hF.2 26 (by decide)).trans r1, (hF.2 50 (by decide)).trans r2, (hF.2 51 (by decide)).trans r3, (hF.2 52 (by decide)).trans r4, by rw [hF.1 93 (by decide)]; exact r5, by rw [hF.1 79 (by decide)]; exact r6, r7⟩
def sp_R_puts : SpT := fun as S I L Post => ∃ (c : Int32) (t a0 : Nat) (h o : List Int32), as = [.ref 59, .int c] ∧ S = S1 ∧ RS I t a0 h o ∧ t < 6 ∧ a0 + o.length < 200 ∧ ∀ I' : IM, FrT t a0 I I' → tokSame I I' → RS I' t a0 h (o ++ [c]) → Post none S1 I' L
set_option maxHeartbeats 4000000 in
set_option maxRecDepth 100000 in
theorem c_R_puts : Con mR_puts 2 0 0 sp_R_puts := by
  refine con_of_X rfl fun G as S I L Post hs => ?_
  obtain ⟨c, t, a0, h, o, rfl, rfl, ⟨r1, r2, r3, r4, r5, r6, r7⟩, ht, hlen, h1⟩ := hs
  refine ⟨0, Nat.le_of_ble_eq_true rfl, ?_⟩
  show X mR_puts G _ S1 I L 0 [.ref 59, .int c] [] Post
  refine x_aload_n dR_puts_0 rfl ?_
  refine x_getR fl_R_71 rfl dR_puts_1 rfl rfl rfl ?_
  refine x_sipush (v := 200) dR_puts_4 rfl ?_
  refine x_aload_n dR_puts_7 rfl ?_
  refine x_getI fl_R_161 rfl dR_puts_8 rfl rfl ?_
  refine x_imul dR_puts_11 ?_
  refine x_aload_n dR_puts_12 rfl ?_
  refine x_getI fl_R_187 rfl dR_puts_13 rfl rfl ?_
  -- at 16: .iadd
  rw [r1, r4]
  refine x_iadd dR_puts_16 ?_
  refine x_iload_n dR_puts_17 rfl ?_
  refine x_iastJ dR_puts_18 rfl rfl (r200 t (a0 + o.length)) (by omega) ?_
  refine x_aload_n dR_puts_19 rfl ?_
  refine x_dup dR_puts_20 rfl ?_
  refine x_getI fl_R_187 rfl dR_puts_21 rfl rfl ?_
  -- at 24: .iconst 1
  have e : up2 I 79 (200 * t + (a0 + o.length)) c 59 52 = nI (a0 + o.length) := by rw [up2_n _ _ _ (by decide)]; exact r4
  rw [e]
  refine x_iconst (v := 1) dR_puts_24 rfl ?_
  refine x_iadd dR_puts_25 ?_
  refine x_putI fl_R_187 rfl dR_puts_26 (by decide) rfl rfl rfl rfl ?_
  -- at 29: .return_
  refine x_return dR_puts_29 rfl ?_
  refine h1 _ ((FrT.rfl.up79 (by omega) _).up59 (by decide) _) (fun j hj => ?_) ⟨?_, ?_, ?_, ?_, ?_, ?_, r7⟩
  · have : j ≠ 52 := by rintro rfl; exact absurd hj (by decide)
    rw [f59_n this, up2_n _ _ _ (by decide)]
  · rw [f59_n (by decide), up2_n _ _ _ (by decide)]; exact r1
  · rw [f59_n (by decide), up2_n _ _ _ (by decide)]; exact r2
  · rw [f59_n (by decide), up2_n _ _ _ (by decide)]; exact r3
  · rw [f59_s, nI_1, List.length_append]
    rfl
  · rw [up2_n _ _ _ (by decide), up2_n _ _ _ (by decide)]; exact r5
  · rw [up2_n _ _ _ (by decide), up2_s]
    exact r6.app c
def sp_R_holds : SpT := fun as S I L Post => ∃ (c : Int32) (t a0 : Nat) (h o : List Int32), as = [.ref 59, .int c] ∧ S = S1 ∧ hcP c ∧ h.length < 160 ∧ I 59 26 = nI t ∧ I 59 50 = nI h.length ∧ I 59 51 = nI (cnt (c :: h)) ∧ I 59 52 = nI (a0 + o.length) ∧ Held (I 93) h ∧ Outs (I 79) t a0 o ∧ (∀ c ∈ h, hcP c) ∧ ∀ I' : IM, FrT t a0 I I' → tokSame I I' → RS I' t a0 (c :: h) o → Post none S1 I' L
set_option maxHeartbeats 4000000 in
set_option maxRecDepth 100000 in
theorem c_R_holds : Con mR_holds 2 0 0 sp_R_holds := by
  refine con_of_X rfl fun G as S I L Post hs => ?_
  obtain ⟨c, t, a0, h, o, rfl, rfl, hc, hlen, r1, r2, r3, r4, r5, r6, r7, h1⟩ := hs
  refine ⟨0, Nat.le_of_ble_eq_true rfl, ?_⟩
  show X mR_holds G _ S1 I L 0 [.ref 59, .int c] [] Post
  refine x_aload_n dR_holds_0 rfl ?_
  refine x_getR fl_R_113 rfl dR_holds_1 rfl rfl rfl ?_
  refine x_aload_n dR_holds_4 rfl ?_
  refine x_getI fl_R_190 rfl dR_holds_5 rfl rfl ?_
  -- at 8: .iload_n 1
  rw [r2]
  refine x_iload_n dR_holds_8 rfl ?_
  refine x_iastJ (j := h.length) dR_holds_9 rfl rfl (by first | rfl | (simp only [← nI_add, ← pk_mul]; rfl)) (by omega) ?_
  refine x_aload_n dR_holds_10 rfl ?_
  refine x_dup dR_holds_11 rfl ?_
  refine x_getI fl_R_190 rfl dR_holds_12 rfl rfl ?_
  -- at 15: .iconst 1
  have e : up2 I 93 h.length c 59 50 = nI h.length := by rw [up2_n _ _ _ (by decide)]; exact r2
  rw [e]
  refine x_iconst (v := 1) dR_holds_15 rfl ?_
  refine x_iadd dR_holds_16 ?_
  refine x_putI fl_R_190 rfl dR_holds_17 (by decide) rfl rfl rfl rfl ?_
  -- at 20: .return_
  refine x_return dR_holds_20 rfl ?_
  refine h1 _ ((FrT.rfl.up93 _ _).up59 (by decide) _) (fun j hj => ?_) ⟨?_, ?_, ?_, ?_, ?_, ?_, ?_⟩
  · have : j ≠ 50 := by rintro rfl; exact absurd hj (by decide)
    rw [f59_n this, up2_n _ _ _ (by decide)]
  · rw [f59_n (by decide), up2_n _ _ _ (by decide)]; exact r1
  · rw [f59_s, nI_1]; rfl
  · rw [f59_n (by decide), up2_n _ _ _ (by decide)]; exact r3
  · rw [f59_n (by decide), up2_n _ _ _ (by decide)]; exact r4
  · rw [up2_n _ _ _ (by decide), up2_s]
    exact r5.push c
  · rw [up2_n _ _ _ (by decide), up2_n _ _ _ (by decide)]
    exact r6
  · intro x hx
    rcases List.mem_cons.mp hx with rfl | hx
    · exact hc
    · exact r7 x hx
