/-! the reference's calls: even loads -/
theorem bt_and (f g : Nat → Bool) {n p : Nat} (hn : n ≤ 8) (hp : p < n) : (bt (bs n (fun p => f p && g p)) p = true) ↔ (bt (bs n f) p = true ∧ g p = true) := by
  rw [bt_bs _ n (by omega) p (by omega), bt_bs _ n (by omega) p (by omega)]
  simp [hp]
def sp_R_shares : SpT := fun as S I L Post => ∃ q : Nat, as = [.ref 59, .int (nI q)] ∧ S = S1 ∧ rOk I ∧ q < qN (rE I) ∧
  (shE (rE I) q = none → ∀ (I' : IM) (L' : LM), rSame I I' → Post (some (.int 0)) S1 I' L') ∧
  (∀ f, shE (rE I) q = some f → ∀ (I' : IM) (L' : LM), rSame I I' → (∀ p, p < 8 → I' 99 p = f p) → Post (some (.int 1)) S1 I' L')
set_option maxHeartbeats 4000000 in
set_option maxRecDepth 100000 in
theorem c_R_shares : Con mR_shares 7 0 0 sp_R_shares := by
  refine con_of_X rfl fun G as S I L Post hs => ?_
  obtain ⟨q, rfl, rfl, ⟨hok, own⟩, hq, h1, h2⟩ := hs
  refine ⟨5, Nat.le_of_ble_eq_true rfl, ?_⟩
  show X mR_shares G _ S1 I L 0 [.ref 59, .int (nI q), .null, .null, .null, .null, .null] [] Post
  have n1 := hok.a.2.1
  have n2 := hok.b.2.1
  have n3 := hok.c.2.1
  obtain ⟨nd, nd1, nd2, end_⟩ := (hok.b.2.2 q hq).2.1
  unfold shE at h1 h2
  rw [end_, cl_nI (by omega)] at h1 h2
  -- the lightest
  have inner : ∀ (c : Nat) (x : Int32) (F : Nat → Int32) (I' : IM) (L' : LM), rSame I I' → (∀ p, p < 8 → I' 99 p = F p) → ∀ (k i : Nat) (a4 : Int32) (a6 : Value) (o : Int32), i + k = pN (rE I) → cat1at [a6] 1 = true → ltR (rE I) F (bs (pN (rE I)) (evF (rE I) (PE (rE I)) (sN (rE I)) q)) i = (a4, o) → (a4 = -1 ∨ ∃ b, b < i ∧ a4 = nI b ∧ o = rE I 7 b * (F b + 1)) →
      (∀ (a4 a5 a6 : Value) (b : Int32), cat1at [a4] 1 = true → cat1at [a5] 1 = true → cat1at [a6] 1 = true → a4 = .int b → (ltR (rE I) F (bs (pN (rE I)) (evF (rE I) (PE (rE I)) (sN (rE I)) q)) (pN (rE I))).1 = b → X mR_shares G (7, 0, 0) S1 I' L' 201 [.ref 59, .int (nI q), .int (bs (pN (rE I)) (anyF (rE I) (PE (rE I)) (nI q) (sN (rE I)))), .int x, a4, a5, a6] [] Post) →
      X mR_shares G (7, 0, 0) S1 I' L' 79 [.ref 59, .int (nI q), .int (bs (pN (rE I)) (anyF (rE I) (PE (rE I)) (nI q) (sN (rE I)))), .int x, .int a4, .int (nI i), a6] [] Post := by
    intro c x F I' L' sm hF k
    induction k with
    | zero =>
      intro i a4 a6 o hi h6 hl hb hend
      have hi : i = pN (rE I) := by omega
      refine x_iload dR_shares_79 rfl ?_
      refine x_aload_n dR_shares_81 rfl ?_
      refine x_getI fl_R_148 rfl dR_shares_82 rfl rfl ?_
      -- at 85: .if_icmp .ge 116
      rw [show I' 59 3 = nI (pN (rE I)) by rw [← sm.2.1]; exact (sm.inv hok).a.1]
      refine x_icmp_ge (tgt := 201) dR_shares_85 (by decide) (fun _ => ?_) (fun h => absurd (by rw [hi]; exact Int32.le_refl _) h)
      exact hend _ _ _ a4 rfl rfl h6 rfl (by rw [hi] at hl; rw [hl])
    | succ k ih =>
      intro i a4 a6 o hi h6 hl hb hend
      have e62 : I' 62 = rE I 2 := congrFun sm.2.1 2
      have e67 : I' 67 = rE I 7 := congrFun sm.2.1 7
      have e68 : I' 68 = rE I 8 := congrFun sm.2.1 8
      have hcan : ∀ p, canV (rV I') p q = canV (rE I) p q := fun p => by rw [can_eq (rVE I'), sm.2.1]
      have hs : ltR (rE I) F (bs (pN (rE I)) (evF (rE I) (PE (rE I)) (sN (rE I)) q)) (i + 1) = ltS (rE I) F (bs (pN (rE I)) (evF (rE I) (PE (rE I)) (sN (rE I)) q)) i (a4, o) := by rw [ltR, hl]
      have hbit : bt (bs (pN (rE I)) (evF (rE I) (PE (rE I)) (sN (rE I)) q)) i = true ↔ (bt (bs (pN (rE I)) (anyF (rE I) (PE (rE I)) (nI q) (sN (rE I)))) i = true ∧ (!decide (rE I 2 i = 4) && canV (rE I) i q) = true) := bt_and _ _ n1 (by omega)
      rw [ltS] at hs
      dsimp only at hs
      generalize anyF (rE I) (PE (rE I)) (nI q) (sN (rE I)) = am at hbit ih hend ⊢
      have no : ¬ ((bt (bs (pN (rE I)) am) i = true ∧ (!decide (rE I 2 i = 4) && canV (rE I) i q) = true) ∧ F i < rE I 8 i) → X mR_shares G (7, 0, 0) S1 I' L' 140 [.ref 59, .int (nI q), .int (bs (pN (rE I)) am), .int x, .int a4, .int (nI i), a6] [] Post := by
        intro hn
        refine x_iconst (v := 0) dR_shares_140 rfl ?_
        refine x_istore_6 dR_shares_141 rfl rfl ?_
        refine x_iload dR_shares_143 rfl ?_
        -- at 145: .ifCond .eq 50
        refine x_if_eq (tgt := 195) dR_shares_145 (by decide) (fun _ => ?_) (fun h => absurd rfl h)
        refine x_iincp_5 dR_shares_195 rfl rfl ?_
        refine x_goto (tgt := 79) dR_shares_198 (by decide) ?_
        -- at 79: .iload 5
        rw [nI_1]
        refine ih (i + 1) a4 _ o (by omega) rfl (by rw [hs, if_neg (fun z => hn ⟨hbit.mp z.1.1, z.1.2⟩)]) (hb.imp id (fun ⟨b, hb1, hb2⟩ => ⟨b, by omega, hb2⟩)) hend
      refine x_iload dR_shares_79 rfl ?_
      refine x_aload_n dR_shares_81 rfl ?_
      refine x_getI fl_R_148 rfl dR_shares_82 rfl rfl ?_
      -- at 85: .if_icmp .ge 116
      rw [show I' 59 3 = nI (pN (rE I)) by rw [← sm.2.1]; exact (sm.inv hok).a.1]
      refine x_icmp_ge (tgt := 201) dR_shares_85 (by decide) (fun h => absurd h (nI_ge (by omega) (by omega))) (fun _ => ?_)
      refine x_iload_n dR_shares_88 rfl ?_
      refine x_iload dR_shares_89 rfl ?_
      refine x_ishr dR_shares_91 ?_
      refine x_iconst (v := 1) dR_shares_92 rfl ?_
      refine x_iand dR_shares_93 ?_
      -- at 94: .iconst 1
      rw [tst_bit (by omega)]
      refine x_iconst (v := 1) dR_shares_94 rfl ?_
      -- at 95: .if_icmp .ne 45
      by_cases b1 : bt (bs (pN (rE I)) am) i = true
      · rw [if_pos b1]
        refine x_icmp_ne (tgt := 140) dR_shares_95 (by decide) (fun h => absurd rfl h) (fun _ => ?_)
        refine x_aload_n dR_shares_98 rfl ?_
        refine x_getR fl_R_20 rfl dR_shares_99 rfl rfl rfl ?_
        refine x_iload dR_shares_102 rfl ?_
        refine x_ialdJ (j := i) dR_shares_104 rfl rfl (by first | rfl | (simp only [← nI_add, ← pk_mul]; rfl)) (by omega) ?_
        refine x_iconst (v := 4) dR_shares_105 rfl ?_
        -- at 106: .if_icmp .eq 34
        rw [e62]
        by_cases b2 : rE I 2 i = 4
        · refine x_icmp_eq (tgt := 140) dR_shares_106 (by decide) (fun _ => ?_) (fun h => absurd b2 h)
          exact no (fun z => by simp [b2] at z)
        · refine x_icmp_eq (tgt := 140) dR_shares_106 (by decide) (fun h => absurd h b2) (fun _ => ?_)
          refine x_aload_n dR_shares_109 rfl ?_
          refine x_iload dR_shares_110 rfl ?_
          refine x_iload_n dR_shares_112 rfl ?_
          -- at 113: .invokevirtual 283
          refine x_callV_2 c_R_can ok_R_can ml_R_283 dR_shares_113 rfl rfl rfl rfl rfl ?_
          refine ⟨i, q, rfl, rfl, by omega, by omega, fun b3 => ?_, fun b3 => ?_⟩
          · rw [hcan] at b3
            refine x_if_eq (tgt := 140) dR_shares_116 (by decide) (fun h => absurd h (by decide)) (fun _ => ?_)
            refine x_aload_n dR_shares_119 rfl ?_
            refine x_getR fl_R_134 rfl dR_shares_120 rfl rfl rfl ?_
            refine x_iload dR_shares_123 rfl ?_
            refine x_ialdJ (j := i) dR_shares_125 rfl rfl (by first | rfl | (simp only [← nI_add, ← pk_mul]; rfl)) (by omega) ?_
            refine x_aload_n dR_shares_126 rfl ?_
            refine x_getR fl_R_38 rfl dR_shares_127 rfl rfl rfl ?_
            refine x_iload dR_shares_130 rfl ?_
            refine x_ialdJ (j := i) dR_shares_132 rfl rfl (by first | rfl | (simp only [← nI_add, ← pk_mul]; rfl)) (by omega) ?_
            -- at 133: .if_icmp .ge 7
            rw [e68, hF i (by omega)]
            refine x_icmp_ge (tgt := 140) dR_shares_133 (by decide) (fun b4 => ?_) (fun b4 => ?_)
            · exact no (fun z => Int32.not_lt.mpr b4 z.2)
            · have yes : ((bt (bs (pN (rE I)) am) i = true ∧ (!decide (rE I 2 i = 4) && canV (rE I) i q) = true) ∧ F i < rE I 8 i) := ⟨⟨b1, by simp [b2, b3]⟩, Int32.not_le.mp b4⟩
              refine x_iconst (v := 1) dR_shares_136 rfl ?_
              refine x_goto (tgt := 141) dR_shares_137 (by decide) ?_
              refine x_istore_6 dR_shares_141 rfl rfl ?_
              refine x_iload dR_shares_143 rfl ?_
              -- at 145: .ifCond .eq 50
              refine x_if_eq (tgt := 195) dR_shares_145 (by decide) (fun h => absurd h (by decide)) (fun _ => ?_)
              have take : (a4 = -1 ∨ rE I 7 i * (F i + 1) < o) → X mR_shares G (7, 0, 0) S1 I' L' 191 [.ref 59, .int (nI q), .int (bs (pN (rE I)) am), .int x, .int a4, .int (nI i), .int 1] [] Post := by
                intro hc
                refine x_iload dR_shares_191 rfl ?_
                refine x_istore_4 dR_shares_193 rfl rfl ?_
                refine x_iincp_5 dR_shares_195 rfl rfl ?_
                refine x_goto (tgt := 79) dR_shares_198 (by decide) ?_
                -- at 79: .iload 5
                rw [nI_1]
                refine ih (i + 1) (nI i) _ (rE I 7 i * (F i + 1)) (by omega) rfl (by rw [hs, if_pos ⟨⟨hbit.mpr yes.1, yes.2⟩, hc⟩]) (Or.inr ⟨i, by omega, rfl, rfl⟩) hend
              refine x_iload dR_shares_148 rfl ?_
              refine x_iconst (v := -1) dR_shares_150 rfl ?_
              -- at 151: .if_icmp .eq 40
              rcases hb with rfl | ⟨b, hb1, rfl, rfl⟩
              · refine x_icmp_eq (tgt := 191) dR_shares_151 (by decide) (fun _ => ?_) (fun h => absurd rfl h)
                exact take (Or.inl rfl)
              · have hne : ¬ nI b = -1 := fun z => by
                  have := nI_pos' (n := b) (by omega)
                  rw [z] at this
                  exact absurd this (by decide)
                refine x_icmp_eq (tgt := 191) dR_shares_151 (by decide) (fun h => absurd h hne) (fun _ => ?_)
                refine x_aload_n dR_shares_154 rfl ?_
                refine x_getR fl_R_35 rfl dR_shares_155 rfl rfl rfl ?_
                refine x_iload dR_shares_158 rfl ?_
                refine x_ialdJ (j := i) dR_shares_160 rfl rfl (by first | rfl | (simp only [← nI_add, ← pk_mul]; rfl)) (by omega) ?_
                refine x_aload_n dR_shares_161 rfl ?_
                refine x_getR fl_R_134 rfl dR_shares_162 rfl rfl rfl ?_
                refine x_iload dR_shares_165 rfl ?_
                refine x_ialdJ (j := i) dR_shares_167 rfl rfl (by first | rfl | (simp only [← nI_add, ← pk_mul]; rfl)) (by omega) ?_
                refine x_iconst (v := 1) dR_shares_168 rfl ?_
                refine x_iadd dR_shares_169 ?_
                refine x_imul dR_shares_170 ?_
                refine x_aload_n dR_shares_171 rfl ?_
                refine x_getR fl_R_35 rfl dR_shares_172 rfl rfl rfl ?_
                refine x_iload dR_shares_175 rfl ?_
                refine x_ialdJ (j := b) dR_shares_177 rfl rfl (by first | rfl | (simp only [← nI_add, ← pk_mul]; rfl)) (by omega) ?_
                refine x_aload_n dR_shares_178 rfl ?_
                refine x_getR fl_R_134 rfl dR_shares_179 rfl rfl rfl ?_
                refine x_iload dR_shares_182 rfl ?_
                refine x_ialdJ (j := b) dR_shares_184 rfl rfl (by first | rfl | (simp only [← nI_add, ← pk_mul]; rfl)) (by omega) ?_
                refine x_iconst (v := 1) dR_shares_185 rfl ?_
                refine x_iadd dR_shares_186 ?_
                refine x_imul dR_shares_187 ?_
                -- at 188: .if_icmp .ge 7
                rw [e67, hF i (by omega), hF b (by omega)]
                refine x_icmp_ge (tgt := 195) dR_shares_188 (by decide) (fun b5 => ?_) (fun b5 => ?_)
                · refine x_iincp_5 dR_shares_195 rfl rfl ?_
                  refine x_goto (tgt := 79) dR_shares_198 (by decide) ?_
                  -- at 79: .iload 5
                  rw [nI_1]
                  refine ih (i + 1) (nI b) _ _ (by omega) rfl (by rw [hs, if_neg (fun z => z.2.elim hne (fun y => Int32.not_lt.mpr b5 y))]) (Or.inr ⟨b, by omega, rfl, rfl⟩) hend
                · exact take (Or.inr (Int32.not_le.mp b5))
          · rw [hcan] at b3
            refine x_if_eq (tgt := 140) dR_shares_116 (by decide) (fun _ => ?_) (fun h => absurd (by decide) h)
            exact no (fun z => by simp [b3] at z)
      · rw [if_neg b1]
        refine x_icmp_ne (tgt := 140) dR_shares_95 (by decide) (fun _ => ?_) (fun h => absurd h (by decide))
        exact no (fun z => b1 z.1.1)
  have loop3 : ∀ (k i : Nat) (I' : IM) (L' : LM) (F : Nat → Int32) (a4 a5 a6 : Value), i + k = nd → cat1at [a4] 1 = true → cat1at [a5] 1 = true → cat1at [a6] 1 = true → rSame I I' → shR (rE I) (bs (pN (rE I)) (evF (rE I) (PE (rE I)) (sN (rE I)) q)) (pN (rE I)) i = some F → (∀ p, p < 8 → I' 99 p = F p) →
      X mR_shares G (7, 0, 0) S1 I' L' 63 [.ref 59, .int (nI q), .int (bs (pN (rE I)) (anyF (rE I) (PE (rE I)) (nI q) (sN (rE I)))), .int (nI i), a4, a5, a6] [] Post := by
    intro k
    induction k with
    | zero =>
      intro i I' L' F a4 a5 a6 hi q4 q5 q6 sm hf hF
      obtain rfl : i = nd := by omega
      refine x_iload_n dR_shares_63 rfl ?_
      refine x_aload_n dR_shares_64 rfl ?_
      refine x_getR fl_R_47 rfl dR_shares_65 rfl rfl rfl ?_
      refine x_iload_n dR_shares_68 rfl ?_
      refine x_ialdJ (j := q) dR_shares_69 rfl rfl (by first | rfl | (simp only [← nI_add, ← pk_mul]; rfl)) (by omega) ?_
      -- at 70: .if_icmp .ge 156
      rw [show I' 71 q = nI i from (congrFun (congrFun sm.2.1 11) q).trans end_]
      refine x_icmp_ge (tgt := 226) dR_shares_70 (by decide) (fun _ => ?_) (fun h => absurd (Int32.le_refl _) h)
      refine x_iconst (v := 1) dR_shares_226 rfl ?_
      -- at 227: .ireturn
      refine x_ireturn dR_shares_227 rfl rfl ?_
      exact h2 F hf I' L' sm hF
    | succ k ih =>
      intro i I' L' F a4 a5 a6 hi q4 q5 q6 sm hf hF
      refine x_iload_n dR_shares_63 rfl ?_
      refine x_aload_n dR_shares_64 rfl ?_
      refine x_getR fl_R_47 rfl dR_shares_65 rfl rfl rfl ?_
      refine x_iload_n dR_shares_68 rfl ?_
      refine x_ialdJ (j := q) dR_shares_69 rfl rfl (by first | rfl | (simp only [← nI_add, ← pk_mul]; rfl)) (by omega) ?_
      -- at 70: .if_icmp .ge 156
      rw [show I' 71 q = nI nd from (congrFun (congrFun sm.2.1 11) q).trans end_]
      refine x_icmp_ge (tgt := 226) dR_shares_70 (by decide) (fun h => absurd h (nI_ge (by omega) (by omega))) (fun _ => ?_)
      have hs : shR (rE I) (bs (pN (rE I)) (evF (rE I) (PE (rE I)) (sN (rE I)) q)) (pN (rE I)) (i + 1) = if (ltR (rE I) F (bs (pN (rE I)) (evF (rE I) (PE (rE I)) (sN (rE I)) q)) (pN (rE I))).1 = -1 then none else some (up1 F (cl (ltR (rE I) F (bs (pN (rE I)) (evF (rE I) (PE (rE I)) (sN (rE I)) q)) (pN (rE I))).1) (F (cl (ltR (rE I) F (bs (pN (rE I)) (evF (rE I) (PE (rE I)) (sN (rE I)) q)) (pN (rE I))).1) + 1)) := by
        rw [shR, hf]
      have hin := ltR_in (rE I) F (bs (pN (rE I)) (evF (rE I) (PE (rE I)) (sN (rE I)) q)) (pN (rE I))
      refine x_iconst (v := -1) dR_shares_73 rfl ?_
      refine x_istore_4 dR_shares_74 rfl rfl ?_
      refine x_iconst (v := 0) dR_shares_76 rfl ?_
      refine x_istore_5 dR_shares_77 rfl rfl ?_
      -- at 79: .iload 5
      refine inner 0 (nI i) F I' L' sm hF (pN (rE I)) 0 (-1) a6 0 (Nat.zero_add _) q6 rfl (Or.inl rfl) fun a4 a5 a6 b q4 q5 q6 eb hb => ?_
      subst eb
      rw [hb] at hs hin
      refine x_iload dR_shares_201 rfl ?_
      refine x_iconst (v := -1) dR_shares_203 rfl ?_
      -- at 204: .if_icmp .ne 5
      refine x_icmp_ne (tgt := 209) dR_shares_204 (by decide) (fun c1 => ?_) (fun c1 => ?_)
      · rw [if_neg c1] at hs
        obtain ⟨p, hp, rfl⟩ := hin.elim (fun z => absurd z c1) id
        rw [cl_nI (by omega)] at hs
        refine x_aload_n dR_shares_209 rfl ?_
        refine x_getR fl_R_134 rfl dR_shares_210 rfl rfl rfl ?_
        refine x_iload dR_shares_213 rfl ?_
        refine x_dup2 dR_shares_215 rfl rfl ?_
        refine x_ialdJ (j := p) dR_shares_216 rfl rfl (by first | rfl | (simp only [← nI_add, ← pk_mul]; rfl)) (by omega) ?_
        -- at 217: .iconst 1
        rw [hF p (by omega)]
        refine x_iconst (v := 1) dR_shares_217 rfl ?_
        refine x_iadd dR_shares_218 ?_
        refine x_iastJ (j := p) dR_shares_219 rfl rfl (by first | rfl | (simp only [← nI_add, ← pk_mul]; rfl)) (by omega) ?_
        refine x_iincp_3 dR_shares_220 rfl rfl ?_
        refine x_goto (tgt := 63) dR_shares_223 (by decide) ?_
        -- at 63: .iload_n 3
        rw [nI_1]
        refine ih (i + 1) _ L' _ _ _ _ (by omega) rfl q5 q6 (sm.fr (Fr.rfl.up (by decide) _ _)) hs (fun j hj => ?_)
        rw [up2_s, up1, up1]
        split
        · rfl
        · exact hF j hj
      · rw [if_pos c1] at hs
        refine x_iconst (v := 0) dR_shares_207 rfl ?_
        -- at 208: .ireturn
        refine x_ireturn dR_shares_208 rfl rfl ?_
        exact h1 (shR_none hs (by omega)) I' L' sm
  have loop2 : ∀ (k i : Nat) (I' : IM) (L' : LM), i + k = 8 → rSame I I' → (∀ p, p < i → I' 99 p = 0) →
      X mR_shares G (7, 0, 0) S1 I' L' 42 [.ref 59, .int (nI q), .int (bs (pN (rE I)) (anyF (rE I) (PE (rE I)) (nI q) (sN (rE I)))), .int (nI i), .null, .null, .null] [] Post := by
    intro k
    induction k with
    | zero =>
      intro i I' L' hi sm he
      obtain rfl : i = 8 := by omega
      refine x_iload_n dR_shares_42 rfl ?_
      refine x_bipush (v := 8) dR_shares_43 rfl ?_
      -- at 45: .if_icmp .ge 16
      refine x_icmp_ge (tgt := 61) dR_shares_45 (by decide) (fun _ => ?_) (fun h => absurd (by decide) h)
      refine x_iconst (v := 0) dR_shares_61 rfl ?_
      refine x_istoren_3 dR_shares_62 rfl rfl ?_
      -- at 63: .iload_n 3
      exact loop3 nd 0 I' L' (fun _ => 0) _ _ _ (by omega) rfl rfl rfl sm rfl he
    | succ k ih =>
      intro i I' L' hi sm he
      refine x_iload_n dR_shares_42 rfl ?_
      refine x_bipush (v := 8) dR_shares_43 rfl ?_
      -- at 45: .if_icmp .ge 16
      refine x_icmp_ge (tgt := 61) dR_shares_45 (by decide) (fun h => absurd h (nI_ge (b := 8) (by omega) (by omega))) (fun _ => ?_)
      refine x_aload_n dR_shares_48 rfl ?_
      refine x_getR fl_R_134 rfl dR_shares_49 rfl rfl rfl ?_
      refine x_iload_n dR_shares_52 rfl ?_
      refine x_iconst (v := 0) dR_shares_53 rfl ?_
      refine x_iastJ (j := i) dR_shares_54 rfl rfl (by first | rfl | (simp only [← nI_add, ← pk_mul]; rfl)) (by omega) ?_
      refine x_iincp_3 dR_shares_55 rfl rfl ?_
      refine x_goto (tgt := 42) dR_shares_58 (by decide) ?_
      -- at 42: .iload_n 3
      rw [nI_1]
      refine ih (i + 1) _ L' (by omega) (sm.fr (Fr.rfl.up (by decide) _ _)) (fun p hp => ?_)
      rw [up2_s, up1]
      split
      · rfl
      · exact he p (by omega)
  have loop1 : ∀ (k i : Nat) (acc : Int32) (I' : IM) (L' : LM), i + k = sN (rE I) → acc = bs (pN (rE I)) (anyF (rE I) (PE (rE I)) (nI q) i) → rSame I I' →
      X mR_shares G (7, 0, 0) S1 I' L' 4 [.ref 59, .int (nI q), .int acc, .int (nI i), .null, .null, .null] [] Post := by
    intro k
    induction k with
    | zero =>
      intro i acc I' L' hi ha sm
      have hi : i = sN (rE I) := by omega
      refine x_iload_n dR_shares_4 rfl ?_
      refine x_aload_n dR_shares_5 rfl ?_
      refine x_getI fl_R_158 rfl dR_shares_6 rfl rfl ?_
      -- at 9: .if_icmp .ge 31
      rw [show I' 59 17 = nI (sN (rE I)) by rw [← sm.2.1]; exact (sm.inv hok).c.1]
      refine x_icmp_ge (tgt := 40) dR_shares_9 (by decide) (fun _ => ?_) (fun h => absurd (by rw [hi]; exact Int32.le_refl _) h)
      refine x_iconst (v := 0) dR_shares_40 rfl ?_
      refine x_istoren_3 dR_shares_41 rfl rfl ?_
      -- at 42: .iload_n 3
      rw [ha, hi]
      exact loop2 8 0 I' L' (by omega) sm (fun p hp => absurd hp (Nat.not_lt_zero p))
    | succ k ih =>
      intro i acc I' L' hi ha sm
      have e14 : I' 74 i = rE I 14 i := by
        have e := ((rVE I').2.2 i (by rw [sm.2.1]; omega)).1
        rw [sm.2.1] at e
        exact e
      refine x_iload_n dR_shares_4 rfl ?_
      refine x_aload_n dR_shares_5 rfl ?_
      refine x_getI fl_R_158 rfl dR_shares_6 rfl rfl ?_
      -- at 9: .if_icmp .ge 31
      rw [show I' 59 17 = nI (sN (rE I)) by rw [← sm.2.1]; exact (sm.inv hok).c.1]
      refine x_icmp_ge (tgt := 40) dR_shares_9 (by decide) (fun h => absurd h (nI_ge (by omega) (by omega))) (fun _ => ?_)
      refine x_iload_n dR_shares_12 rfl ?_
      refine x_aload_n dR_shares_13 rfl ?_
      refine x_getR fl_R_56 rfl dR_shares_14 rfl rfl rfl ?_
      refine x_iload_n dR_shares_17 rfl ?_
      refine x_ialdJ (j := i) dR_shares_18 rfl rfl (by first | rfl | (simp only [← nI_add, ← pk_mul]; rfl)) (by omega) ?_
      refine x_iload_n dR_shares_19 rfl ?_
      -- at 20: .if_icmp .ne 11
      rw [e14]
      refine x_icmp_ne (tgt := 31) dR_shares_20 (by decide) (fun c1 => ?_) (fun c1 => ?_)
      · refine x_iconst (v := 0) dR_shares_31 rfl ?_
        refine x_ior dR_shares_32 ?_
        -- at 33: .istore_n 2
        refine x_eqi (y := acc) (by simp) ?_
        refine x_istoren_2 dR_shares_33 rfl rfl ?_
        refine x_iincp_3 dR_shares_34 rfl rfl ?_
        refine x_goto (tgt := 4) dR_shares_37 (by decide) ?_
        -- at 4: .iload_n 3
        rw [nI_1]
        refine ih (i + 1) _ I' L' (by omega) ?_ sm
        rw [ha]
        refine bs_congr _ fun p hp => ?_
        rw [anyF]
        simp [c1]
      · refine x_aload_n dR_shares_23 rfl ?_
        refine x_iload_n dR_shares_24 rfl ?_
        -- at 25: .invokevirtual 277
        refine x_callV_1 cE_R_clear ok_R_clearTo ml_R_277 dR_shares_25 rfl rfl rfl rfl rfl ?_
        refine ⟨i, rfl, rfl, ⟨sm.inv hok, sm.2.2⟩, by rw [sm.2.1]; omega, fun I2 L2 hF2 => ?_⟩
        rw [sm.2.1]
        refine x_goto (tgt := 32) dR_shares_28 (by decide) ?_
        refine x_ior dR_shares_32 ?_
        -- at 33: .istore_n 2
        refine x_istoren_2 dR_shares_33 rfl rfl ?_
        refine x_iincp_3 dR_shares_34 rfl rfl ?_
        refine x_goto (tgt := 4) dR_shares_37 (by decide) ?_
        -- at 4: .iload_n 3
        rw [nI_1]
        refine ih (i + 1) _ I2 L2 (by omega) ?_ (sm.fr (hF2.wk (by decide)))
        rw [ha]
        refine (bs_or _ _ (by omega)).trans (bs_congr _ (fun p hp => ?_))
        simp [anyF, c1, PE]
  refine x_iconst (v := 0) dR_shares_0 rfl ?_
  refine x_istoren_2 dR_shares_1 rfl rfl ?_
  refine x_iconst (v := 0) dR_shares_2 rfl ?_
  refine x_istoren_3 dR_shares_3 rfl rfl ?_
  -- at 4: .iload_n 3
  exact loop1 (sN (rE I)) 0 0 I L (by omega) (bs_z _).symm (rSame.refl own)
