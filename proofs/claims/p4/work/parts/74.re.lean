/-! the reference's calls: flee, send, rest -/
theorem rng1_of {k : Nat} (h : k ≤ 5) : rng1 (nI k) 6 := Or.inr ⟨k, by omega, rfl⟩
theorem goesV_0 (E : IM) (p k : Nat) : goesV E p 0 k = leR (totE E p) k := if_pos rfl
theorem goesV_1 (E : IM) (p k : Nat) : goesV E p 1 k = moR (totE E p) k := if_neg (by decide)
theorem totW_nI (E : IM) (p u : Nat) : totW E p (nI u) = totE E p u := rfl
def sp_R_flee : SpT := fun as S I L Post => ∃ p w : Int32, rSp [.int p, .int w] (fun E => .int (fleeS E p w)) (fun E => E) as S I L Post
set_option maxHeartbeats 4000000 in
set_option maxRecDepth 100000 in
theorem c_R_flee : Con mR_flee 11 0 0 sp_R_flee := by
  refine con_of_X rfl fun G as S I L Post hs => ?_
  obtain ⟨p, w, rfl, rfl, ⟨hok, own⟩, h1⟩ := hs
  dsimp only at h1
  have h1 := r_end h1
  refine ⟨1, Nat.le_of_ble_eq_true rfl, ?_⟩
  show X mR_flee G _ S1 I L 0 [.ref 59, .int p, .int w, .null] [] Post
  have n1 := hok.a.2.1
  refine x_aload_n dR_flee_0 rfl ?_
  refine x_iload_n dR_flee_1 rfl ?_
  -- at 2: .invokevirtual 230
  refine x_callV_1 c_R_isOne ok_R_isOne ml_R_230 dR_flee_2 rfl rfl rfl rfl rfl ?_
  refine ⟨_, rfl, rfl, fun a1 => ?_, fun a1 => ?_⟩
  · have a1 : inR p 0 (rE I 29 1 - 1) := a1
    refine x_if_ne (tgt := 11) dR_flee_5 (by decide) (fun _ => ?_) (fun h => absurd h (by decide))
    rw [fleeS, if_neg (not_not_intro a1)] at h1
    rw [show rE I 29 1 = nI (pN (rE I)) from hok.a.1] at a1
    obtain ⟨j, hj, rfl⟩ := has_nat (by omega) a1
    rw [cl_nI (by omega)] at h1
    refine x_iload_n dR_flee_11 rfl ?_
    refine x_iconst (v := 0) dR_flee_12 rfl ?_
    refine x_iconst (v := 1) dR_flee_13 rfl ?_
    -- at 14: .invokestatic 151
    refine x_callS_3 c_R_in ok_R_in ml_R_151 dR_flee_14 rfl rfl ?_
    refine ⟨_, _, _, rfl, fun a2 => ?_, fun a2 => ?_⟩
    · have a2 : inR w 0 1 := a2
      refine x_if_ne (tgt := 23) dR_flee_17 (by decide) (fun _ => ?_) (fun h => absurd h (by decide))
      rw [if_neg (not_not_intro a2)] at h1
      refine x_aload_n dR_flee_23 rfl ?_
      refine x_iload_n dR_flee_24 rfl ?_
      refine x_iconst (v := 0) dR_flee_25 rfl ?_
      -- at 26: .invokevirtual 335
      refine x_callV_2 c_R_goesTo ok_R_goesTo ml_R_335 dR_flee_26 rfl rfl rfl rfl rfl ?_
      refine ⟨j, 0, rfl, rfl, ⟨hok, own⟩, hj, fun I2 L2 hF2 => ?_⟩
      have sm := rSame.of own hF2
      refine x_eqi (y := nI (leR (totE (rE I) j) 5)) (congrArg nI (goesV_0 (rE I) j 5)) ?_
      refine x_istoren_3 dR_flee_29 rfl rfl ?_
      refine x_iload_n dR_flee_30 rfl ?_
      -- at 31: .ifCond .ne 7
      refine x_if_ne (tgt := 38) dR_flee_31 (by decide) (fun w0 => ?_) (fun w0 => ?_)
      · rw [if_neg w0] at h1
        refine x_aload_n dR_flee_38 rfl ?_
        refine x_iload_n dR_flee_39 rfl ?_
        refine x_iload_n dR_flee_40 rfl ?_
        -- at 41: .invokevirtual 332
        refine x_callV_2 c_R_owedAt ok_R_owedAt ml_R_332 dR_flee_41 rfl rfl rfl rfl rfl ?_
        refine ⟨j, _, rfl, rfl, ⟨sm.inv hok, sm.2.2⟩, by rw [sm.2.1]; exact hj, rng1_of (leR_le _ _), fun I3 L3 hF3 => ?_⟩
        refine x_ireturn dR_flee_44 rfl rfl ?_
        rw [sm.2.1, totW_nI]
        exact h1 (sm.fr (hF3.wk (by decide)))
      · rw [if_pos w0] at h1
        refine x_iload_n dR_flee_34 rfl ?_
        refine x_goto (tgt := 44) dR_flee_35 (by decide) ?_
        -- at 44: .ireturn
        refine x_ireturn dR_flee_44 rfl rfl ?_
        exact h1 sm
    · have a2 : ¬ inR w 0 1 := a2
      refine x_if_ne (tgt := 23) dR_flee_17 (by decide) (fun h => absurd (by decide) h) (fun _ => ?_)
      rw [if_pos a2] at h1
      refine x_bipush (v := -7) dR_flee_20 rfl ?_
      -- at 22: .ireturn
      refine x_ireturn dR_flee_22 rfl rfl ?_
      exact h1 (rSame.refl own)
  · have a1 : ¬ inR p 0 (rE I 29 1 - 1) := a1
    refine x_if_ne (tgt := 11) dR_flee_5 (by decide) (fun h => absurd (by decide) h) (fun _ => ?_)
    rw [fleeS, if_pos a1] at h1
    refine x_bipush (v := -5) dR_flee_8 rfl ?_
    -- at 10: .ireturn
    refine x_ireturn dR_flee_10 rfl rfl ?_
    exact h1 (rSame.refl own)
def sp_R_send : SpT := fun as S I L Post => ∃ p w : Int32, rSp [.int p, .int w] (fun E => .int (sendS E p w)) (fun E => E) as S I L Post
set_option maxHeartbeats 4000000 in
set_option maxRecDepth 100000 in
theorem c_R_send : Con mR_send 11 0 0 sp_R_send := by
  refine con_of_X rfl fun G as S I L Post hs => ?_
  obtain ⟨p, w, rfl, rfl, ⟨hok, own⟩, h1⟩ := hs
  dsimp only at h1
  have h1 := r_end h1
  refine ⟨1, Nat.le_of_ble_eq_true rfl, ?_⟩
  show X mR_send G _ S1 I L 0 [.ref 59, .int p, .int w, .null] [] Post
  have n1 := hok.a.2.1
  refine x_aload_n dR_send_0 rfl ?_
  refine x_iload_n dR_send_1 rfl ?_
  -- at 2: .invokevirtual 230
  refine x_callV_1 c_R_isOne ok_R_isOne ml_R_230 dR_send_2 rfl rfl rfl rfl rfl ?_
  refine ⟨_, rfl, rfl, fun a1 => ?_, fun a1 => ?_⟩
  · have a1 : inR p 0 (rE I 29 1 - 1) := a1
    refine x_if_ne (tgt := 11) dR_send_5 (by decide) (fun _ => ?_) (fun h => absurd h (by decide))
    rw [sendS, if_neg (not_not_intro a1)] at h1
    rw [show rE I 29 1 = nI (pN (rE I)) from hok.a.1] at a1
    obtain ⟨j, hj, rfl⟩ := has_nat (by omega) a1
    rw [cl_nI (by omega)] at h1
    refine x_iload_n dR_send_11 rfl ?_
    refine x_iconst (v := 0) dR_send_12 rfl ?_
    refine x_iconst (v := 1) dR_send_13 rfl ?_
    -- at 14: .invokestatic 151
    refine x_callS_3 c_R_in ok_R_in ml_R_151 dR_send_14 rfl rfl ?_
    refine ⟨_, _, _, rfl, fun a2 => ?_, fun a2 => ?_⟩
    · have a2 : inR w 0 1 := a2
      refine x_if_ne (tgt := 23) dR_send_17 (by decide) (fun _ => ?_) (fun h => absurd h (by decide))
      rw [if_neg (not_not_intro a2)] at h1
      refine x_aload_n dR_send_23 rfl ?_
      refine x_iload_n dR_send_24 rfl ?_
      refine x_iconst (v := 1) dR_send_25 rfl ?_
      -- at 26: .invokevirtual 335
      refine x_callV_2 c_R_goesTo ok_R_goesTo ml_R_335 dR_send_26 rfl rfl rfl rfl rfl ?_
      refine ⟨j, 1, rfl, rfl, ⟨hok, own⟩, hj, fun I2 L2 hF2 => ?_⟩
      have sm := rSame.of own hF2
      refine x_eqi (y := nI (moR (totE (rE I) j) 5)) (congrArg nI (goesV_1 (rE I) j 5)) ?_
      refine x_istoren_3 dR_send_29 rfl rfl ?_
      refine x_iload_n dR_send_30 rfl ?_
      -- at 31: .ifCond .ne 7
      refine x_if_ne (tgt := 38) dR_send_31 (by decide) (fun w0 => ?_) (fun w0 => ?_)
      · rw [if_neg w0] at h1
        refine x_aload_n dR_send_38 rfl ?_
        refine x_iload_n dR_send_39 rfl ?_
        refine x_iload_n dR_send_40 rfl ?_
        -- at 41: .invokevirtual 332
        refine x_callV_2 c_R_owedAt ok_R_owedAt ml_R_332 dR_send_41 rfl rfl rfl rfl rfl ?_
        refine ⟨j, _, rfl, rfl, ⟨sm.inv hok, sm.2.2⟩, by rw [sm.2.1]; exact hj, rng1_of (moR_le _ _), fun I3 L3 hF3 => ?_⟩
        refine x_ireturn dR_send_44 rfl rfl ?_
        rw [sm.2.1, totW_nI]
        exact h1 (sm.fr (hF3.wk (by decide)))
      · rw [if_pos w0] at h1
        refine x_iload_n dR_send_34 rfl ?_
        refine x_goto (tgt := 44) dR_send_35 (by decide) ?_
        -- at 44: .ireturn
        refine x_ireturn dR_send_44 rfl rfl ?_
        exact h1 sm
    · have a2 : ¬ inR w 0 1 := a2
      refine x_if_ne (tgt := 23) dR_send_17 (by decide) (fun h => absurd (by decide) h) (fun _ => ?_)
      rw [if_pos a2] at h1
      refine x_bipush (v := -7) dR_send_20 rfl ?_
      -- at 22: .ireturn
      refine x_ireturn dR_send_22 rfl rfl ?_
      exact h1 (rSame.refl own)
  · have a1 : ¬ inR p 0 (rE I 29 1 - 1) := a1
    refine x_if_ne (tgt := 11) dR_send_5 (by decide) (fun h => absurd (by decide) h) (fun _ => ?_)
    rw [sendS, if_pos a1] at h1
    refine x_bipush (v := -5) dR_send_8 rfl ?_
    -- at 10: .ireturn
    refine x_ireturn dR_send_10 rfl rfl ?_
    exact h1 (rSame.refl own)
/-! as if one had moved to where one is -/
theorem maxR_rows {V V' : IM} {D : Nat → Int32} {w : Int32} (h : V 14 = V' 14) : ∀ m : Nat, maxR V D w m = maxR V' D w m := by
  intro m
  induction m with
  | zero => rfl
  | succ k ih => rw [maxR, maxR, ih, h]
theorem strR_rows {V V' : IM} (h : V 13 = V' 13) (o : Nat → Int32) : ∀ m : Nat, strR V o m = strR V' o m := by
  intro m
  induction m with
  | zero => rfl
  | succ k ih => rw [strR, strR, ih, strS, strS, h]
theorem tot_start {E : IM} {P : Nat → List Int32} {n nq m p : Nat} {a b : Int32} (h : startV (mvV E p a) p = startV (mvV E p b) p) : totU E P n nq m p a = totU E P n nq m p b := by
  have hr : ∀ k, k ≠ 9 → mvV E p a k = mvV E p b k := fun k hk => by
    unfold mvV
    rw [up2_n _ _ _ hk, up2_n _ _ _ hk]
  have hh : ∀ s i, hearV (mvV E p a) P s i = hearV (mvV E p b) P s i := fun s i => by
    by_cases e : i = p
    · subst e
      unfold hearV farV whereV
      rw [h, hr 0 (by omega), hr 1 (by omega), hr 2 (by omega), hr 4 (by omega), hr 5 (by omega), hr 15 (by omega), hr 16 (by omega), hr 17 (by omega)]
    · rw [hear_mv E P p a e s, hear_mv E P p b e s]
  have hC : CC (mvV E p a) P n = CC (mvV E p b) P n := by
    funext s
    unfold CC clF
    simp only [hh]
  have hD : DD (mvV E p a) P (CC (mvV E p a) P n) p = DD (mvV E p b) P (CC (mvV E p b) P n) p := by
    funext s
    unfold DD shareV canV
    rw [hC, hr 2 (by omega), hr 6 (by omega), hr 10 (by omega), hr 11 (by omega), hr 14 (by omega), hr 17 (by omega)]
  unfold totU tot1 fin1
  rw [hD, maxR_rows (hr 14 (by omega)), strR_rows (hr 13 (by omega)), hr 8 (by omega)]
theorem tot_here {E : IM} (h : Inv E) {p : Nat} (hp : p < pN E) : totW E p (E 9 p) = totE E p (cl (startV E p)) := by
  obtain ⟨b, hb, eb⟩ := start_nat h hp
  unfold totW totE
  rw [eb, cl_nI (by omega)]
  refine tot_start ?_
  unfold startV at eb ⊢
  unfold mvV
  rw [up2_s, up2_s, up1_s, up1_s, up2_n _ _ _ (by decide), up2_n _ _ _ (by decide)]
  by_cases e : E 9 p = -1
  · rw [if_pos e] at eb ⊢
    rw [eb]
    split <;> rfl
  · rw [if_neg e] at eb ⊢
    rw [eb] at e ⊢
    rw [if_neg e]
/-! rounds, and one after another till all stay -/
def rrS (K n : Nat) (t : Nat) (E : IM) (d p : Nat) : IM × Nat := match t with
  | 0 => (E, d)
  | t + 1 => if d < K ∧ goB E p then rrS K n t (goU E p) (d + 1) ((p + 1) % n) else rrS K n t E d ((p + 1) % n)
theorem rr_fix {K n : Nat} {E : IM} {d : Nat} (h : ¬ d < K ∨ ∀ q, q < n → ¬ goB E q) : ∀ t p, p < n → rrS K n t E d p = (E, d) := by
  intro t
  induction t with
  | zero => intro p _; rfl
  | succ k ih =>
    intro p hp
    rw [rrS, if_neg (fun z => h.elim (fun y => y z.1) (fun y => y p hp z.2))]
    exact ih _ (Nat.mod_lt _ (by omega))
theorem rsI_full {K k p : Nat} {E : IM} {d : Nat} (h : ¬ d < K) : rsI K k p E d = (E, d) := by
  cases k with
  | zero => rfl
  | succ j => rw [rsI, if_neg h]
theorem rsI_rr (K n t : Nat) : ∀ (k p : Nat) (E : IM) (d : Nat), p + (k + 1) = n → rrS K n (k + 1 + t) E d p = rrS K n t (rsI K (k + 1) p E d).1 (rsI K (k + 1) p E d).2 0 := by
  intro k
  induction k with
  | zero =>
    intro p E d hp
    rw [show 0 + 1 + t = t + 1 by omega, rrS, rsI, show (p + 1) % n = 0 by rw [show p + 1 = n by omega]; exact Nat.mod_self n]
    by_cases h1 : d < K
    · by_cases h2 : goB E p
      · rw [if_pos ⟨h1, h2⟩, if_pos h1, if_pos h2]; rfl
      · rw [if_neg (fun z => h2 z.2), if_pos h1, if_neg h2]; rfl
    · rw [if_neg (fun z => h1 z.1), if_neg h1]
  | succ k ih =>
    intro p E d hp
    rw [show k + 1 + 1 + t = (k + 1 + t) + 1 by omega, rrS, rsI, Nat.mod_eq_of_lt (show p + 1 < n by omega)]
    by_cases h1 : d < K
    · by_cases h2 : goB E p
      · rw [if_pos ⟨h1, h2⟩, if_pos h1, if_pos h2]; exact ih _ _ _ (by omega)
      · rw [if_neg (fun z => h2 z.2), if_pos h1, if_neg h2]; exact ih _ _ _ (by omega)
    · rw [if_neg (fun z => h1 z.1), if_neg h1, ih _ _ _ (by omega), rsI_full h1]
theorem rsI_ge (K : Nat) : ∀ (k p : Nat) (E : IM) (d : Nat), d ≤ (rsI K k p E d).2 := by
  intro k
  induction k with
  | zero => intro p E d; exact Nat.le_refl _
  | succ j ih =>
    intro p E d
    rw [rsI]
    split
    · split
      · exact Nat.le_trans (Nat.le_succ d) (ih _ _ _)
      · exact ih _ _ _
    · exact Nat.le_refl _
theorem rsI_no (K : Nat) : ∀ (k p : Nat) (E : IM) (d : Nat), (rsI K k p E d).2 = d → rsI K k p E d = (E, d) ∧ (¬ d < K ∨ ∀ q, p ≤ q → q < p + k → ¬ goB E q) := by
  intro k
  induction k with
  | zero => intro p E d _; exact ⟨rfl, Or.inr fun q h1 h2 => by omega⟩
  | succ j ih =>
    intro p E d h
    rw [rsI] at h ⊢
    by_cases h1 : d < K
    · rw [if_pos h1] at h ⊢
      by_cases h2 : goB E p
      · rw [if_pos h2] at h
        have := rsI_ge K j (p + 1) (goU E p) (d + 1)
        omega
      · rw [if_neg h2] at h ⊢
        obtain ⟨e1, e2⟩ := ih _ _ _ h
        refine ⟨e1, e2.imp id fun y q q1 q2 => ?_⟩
        by_cases e : q = p
        · rw [e]; exact h2
        · exact y q (by omega) (by omega)
    · rw [if_neg h1]
      exact ⟨rfl, Or.inl h1⟩
theorem rsO_rr {K : Nat} (hK : K ≤ 6) : ∀ (j : Nat) (E : IM) (d : Nat), d ≤ K → 7 ≤ d + j → 0 < pN E → ∃ T, ∀ t, T ≤ t → rrS K (pN E) t E d 0 = rsO K j E d := by
  intro j
  induction j with
  | zero => intro E d h1 h2 _; omega
  | succ j ih =>
    intro E d h1 h2 hn
    rw [rsO]
    by_cases h : (rsI K (pN E) 0 E d).2 = d
    · rw [if_pos h]
      obtain ⟨e1, e2⟩ := rsI_no K _ _ _ _ h
      refine ⟨0, fun t _ => ?_⟩
      rw [e1]
      exact rr_fix (e2.imp id fun y q hq => y q (by omega) (by omega)) t 0 hn
    · rw [if_neg h]
      have hge := rsI_ge K (pN E) 0 E d
      have hle := rsI_le K (pN E) 0 E d h1
      have hp := rsI_pN K (pN E) 0 E d
      obtain ⟨T, hT⟩ := ih (rsI K (pN E) 0 E d).1 (rsI K (pN E) 0 E d).2 hle (by omega) (by rw [hp]; exact hn)
      rw [hp] at hT
      refine ⟨pN E + T, fun t ht => ?_⟩
      obtain ⟨k, hk⟩ : ∃ k, pN E = k + 1 := ⟨pN E - 1, by omega⟩
      have e := rsI_rr K (pN E) (t - pN E) k 0 E d (by omega)
      rw [← hk, show pN E + (t - pN E) = t by omega] at e
      rw [e]
      exact hT _ (by omega)
/-- of the last s of PEOPLE asked, none went -/
def rrI (n s p : Nat) (E : IM) : Prop := ∀ q, q < n → ((q < p ∧ p ≤ q + s) ∨ (p ≤ q ∧ p + n ≤ q + s)) → ¬ goB E q
def sp_R_rest : SpT := fun as S I L Post => ∃ k : Int32, rSp [.int k] (fun E => .int (restS E k)) (fun E => restU E k) as S I L Post
set_option maxHeartbeats 4000000 in
set_option maxRecDepth 100000 in
theorem c_R_rest : Con mR_rest 11 0 0 sp_R_rest := by
  refine con_of_X rfl fun G as S I L Post hs => ?_
  obtain ⟨k, rfl, rfl, ⟨hok, own⟩, h1⟩ := hs
  dsimp only at h1
  refine ⟨4, Nat.le_of_ble_eq_true rfl, ?_⟩
  show X mR_rest G _ S1 I L 0 [.ref 59, .int k, .null, .null, .null, .null] [] Post
  have n1 := hok.a.2.1
  refine x_iload_n dR_rest_0 rfl ?_
  refine x_iconst (v := 0) dR_rest_1 rfl ?_
  refine x_bipush (v := 6) dR_rest_2 rfl ?_
  -- at 4: .invokestatic 151
  refine x_callS_3 c_R_in ok_R_in ml_R_151 dR_rest_4 rfl rfl ?_
  refine ⟨_, _, _, rfl, fun a1 => ?_, fun a1 => ?_⟩
  · have a1 : inR k 0 6 := a1
    refine x_if_ne (tgt := 13) dR_rest_7 (by decide) (fun _ => ?_) (fun h => absurd h (by decide))
    rw [restS, restU, if_neg (not_not_intro a1), if_neg (not_not_intro a1)] at h1
    obtain ⟨K, hK, rfl⟩ := inR_of (n := 6) (by decide) a1
    rw [restF, cl_nI (by omega)] at h1
    have eout : (pN (rE I) = 0 ∧ rsO K 7 (rE I) 0 = (rE I, 0)) ∨ (0 < pN (rE I) ∧ ∃ T, ∀ t, T ≤ t → rrS K (pN (rE I)) t (rE I) 0 0 = rsO K 7 (rE I) 0) := by
      by_cases h0 : pN (rE I) = 0
      · refine Or.inl ⟨h0, ?_⟩
        rw [rsO, h0]
        rfl
      · exact Or.inr ⟨by omega, rsO_rr hK 7 (rE I) 0 (by omega) (by omega) (by omega)⟩
    generalize rsO K 7 (rE I) 0 = F at h1 eout
    refine x_iconst (v := 0) dR_rest_13 rfl ?_
    refine x_istoren_2 dR_rest_14 rfl rfl ?_
    refine x_iconst (v := 0) dR_rest_15 rfl ?_
    refine x_istoren_3 dR_rest_16 rfl rfl ?_
    refine x_iconst (v := 0) dR_rest_17 rfl ?_
    refine x_istore_4 dR_rest_18 rfl rfl ?_
    -- at 20: .iload_n 2
    have fin : ∀ (I' : IM) (L' : LM) (d : Nat) (a3 a4 a5 : Value), (∀ k, k < 59 → I' k = I k) → rOwn I' → F = (rE I', d) → X mR_rest G (11, 0, 0) S1 I' L' 100 [.ref 59, .int (nI K), .int (nI d), a3, a4, a5] [] Post := by
      intro I' L' d a3 a4 a5 f1 f2 hf
      rw [hf] at h1
      refine x_iload_n dR_rest_100 rfl ?_
      -- at 101: .ireturn
      refine x_ireturn dR_rest_101 rfl rfl ?_
      exact h1 I' L' f1 f2 rfl
    have loop : ∀ (z : Nat) (I' : IM) (L' : LM) (d s p : Nat) (a5 : Value), (K - d) * (pN (rE I) + 1) + (pN (rE I) - s) ≤ z → cat1at [a5] 1 = true → (∀ k, k < 59 → I' k = I k) → rOwn I' → Inv (rE I') → pN (rE I') = pN (rE I) → d ≤ K → s ≤ pN (rE I) → p < pN (rE I) → rrI (pN (rE I)) s p (rE I') → (∃ T, ∀ t, T ≤ t → rrS K (pN (rE I)) t (rE I') d p = F) →
        X mR_rest G (11, 0, 0) S1 I' L' 20 [.ref 59, .int (nI K), .int (nI d), .int (nI s), .int (nI p), a5] [] Post := by
      intro z
      induction z with
      | zero =>
        intro I' L' d s p a5 hz h5 f1 f2 hok' hpn hd hs hp hi hT
        have hd2 : d = K := by
          by_cases e : d = K
          · exact e
          · have : 1 * (pN (rE I) + 1) ≤ (K - d) * (pN (rE I) + 1) := Nat.mul_le_mul_right _ (by omega)
            omega
        obtain ⟨T, hT⟩ := hT
        have e := hT T (Nat.le_refl _)
        rw [rr_fix (Or.inl (by omega)) T p hp] at e
        refine x_iload_n dR_rest_20 rfl ?_
        refine x_iload_n dR_rest_21 rfl ?_
        -- at 22: .if_icmp .ge 78
        refine x_icmp_ge (tgt := 100) dR_rest_22 (by decide) (fun _ => ?_) (fun h => absurd (by rw [hd2]; exact Int32.le_refl _) h)
        exact fin I' L' d _ _ _ f1 f2 e.symm
      | succ z ih =>
        intro I' L' d s p a5 hz h5 f1 f2 hok' hpn hd hs hp hi hT
        by_cases hd2 : d = K
        · obtain ⟨T, hT⟩ := hT
          have e := hT T (Nat.le_refl _)
          rw [rr_fix (Or.inl (by omega)) T p hp] at e
          refine x_iload_n dR_rest_20 rfl ?_
          refine x_iload_n dR_rest_21 rfl ?_
          -- at 22: .if_icmp .ge 78
          refine x_icmp_ge (tgt := 100) dR_rest_22 (by decide) (fun _ => ?_) (fun h => absurd (by rw [hd2]; exact Int32.le_refl _) h)
          exact fin I' L' d _ _ _ f1 f2 e.symm
        refine x_iload_n dR_rest_20 rfl ?_
        refine x_iload_n dR_rest_21 rfl ?_
        -- at 22: .if_icmp .ge 78
        refine x_icmp_ge (tgt := 100) dR_rest_22 (by decide) (fun h => absurd h (nI_ge (by omega) (by omega))) (fun _ => ?_)
        refine x_iload_n dR_rest_25 rfl ?_
        refine x_aload_n dR_rest_26 rfl ?_
        refine x_getI fl_R_148 rfl dR_rest_27 rfl rfl ?_
        -- at 30: .if_icmp .ge 70
        rw [show I' 59 3 = nI (pN (rE I)) by rw [← hpn]; exact hok'.a.1]
        by_cases hs2 : s = pN (rE I)
        · obtain ⟨T, hT⟩ := hT
          have e := hT T (Nat.le_refl _)
          rw [rr_fix (Or.inr (fun q hq => hi q hq (by omega))) T p hp] at e
          refine x_icmp_ge (tgt := 100) dR_rest_30 (by decide) (fun _ => ?_) (fun h => absurd (by rw [hs2]; exact Int32.le_refl _) h)
          exact fin I' L' d _ _ _ f1 f2 e.symm
        refine x_icmp_ge (tgt := 100) dR_rest_30 (by decide) (fun h => absurd h (nI_ge (by omega) (by omega))) (fun _ => ?_)
        refine x_aload_n dR_rest_33 rfl ?_
        refine x_iload dR_rest_34 rfl ?_
        refine x_iconst (v := 0) dR_rest_36 rfl ?_
        -- at 37: .invokevirtual 335
        refine x_callV_2 c_R_goesTo ok_R_goesTo ml_R_335 dR_rest_37 rfl rfl rfl rfl rfl ?_
        refine ⟨p, 0, rfl, rfl, ⟨hok', f2⟩, by rw [hpn]; exact hp, fun I1 L1 hF1 => ?_⟩
        have sm1 := rSame.of f2 hF1
        refine x_eqi (y := nI (goE (rE I') p)) (congrArg nI (goesV_0 (rE I') p 5)) ?_
        have hle : goE (rE I') p ≤ 5 := leR_le _ _
        refine x_istore_5 dR_rest_40 rfl rfl ?_
        refine x_aload_n dR_rest_42 rfl ?_
        refine x_iload dR_rest_43 rfl ?_
        refine x_iload dR_rest_45 rfl ?_
        -- at 47: .invokevirtual 332
        refine x_callV_2 c_R_owedAt ok_R_owedAt ml_R_332 dR_rest_47 rfl rfl rfl rfl rfl ?_
        refine ⟨p, _, rfl, rfl, ⟨sm1.inv hok', sm1.2.2⟩, by rw [sm1.2.1, hpn]; exact hp, rng1_of hle, fun I2 L2 hF2 => ?_⟩
        have sm2 := sm1.tr (rSame.of sm1.2.2 hF2)
        refine x_eqi (y := totE (rE I') p (goE (rE I') p)) (by rw [sm1.2.1, totW_nI]) ?_
        refine x_aload_n dR_rest_50 rfl ?_
        refine x_iload dR_rest_51 rfl ?_
        refine x_aload_n dR_rest_53 rfl ?_
        refine x_getR fl_R_41 rfl dR_rest_54 rfl rfl rfl ?_
        refine x_iload dR_rest_57 rfl ?_
        refine x_ialdJ (j := p) dR_rest_59 rfl rfl (by first | rfl | (simp only [← nI_add, ← pk_mul]; rfl)) (by omega) ?_
        -- at 60: .invokevirtual 332
        have e9 : I2 69 p = rE I' 9 p := by
          rw [hF2 69 (by decide), hF1 69 (by decide)]
          exact (mk_lt (by have : pN (rE I') = cl (I' 59 3) := rfl; omega)).symm
        rw [e9]
        refine x_callV_2 c_R_owedAt ok_R_owedAt ml_R_332 dR_rest_60 rfl rfl rfl rfl rfl ?_
        refine ⟨p, _, rfl, rfl, ⟨sm2.inv hok', sm2.2.2⟩, by rw [sm2.2.1, hpn]; exact hp, (hok'.a.2.2 p (by omega)).2.2.2.2.2.2.2, fun I3 L3 hF3 => ?_⟩
        have sm3 := sm2.tr (rSame.of sm2.2.2 hF3)
        refine x_eqi (y := totE (rE I') p (cl (startV (rE I') p))) (by rw [sm2.2.1]; exact tot_here hok' (by omega)) ?_
        have nx : ∀ (I4 : IM) (L4 : LM) (d2 s2 : Nat), (K - d2) * (pN (rE I) + 1) + (pN (rE I) - s2) ≤ z → (∀ k, k < 59 → I4 k = I k) → rOwn I4 → Inv (rE I4) → pN (rE I4) = pN (rE I) → d2 ≤ K → s2 ≤ pN (rE I) → rrI (pN (rE I)) s2 ((p + 1) % pN (rE I)) (rE I4) → (∃ T, ∀ t, T ≤ t → rrS K (pN (rE I)) t (rE I4) d2 ((p + 1) % pN (rE I)) = F) → ∀ x : Int32,
            X mR_rest G (11, 0, 0) S1 I4 L4 86 [.ref 59, .int (nI K), .int (nI d2), .int (nI s2), .int (nI p), .int x] [] Post := by
          intro I4 L4 d2 s2 z2 g1 g2 g3 g4 g5 g6 g7 g8 x
          refine x_iload dR_rest_86 rfl ?_
          refine x_iconst (v := 1) dR_rest_88 rfl ?_
          refine x_iadd dR_rest_89 ?_
          refine x_aload_n dR_rest_90 rfl ?_
          refine x_getI fl_R_148 rfl dR_rest_91 rfl rfl ?_
          -- at 94: .irem
          rw [show I4 59 3 = nI (pN (rE I)) by rw [← g4]; exact g3.a.1, nI_1]
          have en0 : ¬ nI (pN (rE I)) = 0 := fun y => by
            have := (nI_ltI (a := 0) (b := pN (rE I)) (by omega) (by omega)).mpr (by omega)
            rw [y] at this
            exact absurd this (by decide)
          refine x_irem dR_rest_94 en0 ?_
          -- at 95: .istore 4
          refine x_eqi (y := nI ((p + 1) % pN (rE I))) (pk_rem (by omega) (by omega) (by omega)) ?_
          refine x_istore_4 dR_rest_95 rfl rfl ?_
          refine x_goto (tgt := 20) dR_rest_97 (by decide) ?_
          -- at 20: .iload_n 2
          exact ih I4 L4 d2 s2 _ _ z2 rfl g1 g2 g3 g4 g5 g6 (Nat.mod_lt _ (by omega)) g7 g8
        have mods : (p + 1 < pN (rE I) ∧ (p + 1) % pN (rE I) = p + 1) ∨ (p + 1 = pN (rE I) ∧ (p + 1) % pN (rE I) = 0) := by
          by_cases e : p + 1 < pN (rE I)
          · exact Or.inl ⟨e, Nat.mod_eq_of_lt e⟩
          · have e2 : p + 1 = pN (rE I) := by omega
            exact Or.inr ⟨e2, by rw [e2]; exact Nat.mod_self _⟩
        obtain ⟨T, hT⟩ := hT
        have hT' : ∀ t, T ≤ t → (if d < K ∧ goB (rE I') p then rrS K (pN (rE I)) t (goU (rE I') p) (d + 1) ((p + 1) % pN (rE I)) else rrS K (pN (rE I)) t (rE I') d ((p + 1) % pN (rE I))) = F := fun t ht => by
          have := hT (t + 1) (by omega)
          rw [rrS] at this
          exact this
        refine x_icmp_ge (tgt := 83) dR_rest_63 (by decide) (fun c1 => ?_) (fun c1 => ?_)
        · have ng : ¬ goB (rE I') p := Int32.not_lt.mpr c1
          refine x_iincp_3 dR_rest_83 rfl rfl ?_
          -- at 86: .iload 4
          rw [nI_1]
          refine nx I3 L3 d (s + 1) (by omega) (fun k hk => (sm3.1 k hk).trans (f1 k hk)) sm3.2.2 (sm3.inv hok') (by rw [sm3.2.1]; exact hpn) hd (by omega) ?_ ⟨T, fun t ht => ?_⟩ _
          · rw [sm3.2.1]
            intro q hq hc
            by_cases e : q = p
            · rw [e]; exact ng
            · refine hi q hq ?_
              rcases mods with ⟨m1, m2⟩ | ⟨m1, m2⟩ <;> rw [m2] at hc <;> omega
          · have := hT' t ht
            rw [if_neg (fun y => ng y.2)] at this
            rw [sm3.2.1]
            exact this
        · have yg : goB (rE I') p := Int32.not_le.mp c1
          refine x_aload_n dR_rest_66 rfl ?_
          refine x_getR fl_R_41 rfl dR_rest_67 rfl rfl rfl ?_
          refine x_iload dR_rest_70 rfl ?_
          refine x_iload dR_rest_72 rfl ?_
          refine x_iastJ (j := p) dR_rest_74 rfl rfl (by first | rfl | (simp only [← nI_add, ← pk_mul]; rfl)) (by omega) ?_
          -- at 75: .iinc 2 1
          refine x_iincp_2 dR_rest_75 rfl rfl ?_
          refine x_iconst (v := 0) dR_rest_78 rfl ?_
          refine x_istoren_3 dR_rest_79 rfl rfl ?_
          refine x_goto (tgt := 86) dR_rest_80 (by decide) ?_
          -- at 86: .iload 4
          rw [nI_1]
          have e4 : rE (up2 I3 69 p (nI (goE (rE I') p))) = goU (rE I') p := by
            rw [rE_u9 I3 _ (by have : pN (rE I3) = cl (I3 59 3) := rfl; rw [← this, sm3.2.1]; omega), sm3.2.1]
            rfl
          refine nx _ L3 (d + 1) 0 ?_ (fun k hk => by rw [up2_n _ _ _ (by omega)]; exact (sm3.1 k hk).trans (f1 k hk)) (sm3.2.2.up (by decide) (Or.inl (by decide))) (by rw [e4]; exact Inv_mv hok' p (by omega)) (by rw [e4, pN_go]; exact hpn) (by omega) (Nat.zero_le _) ?_ ⟨T, fun t ht => ?_⟩ _
          · have hm : (K - d) * (pN (rE I) + 1) = (K - (d + 1)) * (pN (rE I) + 1) + (pN (rE I) + 1) := by
              rw [← Nat.succ_mul, show (K - (d + 1)).succ = K - d by omega]
            omega
          · intro q hq hc
            omega
          · have := hT' t ht
            rw [if_pos ⟨by omega, yg⟩] at this
            rw [e4]
            exact this
    rcases eout with ⟨h0, hf⟩ | ⟨h0, hT⟩
    · refine x_iload_n dR_rest_20 rfl ?_
      refine x_iload_n dR_rest_21 rfl ?_
      -- at 22: .if_icmp .ge 78
      by_cases hK0 : K = 0
      · subst hK0
        refine x_icmp_ge (tgt := 100) dR_rest_22 (by decide) (fun _ => ?_) (fun h => absurd (by decide) h)
        exact fin I L 0 _ _ _ (fun _ _ => rfl) own hf
      · refine x_icmp_ge (tgt := 100) dR_rest_22 (by decide) (fun h => absurd h (nI_ge (a := 0) (by omega) (by omega))) (fun _ => ?_)
        refine x_iload_n dR_rest_25 rfl ?_
        refine x_aload_n dR_rest_26 rfl ?_
        refine x_getI fl_R_148 rfl dR_rest_27 rfl rfl ?_
        -- at 30: .if_icmp .ge 70
        rw [show I 59 3 = nI (pN (rE I)) from hok.a.1, h0]
        refine x_icmp_ge (tgt := 100) dR_rest_30 (by decide) (fun _ => ?_) (fun h => absurd (by decide) h)
        exact fin I L 0 _ _ _ (fun _ _ => rfl) own hf
    · refine loop _ I L 0 0 0 .null (Nat.le_refl _) rfl (fun _ _ => rfl) own hok rfl (by omega) (by omega) h0 (fun q hq hc => ?_) hT
      omega
  · have a1 : ¬ inR k 0 6 := a1
    refine x_if_ne (tgt := 13) dR_rest_7 (by decide) (fun h => absurd (by decide) h) (fun _ => ?_)
    rw [restS, restU, if_pos a1, if_pos a1] at h1
    refine x_bipush (v := -2) dR_rest_10 rfl ?_
    -- at 12: .ireturn
    refine x_ireturn dR_rest_12 rfl rfl ?_
    exact h1 I L (fun _ _ => rfl) own rfl
