/-! the class's calls: spare -/
def RW (E : IM) (t : Nat) (w : Int32) : Nat → Nat → Int32 := RE E (prog E t) (CE E t) w (sN E)
def keptA (E : IM) : Int32 := keptV E (pN E) (qN E) (RT E (wN E))
def keptW (E : IM) (s : Nat) : Int32 := keptV E (pN E) (qN E) (RW E (wN E) (nI s))
def spareB (E : IM) (s : Nat) : Bool := decide (keptA E &&& (keptW E s ^^^ (-1)) = 0)
def spareS (E : IM) : Int32 := bs (sN E) (spareB E)
def sp_W_spare : SpT := cSp [] (fun E => .int (spareS E)) (fun E => E)
set_option maxHeartbeats 4000000 in
set_option maxRecDepth 100000 in
theorem c_W_spare : Con mW_spare 8 0 0 sp_W_spare := by
  refine con_of_X rfl fun G as S I0 L Post hs => ?_
  obtain ⟨rfl, rfl, hok, h1⟩ := hs
  dsimp only at h1
  refine ⟨3, Nat.le_of_ble_eq_true rfl, ?_⟩
  show X mW_spare G _ S1 I0 L 0 [.ref 0, .null, .null, .null] [] Post
  obtain ⟨v1, v2, -⟩ := hok.vow
  obtain ⟨c1, c2, -⟩ := hok.ppl
  obtain ⟨b1, b2, b3⟩ := hok.say
  obtain ⟨l1, l2⟩ := hok.law
  refine x_aload_n dW_spare_0 rfl ?_
  refine x_getR fl_W_56 rfl dW_spare_1 rfl rfl rfl ?_
  refine x_aload_n dW_spare_4 rfl ?_
  refine x_getR fl_W_47 rfl dW_spare_5 rfl rfl rfl ?_
  refine x_getI fl_W_127 rfl dW_spare_8 rfl rfl ?_
  -- at 11: .invokevirtual 213
  rw [l1]
  refine x_callV_1 cE_reckon ok_Ledger_reckon ml_W_213 dW_spare_11 rfl rfl rfl rfl rfl ?_
  refine ⟨_, rfl, rfl, hok, l2, fun I1 hF1 hl hrk ho1 => ?_⟩
  have hcv : cV I1 = cV I0 := cV_k hF1
  refine x_aload_n dW_spare_14 rfl ?_
  refine x_getR fl_W_56 rfl dW_spare_15 rfl rfl rfl ?_
  -- at 18: .invokevirtual 254
  refine x_callV_0 c_Ledger_keptBits ok_Ledger_keptBits ml_W_254 dW_spare_18 rfl rfl rfl rfl rfl ?_
  refine ⟨_, qN (cE I0), _, rfl, rfl, ho1.rows hok hF1, by rw [hF1 13 (by decide)]; exact v1, v2, ?_⟩
  have ek : keptV (cV I1) (pN (cE I0)) (qN (cE I0)) (RT (cE I0) (wN (cE I0))) = keptA (cE I0) := by
    rw [hcv]
    exact kept_eq (cVE I0) _ _ v2 (fun _ _ _ _ => rfl)
  rw [ek]
  refine x_istoren_1 dW_spare_21 rfl rfl ?_
  refine x_iconst (v := 0) dW_spare_22 rfl ?_
  refine x_istoren_2 dW_spare_23 rfl rfl ?_
  refine x_iconst (v := 0) dW_spare_24 rfl ?_
  refine x_istoren_3 dW_spare_25 rfl rfl ?_
  -- at 26: .iload_n 3
  have loop : ∀ (k i : Nat) (I : IM) (acc : Int32), i + k = sN (cE I0) → Fr sScr I1 I → acc = bs i (spareB (cE I0)) → X mW_spare G (8, 0, 0) S1 I L 26 [.ref 0, .int (keptA (cE I0)), .int acc, .int (nI i)] [] Post := by
    intro k
    induction k with
    | zero =>
      intro i I acc hi hF ha
      have hF0 : Fr kScr I0 I := hF1.tr (hF.wk (by decide))
      obtain rfl : i = sN (cE I0) := by omega
      refine x_iload_n dW_spare_26 rfl ?_
      refine x_aload_n dW_spare_27 rfl ?_
      refine x_getR fl_W_33 rfl dW_spare_28 rfl rfl rfl ?_
      refine x_getI fl_W_125 rfl dW_spare_31 rfl rfl ?_
      -- at 34: .if_icmp .ge 44
      rw [hF0 18 (by decide), b1]
      refine x_icmp_ge (tgt := 78) dW_spare_34 (by decide) (fun _ => ?_) (fun h => absurd (Int32.le_refl _) h)
      refine x_iload_n dW_spare_78 rfl ?_
      -- at 79: .ireturn
      refine x_ireturn dW_spare_79 rfl rfl ?_
      rw [ha]
      exact h1 I (kstay hF0) (cE_k hF0)
    | succ k ih =>
      intro i I acc hi hF ha
      have hF0 : Fr kScr I0 I := hF1.tr (hF.wk (by decide))
      have hv0 : cV I = cV I0 := cV_k hF0
      have b1' : I 18 4 = nI (sN (cE I0)) := by rw [hF0 18 (by decide)]; exact b1
      refine x_iload_n dW_spare_26 rfl ?_
      refine x_aload_n dW_spare_27 rfl ?_
      refine x_getR fl_W_33 rfl dW_spare_28 rfl rfl rfl ?_
      refine x_getI fl_W_125 rfl dW_spare_31 rfl rfl ?_
      -- at 34: .if_icmp .ge 44
      rw [b1']
      refine x_icmp_ge (tgt := 78) dW_spare_34 (by decide) (fun h => absurd h (nI_ge (b := sN (cE I0)) (by omega) (by omega))) (fun _ => ?_)
      refine x_aload_n dW_spare_37 rfl ?_
      refine x_getR fl_W_56 rfl dW_spare_38 rfl rfl rfl ?_
      refine x_aload_n dW_spare_41 rfl ?_
      refine x_getR fl_W_33 rfl dW_spare_42 rfl rfl rfl ?_
      refine x_getI fl_W_125 rfl dW_spare_45 rfl rfl ?_
      refine x_iload_n dW_spare_48 rfl ?_
      -- at 49: .invokevirtual 257
      rw [b1']
      refine x_callV_2 c_Ledger_settle ok_Ledger_settle ml_W_257 dW_spare_49 rfl rfl rfl rfl rfl ?_
      refine ⟨sN (cE I0), pN (cE I0), qN (cE I0), nI i, DD (cV I0) (prog (cE I0) (wN (cE I0))) (CC (cV I0) (prog (cE I0) (wN (cE I0))) (pN (cE I0))), rfl, rfl, by rw [hF0 4 (by decide)]; exact c1, c2, by omega, fun s hs => ?_, (hok.vow).fr (hF0 _ (by decide)) (hF0 _ (by decide)), fun p hp s hs => ?_, fun I2 hF2 ho2 => ?_⟩
      · rw [hF0 19 (by decide)]
        exact (b3 s hs).1
      · rw [hF 38 (by decide)]
        exact hrk.2 s hs p hp
      · have hF3 : Fr sScr I1 I2 := hF.tr hF2
        have hF4 : Fr kScr I0 I2 := hF1.tr (hF3.wk (by decide))
        rw [hv0] at ho2
        have ho3 : OwesN (cE I0) (DD (cE I0) (prog (cE I0) (wN (cE I0))) (CE (cE I0) (wN (cE I0)))) (pN (cE I0)) (qN (cE I0)) (nI i) (sN (cE I0)) I2 :=
          owes_eq (cVE I0) (Nat.le_refl _) (fun p hp s hs => by unfold DD; rw [share_eq (cVE I0) _ hs, CC_eq (cVE I0) _ hs]; rfl) ho2
        refine x_iload_n dW_spare_52 rfl ?_
        refine x_aload_n dW_spare_53 rfl ?_
        refine x_getR fl_W_56 rfl dW_spare_54 rfl rfl rfl ?_
        -- at 57: .invokevirtual 254
        refine x_callV_0 c_Ledger_keptBits ok_Ledger_keptBits ml_W_254 dW_spare_57 rfl rfl rfl rfl rfl ?_
        refine ⟨pN (cE I0), qN (cE I0), RW (cE I0) (wN (cE I0)) (nI i), rfl, rfl, ⟨by rw [hF4 4 (by decide)]; exact c1, c2, fun p hp => (ho3 p hp).1⟩, by rw [hF4 13 (by decide)]; exact v1, v2, ?_⟩
        have ek2 : keptV (cV I2) (pN (cE I0)) (qN (cE I0)) (RW (cE I0) (wN (cE I0)) (nI i)) = keptW (cE I0) i := by
          rw [cV_k hF4]
          exact kept_eq (cVE I0) _ _ v2 (fun _ _ _ _ => rfl)
        rw [ek2]
        refine x_iconst (v := -1) dW_spare_60 rfl ?_
        refine x_ixor dW_spare_61 ?_
        refine x_iand dW_spare_62 ?_
        -- at 63: .ifCond .ne 9
        refine x_if_ne (tgt := 72) dW_spare_63 (by decide) (fun d1 => ?_) (fun d1 => ?_)
        · have e : spareB (cE I0) i = false := by simpa [spareB] using d1
          refine x_iincp_3 dW_spare_72 rfl rfl ?_
          refine x_goto (tgt := 26) dW_spare_75 (by decide) ?_
          -- at 26: .iload_n 3
          rw [nI_1]
          refine ih (i + 1) I2 _ (by omega) hF3 ?_
          rw [bs, e, if_neg (by simp), ha]
        · have e : spareB (cE I0) i = true := by simpa [spareB] using d1
          refine x_iload_n dW_spare_66 rfl ?_
          refine x_iconst (v := 1) dW_spare_67 rfl ?_
          refine x_iload_n dW_spare_68 rfl ?_
          refine x_ishl dW_spare_69 ?_
          refine x_ior dW_spare_70 ?_
          refine x_istoren_2 dW_spare_71 rfl rfl ?_
          refine x_iincp_3 dW_spare_72 rfl rfl ?_
          refine x_goto (tgt := 26) dW_spare_75 (by decide) ?_
          -- at 26: .iload_n 3
          rw [nI_1]
          refine ih (i + 1) I2 _ (by omega) hF3 ?_
          rw [bs, e, if_pos rfl, ha]
          rfl
  exact loop (sN (cE I0)) 0 I1 0 (by omega) (fun _ _ => rfl) rfl
