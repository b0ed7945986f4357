/-! how many bits: the JDK's bitCount over sets of eight -/
theorem x_ldcw {M : MI} {G : WG} {r : Nat × Nat × Nat} {S : Shp} {I : IM} {L : LM} {pc : Nat} {loc rest : List Value} {Post : PostT} {i : Nat} {v : Int32} (hd : decode (mcc M) pc = .ok (.ldc_w i, 3)) (hw : Cond.constant (my M).cls i v ∈ lwT) (k : X M G r S I L (pc + 3) loc (.int v :: rest) Post) : X M G r S I L pc loc rest Post := by
  intro p l e R s m args below meth c Q B H locs cells slots ls hc hs hR hS hL
  exact lv_ldcw B.1.1 B.1.2.1 B.1.2.2.2.1 (B.1.2.2.2.2.1 _ hw) hd (k p l e R s m args below meth c Q B H locs cells slots ls hc hs hR hS hL)
def onesR (x : Int32) (k : Nat) : Int32 := match k with
  | 0 => 0
  | j + 1 => onesR x j + ((x >>> (nI j &&& 31)) &&& 1)
def ush (x y : Int32) : Int32 := (x.toUInt32 >>> (y.toUInt32 &&& Int32.toUInt32 31)).toInt32
def bcE (x : Int32) : Int32 :=
  let a := x - (ush x 1 &&& 1431655765)
  let b := (a &&& 858993459) + (ush a 2 &&& 858993459)
  let c := (b + ush b 4) &&& 252645135
  let d := c + ush c 8
  (d + ush d 16) &&& 63
theorem bcE_256 : ∀ c, c < 256 → bcE (nI c) = onesR (nI c) 8 := by decide +kernel
def sp_Integer_bitCount : SpT := fun as S I L Post => ∃ c : Nat, as = [.int (nI c)] ∧ c < 256 ∧ Post (some (.int (onesR (nI c) 8))) S I L
set_option maxHeartbeats 4000000 in
set_option maxRecDepth 100000 in
theorem c_Integer_bitCount : Con mInteger_bitCount 2 0 0 sp_Integer_bitCount := by
  refine con_of_X rfl fun G as S I L Post hs => ?_
  obtain ⟨c, rfl, hc, h1⟩ := hs
  refine ⟨0, Nat.le_of_ble_eq_true rfl, ?_⟩
  show X mInteger_bitCount G _ S I L 0 [.int (nI c)] [] Post
  rw [← bcE_256 c hc] at h1
  refine x_iload_n dInteger_bitCount_0 rfl ?_
  refine x_iload_n dInteger_bitCount_1 rfl ?_
  refine x_iconst (v := 1) dInteger_bitCount_2 rfl ?_
  refine x_iushr dInteger_bitCount_3 ?_
  refine x_ldcw dInteger_bitCount_4 cn_Integer_265 ?_
  refine x_iand dInteger_bitCount_7 ?_
  refine x_isub dInteger_bitCount_8 ?_
  refine x_istoren_0 dInteger_bitCount_9 rfl rfl ?_
  refine x_iload_n dInteger_bitCount_10 rfl ?_
  refine x_ldcw dInteger_bitCount_11 cn_Integer_266 ?_
  refine x_iand dInteger_bitCount_14 ?_
  refine x_iload_n dInteger_bitCount_15 rfl ?_
  refine x_iconst (v := 2) dInteger_bitCount_16 rfl ?_
  refine x_iushr dInteger_bitCount_17 ?_
  refine x_ldcw dInteger_bitCount_18 cn_Integer_266 ?_
  refine x_iand dInteger_bitCount_21 ?_
  refine x_iadd dInteger_bitCount_22 ?_
  refine x_istoren_0 dInteger_bitCount_23 rfl rfl ?_
  refine x_iload_n dInteger_bitCount_24 rfl ?_
  refine x_iload_n dInteger_bitCount_25 rfl ?_
  refine x_iconst (v := 4) dInteger_bitCount_26 rfl ?_
  refine x_iushr dInteger_bitCount_27 ?_
  refine x_iadd dInteger_bitCount_28 ?_
  refine x_ldcw dInteger_bitCount_29 cn_Integer_267 ?_
  refine x_iand dInteger_bitCount_32 ?_
  refine x_istoren_0 dInteger_bitCount_33 rfl rfl ?_
  refine x_iload_n dInteger_bitCount_34 rfl ?_
  refine x_iload_n dInteger_bitCount_35 rfl ?_
  refine x_bipush (v := 8) dInteger_bitCount_36 rfl ?_
  refine x_iushr dInteger_bitCount_38 ?_
  refine x_iadd dInteger_bitCount_39 ?_
  refine x_istoren_0 dInteger_bitCount_40 rfl rfl ?_
  refine x_iload_n dInteger_bitCount_41 rfl ?_
  refine x_iload_n dInteger_bitCount_42 rfl ?_
  refine x_bipush (v := 16) dInteger_bitCount_43 rfl ?_
  refine x_iushr dInteger_bitCount_45 ?_
  refine x_iadd dInteger_bitCount_46 ?_
  refine x_istoren_0 dInteger_bitCount_47 rfl rfl ?_
  refine x_iload_n dInteger_bitCount_48 rfl ?_
  refine x_bipush (v := 63) dInteger_bitCount_49 rfl ?_
  refine x_iand dInteger_bitCount_51 ?_
  -- at 52: .ireturn
  refine x_ireturn dInteger_bitCount_52 rfl rfl ?_
  exact h1
theorem bs_nat (f : Nat → Bool) {n : Nat} (hn : n ≤ 8) : ∃ c, c < 256 ∧ bs n f = nI c := by
  refine ⟨(bs n f).toBitVec.toNat % 2 ^ 8, Nat.mod_lt _ (by decide), ?_⟩
  have h := pk_and (bs n f) (m := 255) 8 (by decide)
  rw [← h]
  refine b_ext fun i hi => ?_
  have h2 : ∀ i, i < 32 → bt 255 i = decide (i < 8) := by decide +kernel
  rw [b_and, h2 i hi, bt_bs f n (by omega) i hi]
  by_cases e : i < n
  · have : i < 8 := by omega
    simp [e, this]
  · simp [e]
