/-! texts: the string constants -/
set_option maxRecDepth 100000 in
theorem fk_val : Cond.fieldLink "java/lang/String" 9 "java/lang/String" "value" "[B" ∈ lwT := (lwT_of (List.mem_of_getElem? (i := 1670) rfl) rfl)
set_option maxRecDepth 100000 in
theorem fk_cod : Cond.fieldLink "java/lang/String" 15 "java/lang/String" "coder" "B" ∈ lwT := (lwT_of (List.mem_of_getElem? (i := 1671) rfl) rfl)
set_option maxRecDepth 100000 in
theorem fk_cs : Cond.fieldLink "java/lang/String" 38 "java/lang/String" "COMPACT_STRINGS" "Z" ∈ lwT := (lwT_of (List.mem_of_getElem? (i := 423) rfl) rfl)
set_option maxRecDepth 100000 in
theorem fk_si : Cond.fieldLink "java/lang/String" 1053 "jdk/internal/util/Preconditions" "SIOOBE_FORMATTER" "Ljava/util/function/BiFunction;" ∈ lwT := (lwT_of (List.mem_of_getElem? (i := 439) rfl) rfl)
section STR
variable {M : MI} {G : WG} {r : Nat × Nat × Nat} {S : Shp} {I : IM} {L : LM} {pc : Nat} {loc rest : List Value} {Post : PostT}
theorem x_getSV {idx i : Nat} (hd : decode (mcc M) pc = .ok (.getfield idx, 3)) (hl : Cond.fieldLink (my M).cls idx "java/lang/String" "value" "[B" ∈ lwT) (hi : i < nStr) (kk : X M G r S I L (pc + 3) loc (.ref (1000000 + (50 + i)) :: rest) Post) : X M G r S I L pc loc (.ref (1000000 + i) :: rest) Post := by
  intro p l e R s m args below meth c Q B H locs cells slots ls hc hs hR hS hL
  have K := kk p l e R s m args below meth c Q B H locs cells slots ls hc hs hR hS hL
  have e0 : (Value.ref (1000000 + i) :: rest).map (vmap G) = .ref (gf G i) :: rest.map (vmap G) := by
    show Value.ref (adr G (1000000 + i)) :: _ = _
    rw [adr_f]
  have e1 : (Value.ref (1000000 + (50 + i)) :: rest).map (vmap G) = .ref (gf G (50 + i)) :: rest.map (vmap G) := by
    show Value.ref (adr G (1000000 + (50 + i))) :: _ = _
    rw [adr_f]
  rw [e1] at K
  rw [e0]
  exact vk_getf B.1.1 B.1.2.1 (B.2.1.2.2.2.1.1 i hi).2.2.1 hS B.1.2.2.2.1 (B.1.2.2.2.2.1 _ hl) (fun x hx => hx) hd K
theorem x_getSC {idx i : Nat} (hd : decode (mcc M) pc = .ok (.getfield idx, 3)) (hl : Cond.fieldLink (my M).cls idx "java/lang/String" "coder" "B" ∈ lwT) (hi : i < nStr) (kk : X M G r S I L (pc + 3) loc (.int 0 :: rest) Post) : X M G r S I L pc loc (.ref (1000000 + i) :: rest) Post := by
  intro p l e R s m args below meth c Q B H locs cells slots ls hc hs hR hS hL
  have K := kk p l e R s m args below meth c Q B H locs cells slots ls hc hs hR hS hL
  have e0 : (Value.ref (1000000 + i) :: rest).map (vmap G) = .ref (gf G i) :: rest.map (vmap G) := by
    show Value.ref (adr G (1000000 + i)) :: _ = _
    rw [adr_f]
  rw [e0]
  exact vk_getf B.1.1 B.1.2.1 (B.2.1.2.2.2.1.1 i hi).2.1 hS B.1.2.2.2.1 (B.1.2.2.2.2.1 _ hl) (fun x hx => hx) hd K
theorem x_getsCS {idx : Nat} (hd : decode (mcc M) pc = .ok (.getstatic idx, 3)) (hl : Cond.fieldLink (my M).cls idx "java/lang/String" "COMPACT_STRINGS" "Z" ∈ lwT) (kk : X M G r S I L (pc + 3) loc (.int 1 :: rest) Post) : X M G r S I L pc loc rest Post := by
  intro p l e R s m args below meth c Q B H locs cells slots ls hc hs hR hS hL
  have K := kk p l e R s m args below meth c Q B H locs cells slots ls hc hs hR hS hL
  exact va_gets B.1.1 B.1.2.1 B.2.1.2.2.2.2.1 hS B.1.2.2.2.1 (B.1.2.2.2.2.1 _ hl) (fun x hx => hx) hd K
theorem x_getsSI {idx : Nat} (hd : decode (mcc M) pc = .ok (.getstatic idx, 3)) (hl : Cond.fieldLink (my M).cls idx "jdk/internal/util/Preconditions" "SIOOBE_FORMATTER" "Ljava/util/function/BiFunction;" ∈ lwT) (kk : ∀ v : Value, (v = .null ∨ v = .ref (1000000 + 150)) → X M G r S I L (pc + 3) loc (v :: rest) Post) : X M G r S I L pc loc rest Post := by
  intro p l e R s m args below meth c Q B H locs cells slots ls hc hs hR hS hL
  rcases B.2.1.2.2.2.2.2.1 with hz | hz
  · have K := kk .null (Or.inl rfl) p l e R s m args below meth c Q B H locs cells slots ls hc hs hR hS hL
    exact va_gets B.1.1 B.1.2.1 hz hS B.1.2.2.2.1 (B.1.2.2.2.2.1 _ hl) (fun x hx => hx) hd K
  · have K := kk (.ref (1000000 + 150)) (Or.inr rfl) p l e R s m args below meth c Q B H locs cells slots ls hc hs hR hS hL
    have e1 : (Value.ref (1000000 + 150) :: rest).map (vmap G) = .ref (gf G 150) :: rest.map (vmap G) := by
      show Value.ref (adr G (1000000 + 150)) :: _ = _
      rw [adr_f]
    rw [e1] at K
    exact va_gets B.1.1 B.1.2.1 hz hS B.1.2.2.2.1 (B.1.2.2.2.2.1 _ hl) (fun x hx => hx) hd K
theorem x_alenB {q : Nat} {v : Int32} (hd : decode (mcc M) pc = .ok (.arraylength, 1)) (hi : q < nStr) (hv : nI (stL.getD q 0) = v) (kk : X M G r S I L (pc + 1) loc (.int v :: rest) Post) : X M G r S I L pc loc (.ref (1000000 + (50 + q)) :: rest) Post := by
  intro p l e R s m args below meth c Q B H locs cells slots ls hc hs hR hS hL
  have K := kk p l e R s m args below meth c Q B H locs cells slots ls hc hs hR hS hL
  have e1 : (Value.ref (1000000 + (50 + q)) :: rest).map (vmap G) = .ref (gf G (50 + q)) :: rest.map (vmap G) := by
    show Value.ref (adr G (1000000 + (50 + q))) :: _ = _
    rw [adr_f]
  rw [e1]
  exact va_tlen B.1.1 B.1.2.1 (B.2.1.2.2.2.1.1 q hi).2.2.2 hS hv hd K
theorem x_baldB {q : Nat} {i v : Int32} (hd : decode (mcc M) pc = .ok (.baload, 1)) (hi : q < nStr) (hn : vp_in i (stL.getD q 0)) (hv : (stB.getD q []).getD i.toNatClampNeg 0 = v) (kk : X M G r S I L (pc + 1) loc (.int v :: rest) Post) : X M G r S I L pc loc (.int i :: .ref (1000000 + (50 + q)) :: rest) Post := by
  intro p l e R s m args below meth c Q B H locs cells slots ls hc hs hR hS hL
  have K := kk p l e R s m args below meth c Q B H locs cells slots ls hc hs hR hS hL
  have e1 : (Value.int i :: Value.ref (1000000 + (50 + q)) :: rest).map (vmap G) = .int i :: .ref (gf G (50 + q)) :: rest.map (vmap G) := by
    show Value.int i :: Value.ref (adr G (1000000 + (50 + q))) :: _ = _
    rw [adr_f]
  rw [e1]
  exact va_tb B.1.1 B.1.2.1 (B.2.1.2.2.2.1.1 q hi).2.2.2 hS hn (v := .int v) (by rw [hv]) hd K
theorem x_i2c {x v : Int32} (hd : decode (mcc M) pc = .ok (.i2c, 1)) (hv : (x.toUInt32 % 65536).toInt32 = v) (kk : X M G r S I L (pc + 1) loc (.int v :: rest) Post) : X M G r S I L pc loc (.int x :: rest) Post := by
  intro p l e R s m args below meth c Q B H locs cells slots ls hc hs hR hS hL
  exact lv_i2c B.1.1 B.1.2.1 hd hv (kk p l e R s m args below meth c Q B H locs cells slots ls hc hs hR hS hL)
end STR
section STC
variable {M M2 : MI} {G : WG} {d rc rs mc ms d2 : Nat} {S : Shp} {I : IM} {L : LM} {pc : Nat} {loc rest As : List Value} {Post : PostT} {Sp : SpT} {n idx : Nat}
/-- a call on a string constant -/
theorem x_callT {i : Nat} {st : List Value} (hM : Con M2 d2 mc ms Sp) (ho : VOk M2 n) (hl : Cond.methodLink (my M).cls idx (my M2) ∈ lwT) (hd : decode (mcc M) pc = .ok (.invokevirtual idx, 3)) (hdd : Nat.ble (d2 + 1) d = true) (hst : st = As.reverse ++ .ref (1000000 + i) :: rest) (hn : As.length = n) (hi : i < nStr) (hci : (my M2).cls = "java/lang/String") (hrest : Nat.ble (rest.map Value.category).sum 8 = true)
    (hSp : Sp (.ref (1000000 + i) :: As) S I L (fun v S' I' L' => X M G (d, rc, rs) S' I' L' (pc + 3) loc (v.toList ++ rest) Post)) : X M G (d, rc + mc, rs + ms) S I L pc loc st Post := by
  intro p l e R s m args below meth c Q B H locs cells slots ls hc hs hR hS hL
  subst hst
  obtain ⟨⟨o1, o2, o3, o4⟩, o5, o6⟩ := ho
  have hdd' : d2 + 1 ≤ d := Nat.le_of_ble_eq_true hdd
  have hf1 : d ≤ R.frames := B.2.2.2.2.2.1
  have hf2 : 500 * d ≤ R.locals := B.2.2.2.2.2.2
  dsimp only at hc hs
  have hrecv := vk_recv B.2.1.2.2.2.1 hi hS
  rw [← hci] at hrecv
  have ha : adr G (1000000 + i) = gf G i := adr_f G i
  have e0 : (As.reverse ++ Value.ref (1000000 + i) :: rest).map (vmap G) = (As.map (vmap G)).reverse ++ .ref (gf G i) :: rest.map (vmap G) := by
    rw [List.map_append, List.map_reverse, List.map_cons]
    show _ ++ Value.ref (adr G (1000000 + i)) :: _ = _
    rw [ha]
  have hpre := x_pre (As := .ref (1000000 + i) :: As) B hR hS
  have e1 : ((Value.ref (1000000 + i) :: As).map (vmap G)) = .ref (gf G i) :: As.map (vmap G) := by
    show Value.ref (adr G (1000000 + i)) :: _ = _
    rw [ha]
  rw [e1] at hpre
  rw [e0]
  refine x_back B (by omega) (by omega) hS hL (va_runV (nL := mnl M) (As := As.map (vmap G)) (rest := rest.map (vmap G)) (n := n) (Ts := lwT) (own := (my M).cls) (C := (my M2).cls) ⟨B.1.1, B.1.2.1, B.1.2.2.1, B.1.2.2.2.1, B.1.2.2.2.2.1⟩ (hM G l _ S I L _ hSp) (cwV n B.1.2.2.2.2.1 (good_in ?_) rfl rfl rfl ⟨rfl, o3⟩ ⟨by show d2 + 1 ≤ R.frames; omega, by show 8 + (mnl M2 + 11) + 500 * d2 ≤ R.locals; omega⟩) ⟨PP.blind, hrecv, hpre⟩ rfl (by rw [List.length_map]; exact hn) hL.1 rfl ?_ hd ⟨by omega, by omega⟩)
  · intro w hw
    rcases List.mem_append.mp hw with hw | hw
    · simp only [List.mem_cons, List.not_mem_nil, or_false] at hw
      rcases hw with rfl | rfl | rfl | rfl
      · exact hl
      · exact o5
      · exact o6
      · exact o2
    · exact mws_in o1 w hw
  · rw [cat_map]
    exact lv_room (pc := pc) (ls := ls) (m := m) (Nat.le_of_ble_eq_true hrest)
end STC
def sp_String_coder : SpT := fun as S I L Post => ∃ i : Nat, as = [.ref (1000000 + i)] ∧ i < nStr ∧ Post (some (.int 0)) S I L
set_option maxHeartbeats 4000000 in
set_option maxRecDepth 100000 in
theorem c_String_coder : Con mString_coder 2 0 0 sp_String_coder := by
  refine con_of_X rfl fun G as S I L Post hs => ?_
  obtain ⟨i, rfl, hi, h1⟩ := hs
  refine ⟨0, Nat.le_of_ble_eq_true rfl, ?_⟩
  show X mString_coder G _ S I L 0 [.ref (1000000 + i)] [] Post
  refine x_getsCS dString_coder_0 fk_cs ?_
  refine x_if_eq (tgt := 13) dString_coder_3 (by decide) (fun h => absurd h (by decide)) (fun _ => ?_)
  refine x_aload_n dString_coder_6 rfl ?_
  -- at 7: .getfield 15
  refine x_getSC dString_coder_7 fk_cod hi ?_
  refine x_goto (tgt := 14) dString_coder_10 (by decide) ?_
  -- at 14: .ireturn
  refine x_ireturn dString_coder_14 rfl rfl ?_
  exact h1
def sp_String_isLatin1 : SpT := fun as S I L Post => ∃ i : Nat, as = [.ref (1000000 + i)] ∧ i < nStr ∧ Post (some (.int 1)) S I L
set_option maxHeartbeats 4000000 in
set_option maxRecDepth 100000 in
theorem c_String_isLatin1 : Con mString_isLatin1 2 0 0 sp_String_isLatin1 := by
  refine con_of_X rfl fun G as S I L Post hs => ?_
  obtain ⟨i, rfl, hi, h1⟩ := hs
  refine ⟨0, Nat.le_of_ble_eq_true rfl, ?_⟩
  show X mString_isLatin1 G _ S I L 0 [.ref (1000000 + i)] [] Post
  refine x_getsCS dString_isLatin1_0 fk_cs ?_
  refine x_if_eq (tgt := 17) dString_isLatin1_3 (by decide) (fun h => absurd h (by decide)) (fun _ => ?_)
  refine x_aload_n dString_isLatin1_6 rfl ?_
  -- at 7: .getfield 15
  refine x_getSC dString_isLatin1_7 fk_cod hi ?_
  refine x_if_ne (tgt := 17) dString_isLatin1_10 (by decide) (fun h => absurd (by decide) h) (fun _ => ?_)
  refine x_iconst (v := 1) dString_isLatin1_13 rfl ?_
  refine x_goto (tgt := 18) dString_isLatin1_14 (by decide) ?_
  -- at 18: .ireturn
  refine x_ireturn dString_isLatin1_18 rfl rfl ?_
  exact h1
def sp_String_length : SpT := fun as S I L Post => ∃ i : Nat, as = [.ref (1000000 + i)] ∧ i < nStr ∧ Post (some (.int (nI (stL.getD i 0)))) S I L
set_option maxHeartbeats 4000000 in
set_option maxRecDepth 100000 in
theorem c_String_length : Con mString_length 3 0 0 sp_String_length := by
  refine con_of_X rfl fun G as S I L Post hs => ?_
  obtain ⟨i, rfl, hi, h1⟩ := hs
  refine ⟨0, Nat.le_of_ble_eq_true rfl, ?_⟩
  show X mString_length G _ S I L 0 [.ref (1000000 + i)] [] Post
  refine x_aload_n dString_length_0 rfl ?_
  -- at 1: .getfield 9
  refine x_getSV dString_length_1 fk_val hi ?_
  refine x_alenB dString_length_4 hi rfl ?_
  refine x_aload_n dString_length_5 rfl ?_
  -- at 6: .invokevirtual 335
  refine x_callT (As := []) (rest := [_]) c_String_coder ok_String_coder ml_String_335 dString_length_6 rfl rfl rfl hi rfl rfl ?_
  refine ⟨i, rfl, hi, ?_⟩
  refine x_ishr dString_length_9 ?_
  -- at 10: .ireturn
  refine x_eqi (y := nI (stL.getD i 0)) ?_ ?_
  · exact (show ∀ i, i < nStr → nI (stL.getD i 0) >>> (0 &&& 31) = nI (stL.getD i 0) by decide +kernel) i hi
  refine x_ireturn dString_length_10 rfl rfl ?_
  exact h1
def sp_Preconditions_checkIndex : SpT := fun as S I L Post => ∃ (i n : Int32) (v : Value), as = [.int i, .int n, v] ∧ (v = .null ∨ v = .ref (1000000 + 150)) ∧ 0 ≤ i ∧ i < n ∧ Post (some (.int i)) S I L
set_option maxHeartbeats 4000000 in
set_option maxRecDepth 100000 in
theorem c_Preconditions_checkIndex : Con mPreconditions_checkIndex 2 0 0 sp_Preconditions_checkIndex := by
  refine con_of_X rfl fun G as S I L Post hs => ?_
  obtain ⟨i, n, v, rfl, hv, h0, hn, h1⟩ := hs
  rcases hv with rfl | rfl
  · refine ⟨0, Nat.le_of_ble_eq_true rfl, ?_⟩
    show X mPreconditions_checkIndex G _ S I L 0 [.int i, .int n, .null] [] Post
    refine x_iload_n dPreconditions_checkIndex_0 rfl ?_
    -- at 1: .ifCond .lt 8
    refine x_if_lt (tgt := 9) dPreconditions_checkIndex_1 (by decide) (fun h => absurd h (Int32.not_lt.mpr h0)) (fun _ => ?_)
    refine x_iload_n dPreconditions_checkIndex_4 rfl ?_
    refine x_iload_n dPreconditions_checkIndex_5 rfl ?_
    -- at 6: .if_icmp .lt 10
    refine x_icmp_lt (tgt := 16) dPreconditions_checkIndex_6 (by decide) (fun _ => ?_) (fun h => absurd hn h)
    refine x_iload_n dPreconditions_checkIndex_16 rfl ?_
    -- at 17: .ireturn
    refine x_ireturn dPreconditions_checkIndex_17 rfl rfl ?_
    exact h1
  · refine ⟨0, Nat.le_of_ble_eq_true rfl, ?_⟩
    show X mPreconditions_checkIndex G _ S I L 0 [.int i, .int n, .ref (1000000 + 150)] [] Post
    refine x_iload_n dPreconditions_checkIndex_0 rfl ?_
    -- at 1: .ifCond .lt 8
    refine x_if_lt (tgt := 9) dPreconditions_checkIndex_1 (by decide) (fun h => absurd h (Int32.not_lt.mpr h0)) (fun _ => ?_)
    refine x_iload_n dPreconditions_checkIndex_4 rfl ?_
    refine x_iload_n dPreconditions_checkIndex_5 rfl ?_
    -- at 6: .if_icmp .lt 10
    refine x_icmp_lt (tgt := 16) dPreconditions_checkIndex_6 (by decide) (fun _ => ?_) (fun h => absurd hn h)
    refine x_iload_n dPreconditions_checkIndex_16 rfl ?_
    -- at 17: .ireturn
    refine x_ireturn dPreconditions_checkIndex_17 rfl rfl ?_
    exact h1
def sp_String_checkIndex : SpT := fun as S I L Post => ∃ i n : Int32, as = [.int i, .int n] ∧ 0 ≤ i ∧ i < n ∧ Post none S I L
set_option maxHeartbeats 4000000 in
set_option maxRecDepth 100000 in
theorem c_String_checkIndex : Con mString_checkIndex 3 0 0 sp_String_checkIndex := by
  refine con_of_X rfl fun G as S I L Post hs => ?_
  obtain ⟨i, n, rfl, h0, hn, h1⟩ := hs
  refine ⟨0, Nat.le_of_ble_eq_true rfl, ?_⟩
  show X mString_checkIndex G _ S I L 0 [.int i, .int n] [] Post
  refine x_iload_n dString_checkIndex_0 rfl ?_
  refine x_iload_n dString_checkIndex_1 rfl ?_
  -- at 2: .getstatic 1053
  refine x_getsSI dString_checkIndex_2 fk_si fun v hv => ?_
  refine x_callS_3 c_Preconditions_checkIndex ok_Preconditions_checkIndex ml_String_1059 dString_checkIndex_5 rfl rfl ?_
  refine ⟨i, n, v, rfl, hv, h0, hn, ?_⟩
  refine x_pop dString_checkIndex_8 rfl ?_
  -- at 9: .return_
  refine x_return dString_checkIndex_9 rfl ?_
  exact h1
theorem byt_ok : ∀ q, q < nStr → ∀ j, j < stL.getD q 0 → ∃ k, k < 128 ∧ (stB.getD q []).getD j 0 = nI k := by
  have h : ∀ q, q < nStr → ∀ j, j < stL.getD q 0 → 0 ≤ (stB.getD q []).getD j 0 ∧ (stB.getD q []).getD j 0 ≤ 127 := by decide +kernel
  intro q hq j hj
  obtain ⟨k, hk, e⟩ := inR_of (n := 127) (by decide) (h q hq j hj)
  exact ⟨k, by omega, e⟩
theorem chr_ok : ∀ k, k < 128 → ((nI k &&& 255).toUInt32 % 65536).toInt32 = nI k ∧ narrow .char (.int (nI k)) = .int (nI k) := by decide +kernel
theorem len_ok : ∀ q, q < nStr → stL.getD q 0 ≤ 75 := by decide
def sp_StringLatin1_charAt : SpT := fun as S I L Post => ∃ q j : Nat, as = [.ref (1000000 + (50 + q)), .int (nI j)] ∧ q < nStr ∧ j < stL.getD q 0 ∧ Post (some (.int ((stB.getD q []).getD j 0))) S I L
set_option maxHeartbeats 4000000 in
set_option maxRecDepth 100000 in
theorem c_StringLatin1_charAt : Con mStringLatin1_charAt 4 0 0 sp_StringLatin1_charAt := by
  refine con_of_X rfl fun G as S I L Post hs => ?_
  obtain ⟨q, j, rfl, hq, hj, h1⟩ := hs
  have hl := len_ok q hq
  refine ⟨0, Nat.le_of_ble_eq_true rfl, ?_⟩
  show X mStringLatin1_charAt G _ S I L 0 [.ref (1000000 + (50 + q)), .int (nI j)] [] Post
  refine x_iload_n dStringLatin1_charAt_0 rfl ?_
  refine x_aload_n dStringLatin1_charAt_1 rfl ?_
  -- at 2: .arraylength
  refine x_alenB dStringLatin1_charAt_2 hq rfl ?_
  refine x_callS_2 c_String_checkIndex ok_String_checkIndex ml_StringLatin1_9 dStringLatin1_charAt_3 rfl rfl ?_
  refine ⟨nI j, nI (stL.getD q 0), rfl, nI_le (a := 0) (by omega) (by omega), (nI_ltI (by omega) (by omega)).mpr hj, ?_⟩
  refine x_aload_n dStringLatin1_charAt_6 rfl ?_
  refine x_iload_n dStringLatin1_charAt_7 rfl ?_
  -- at 8: .baload
  obtain ⟨k, hk, ek⟩ := byt_ok q hq j hj
  obtain ⟨k1, k2⟩ := chr_ok k hk
  refine x_baldB dStringLatin1_charAt_8 hq (vp_in_nI hj (by omega)) (v := nI k) (by rw [nI_clamp (by omega)]; exact ek) ?_
  refine x_sipush (v := 255) dStringLatin1_charAt_9 rfl ?_
  refine x_iand dStringLatin1_charAt_12 ?_
  -- at 13: .i2c
  refine x_i2c dStringLatin1_charAt_13 k1 ?_
  refine x_ireturn dStringLatin1_charAt_14 rfl k2 ?_
  rw [ek] at h1
  exact h1
def sp_String_charAt : SpT := fun as S I L Post => ∃ q j : Nat, as = [.ref (1000000 + q), .int (nI j)] ∧ q < nStr ∧ j < stL.getD q 0 ∧ Post (some (.int ((stB.getD q []).getD j 0))) S I L
set_option maxHeartbeats 4000000 in
set_option maxRecDepth 100000 in
theorem c_String_charAt : Con mString_charAt 6 0 0 sp_String_charAt := by
  refine con_of_X rfl fun G as S I L Post hs => ?_
  obtain ⟨q, j, rfl, hq, hj, h1⟩ := hs
  refine ⟨0, Nat.le_of_ble_eq_true rfl, ?_⟩
  show X mString_charAt G _ S I L 0 [.ref (1000000 + q), .int (nI j)] [] Post
  refine x_aload_n dString_charAt_0 rfl ?_
  -- at 1: .invokevirtual 492
  refine x_callT (As := []) (rest := []) c_String_isLatin1 ok_String_isLatin1 ml_String_492 dString_charAt_1 rfl rfl rfl hq rfl rfl ?_
  refine ⟨q, rfl, hq, ?_⟩
  refine x_if_eq (tgt := 16) dString_charAt_4 (by decide) (fun h => absurd h (by decide)) (fun _ => ?_)
  refine x_aload_n dString_charAt_7 rfl ?_
  -- at 8: .getfield 9
  refine x_getSV dString_charAt_8 fk_val hq ?_
  refine x_iload_n dString_charAt_11 rfl ?_
  -- at 12: .invokestatic 495
  refine x_callS_2 c_StringLatin1_charAt ok_StringLatin1_charAt ml_String_495 dString_charAt_12 rfl rfl ?_
  refine ⟨q, j, rfl, hq, hj, ?_⟩
  obtain ⟨k, hk, ek⟩ := byt_ok q hq j hj
  rw [ek] at h1 ⊢
  refine x_ireturn dString_charAt_15 rfl (chr_ok k hk).2 ?_
  exact h1
