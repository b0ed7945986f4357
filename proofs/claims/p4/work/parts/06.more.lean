/-! the machine's own methods, statics, what stands outside -/
section MORE
variable {M : MI} {G : WG} {r : Nat × Nat × Nat} {S : Shp} {I : IM} {L : LM} {pc : Nat} {loc rest : List Value} {Post : PostT}
theorem x_objInit {idx k : Nat} (hd : decode (mcc M) pc = .ok (.invokespecial idx, 3)) (hl : Cond.methodLink (my M).cls idx Lib.objectInit ∈ lwT) (h2 : Cond.instanceMethod Lib.objectInit ∈ lwT) (h3 : Cond.code Lib.objectInit ⟨#[0xb1]⟩ 1 none ∈ lwT) (hr1 : Nat.ble 1 r.1 = true) (hrest : Nat.ble (rest.map Value.category).sum 8 = true)
    (kk : X M G r S I L (pc + 3) loc rest Post) : X M G r S I L pc loc (.ref k :: rest) Post := by
  intro p l e R s m args below meth c Q B H locs cells slots ls hc hs hR hS hL
  have hf1 : r.1 ≤ R.frames := B.2.2.2.2.2.1
  have hf2 : 500 * r.1 ≤ R.locals := B.2.2.2.2.2.2
  have h1 : 1 ≤ r.1 := Nat.le_of_ble_eq_true hr1
  refine W.objInit B.1.1 B.1.2.1 B.1.2.2.2.1 (B.1.2.2.2.2.1 _ hl) (B.1.2.2.2.2.1 _ h2) (B.1.2.2.2.2.1 _ h3) (g := F0 m pc ls ((Value.ref k :: rest).map (vmap G))) rfl (hL.1.trans B.1.2.2.1.symm) rfl hd (by omega) ?_ (kk p l e R s m args below meth c Q B H locs cells slots ls hc hs hR hS hL)
  have h4 := lv_room (pc := pc) (ls := ls) (m := m) (rest := (Value.ref k :: rest).map (vmap G)) (st := rest) (Nat.le_of_ble_eq_true hrest)
  rw [cat_map]
  omega
theorem x_mmax {idx : Nat} {x y : Int32} (hd : decode (mcc M) pc = .ok (.invokestatic idx, 3)) (hl : Cond.methodLink (my M).cls idx Lib.Math.max.name ∈ lwT) (h2 : Cond.static Lib.Math.max.name ∈ lwT) (h3 : Cond.initialized "java/lang/Math" ∈ lwT) (h4 : Cond.code Lib.Math.max.name Lib.Math.max.code 2 (some .int) ∈ lwT) (hr1 : Nat.ble 1 r.1 = true) (hrest : Nat.ble (rest.map Value.category).sum 8 = true)
    (kk : X M G r S I L (pc + 3) loc (.int (if x < y then y else x) :: rest) Post) : X M G r S I L pc loc (.int y :: .int x :: rest) Post := by
  intro p l e R s m args below meth c Q B H locs cells slots ls hc hs hR hS hL
  have hf1 : r.1 ≤ R.frames := B.2.2.2.2.2.1
  have hf2 : 500 * r.1 ≤ R.locals := B.2.2.2.2.2.2
  have h1 : 1 ≤ r.1 := Nat.le_of_ble_eq_true hr1
  have h5 := Nat.le_of_ble_eq_true hrest
  exact va_mmax B.1.1 B.1.2.1 (B.1.2.2.1.trans hL.1.symm) B.1.2.2.2.1 (B.1.2.2.2.2.1 _ hl) (B.1.2.2.2.2.1 _ h2) (B.1.2.2.2.2.1 _ h3) (B.1.2.2.2.2.1 _ h4) (by omega) (by rw [cat_map]; show (rest.map Value.category).sum + 13 ≤ _; omega) (by omega) (by omega) hd (kk p l e R s m args below meth c Q B H locs cells slots ls hc hs hR hS hL)
theorem x_mmin {idx : Nat} {x y : Int32} (hd : decode (mcc M) pc = .ok (.invokestatic idx, 3)) (hl : Cond.methodLink (my M).cls idx Lib.Math.min.name ∈ lwT) (h2 : Cond.static Lib.Math.min.name ∈ lwT) (h3 : Cond.initialized "java/lang/Math" ∈ lwT) (h4 : Cond.code Lib.Math.min.name Lib.Math.min.code 2 (some .int) ∈ lwT) (hr1 : Nat.ble 1 r.1 = true) (hrest : Nat.ble (rest.map Value.category).sum 8 = true)
    (kk : X M G r S I L (pc + 3) loc (.int (if y < x then y else x) :: rest) Post) : X M G r S I L pc loc (.int y :: .int x :: rest) Post := by
  intro p l e R s m args below meth c Q B H locs cells slots ls hc hs hR hS hL
  have hf1 : r.1 ≤ R.frames := B.2.2.2.2.2.1
  have hf2 : 500 * r.1 ≤ R.locals := B.2.2.2.2.2.2
  have h1 : 1 ≤ r.1 := Nat.le_of_ble_eq_true hr1
  have h5 := Nat.le_of_ble_eq_true hrest
  exact va_mmin B.1.1 B.1.2.1 (B.1.2.2.1.trans hL.1.symm) B.1.2.2.2.1 (B.1.2.2.2.2.1 _ hl) (B.1.2.2.2.2.1 _ h2) (B.1.2.2.2.2.1 _ h3) (B.1.2.2.2.2.1 _ h4) (by omega) (by rw [cat_map]; show (rest.map Value.category).sum + 13 ≤ _; omega) (by omega) (by omega) hd (kk p l e R s m args below meth c Q B H locs cells slots ls hc hs hR hS hL)
theorem x_mabs {idx : Nat} {x : Int32} (hd : decode (mcc M) pc = .ok (.invokestatic idx, 3)) (hl : Cond.methodLink (my M).cls idx Lib.Math.abs.name ∈ lwT) (h2 : Cond.static Lib.Math.abs.name ∈ lwT) (h3 : Cond.initialized "java/lang/Math" ∈ lwT) (h4 : Cond.code Lib.Math.abs.name Lib.Math.abs.code 1 (some .int) ∈ lwT) (hr1 : Nat.ble 1 r.1 = true) (hrest : Nat.ble (rest.map Value.category).sum 8 = true)
    (kk : X M G r S I L (pc + 3) loc (.int (if 0 ≤ x then x else 0 - x) :: rest) Post) : X M G r S I L pc loc (.int x :: rest) Post := by
  intro p l e R s m args below meth c Q B H locs cells slots ls hc hs hR hS hL
  have hf1 : r.1 ≤ R.frames := B.2.2.2.2.2.1
  have hf2 : 500 * r.1 ≤ R.locals := B.2.2.2.2.2.2
  have h1 : 1 ≤ r.1 := Nat.le_of_ble_eq_true hr1
  have h5 := Nat.le_of_ble_eq_true hrest
  exact va_mabs B.1.1 B.1.2.1 (B.1.2.2.1.trans hL.1.symm) B.1.2.2.2.1 (B.1.2.2.2.2.1 _ hl) (B.1.2.2.2.2.1 _ h2) (B.1.2.2.2.2.1 _ h3) (B.1.2.2.2.2.1 _ h4) (by omega) (by rw [cat_map]; show (rest.map Value.category).sum + 13 ≤ _; omega) (by omega) (by omega) hd (kk p l e R s m args below meth c Q B H locs cells slots ls hc hs hR hS hL)
/-- KIND_ABOVE: the reference, and a cell of it -/
theorem x_getsKA {idx : Nat} (hd : decode (mcc M) pc = .ok (.getstatic idx, 3)) (hl : ((my M).cls, idx, "WhoeverHeard", "KIND_ABOVE", "[I", "WhoeverHeard") ∈ nwF) (kk : X M G r S I L (pc + 3) loc (.ref (1000000 + 100) :: rest) Post) : X M G r S I L pc loc rest Post := by
  intro p l e R s m args below meth c Q B H locs cells slots ls hc hs hR hS hL
  have K := kk p l e R s m args below meth c Q B H locs cells slots ls hc hs hR hS hL
  have e0 : (Value.ref (1000000 + 100) :: rest).map (vmap G) = .ref (gf G 100) :: rest.map (vmap G) := by
    show Value.ref (adr G (1000000 + 100)) :: _ = _
    rw [adr_f]
  rw [e0] at K
  exact va_getsN B.1.1 B.1.2.1 B.2.1.1 hS B.1.2.2.2.1 (va_Nw.use rfl (B.2.1.2.2.2.2.2.2.2.2.2.2 _ hl)) (fun x hx => hx) hd K
theorem x_ialdKA {i v : Int32} (hd : decode (mcc M) pc = .ok (.iaload, 1)) (hi : vp_in i 6) (hv : kaL.getD i.toNatClampNeg 0 = v) (kk : X M G r S I L (pc + 1) loc (.int v :: rest) Post) : X M G r S I L pc loc (.int i :: .ref (1000000 + 100) :: rest) Post := by
  intro p l e R s m args below meth c Q B H locs cells slots ls hc hs hR hS hL
  have e0 : (Value.int i :: Value.ref (1000000 + 100) :: rest).map (vmap G) = .int i :: .ref (gf G 100) :: rest.map (vmap G) := by
    show Value.int i :: Value.ref (adr G (1000000 + 100)) :: _ = _
    rw [adr_f]
  rw [e0]
  exact va_ti B.1.1 B.1.2.1 B.2.1.2.1 hS hi (v := .int v) (by rw [hv]) hd (kk p l e R s m args below meth c Q B H locs cells slots ls hc hs hR hS hL)
/-- the script -/
theorem x_ialdS {i : Int32} (hd : decode (mcc M) pc = .ok (.iaload, 1)) (hi : vp_in i (gL G)) (kk : X M G r S I L (pc + 1) loc (.int (gx G i.toNatClampNeg) :: rest) Post) : X M G r S I L pc loc (.int i :: .ref (1000000 + 200) :: rest) Post := by
  intro p l e R s m args below meth c Q B H locs cells slots ls hc hs hR hS hL
  have e0 : (Value.int i :: Value.ref (1000000 + 200) :: rest).map (vmap G) = .int i :: .ref (gf G 200) :: rest.map (vmap G) := by
    show Value.int i :: Value.ref (adr G (1000000 + 200)) :: _ = _
    rw [adr_f]
  rw [e0]
  have h9 : ¬ AA G (gf G 200) := by
    have := B.2.1.2.2.2.2.2.2.2.2.1
    show ¬ (gb G ≤ gf G 200)
    omega
  exact va_sld B.1.1 B.1.2.1 B.2.1.2.2.2.2.2.2.1 B.2.1.2.2.2.2.2.2.2.1 h9 hS hi hd (kk p l e R s m args below meth c Q B H locs cells slots ls hc hs hR hS hL)
theorem x_alenS {v : Int32} (hd : decode (mcc M) pc = .ok (.arraylength, 1)) (hv : nI (gL G) = v) (kk : X M G r S I L (pc + 1) loc (.int v :: rest) Post) : X M G r S I L pc loc (.ref (1000000 + 200) :: rest) Post := by
  intro p l e R s m args below meth c Q B H locs cells slots ls hc hs hR hS hL
  have K := kk p l e R s m args below meth c Q B H locs cells slots ls hc hs hR hS hL
  have e0 : (Value.ref (1000000 + 200) :: rest).map (vmap G) = .ref (gf G 200) :: rest.map (vmap G) := by
    show Value.ref (adr G (1000000 + 200)) :: _ = _
    rw [adr_f]
  rw [e0]
  have h9 : ¬ AA G (gf G 200) := by
    have := B.2.1.2.2.2.2.2.2.2.2.1
    show ¬ (gb G ≤ gf G 200)
    omega
  subst hv
  exact va_slen B.1.1 B.1.2.1 B.2.1.2.2.2.2.2.2.1 B.2.1.2.2.2.2.2.2.2.1 h9 hS hd K
/-- a string constant -/
theorem x_ldcS {i idx : Nat} (hd : decode (mcc M) pc = .ok (.ldc idx, 2)) (hi : Nat.ble (i + 1) nStr = true) (ho : stO.getD i "" = (my M).cls) (hk : stK.getD i 0 = idx) (kk : X M G r S I L (pc + 2) loc (.ref (1000000 + i) :: rest) Post) : X M G r S I L pc loc rest Post := by
  intro p l e R s m args below meth c Q B H locs cells slots ls hc hs hR hS hL
  have K := kk p l e R s m args below meth c Q B H locs cells slots ls hc hs hR hS hL
  have e0 : (Value.ref (1000000 + i) :: rest).map (vmap G) = .ref (gf G i) :: rest.map (vmap G) := by
    show Value.ref (adr G (1000000 + i)) :: _ = _
    rw [adr_f]
  rw [e0] at K
  have hz := B.2.1.2.2.1 i (Nat.le_of_ble_eq_true hi)
  rw [ho, hk] at hz
  exact va_ldcS B.1.1 B.1.2.1 B.1.2.2.2.1 hz hd K
theorem clampT (z : Int32) (hz : ¬ z < 0) : z.toInt = (z.toNatClampNeg : Int) := by
  have hz0 : (0 : Int) ≤ z.toInt := by
    have := Int32.not_lt.mp hz
    simpa using Int32.le_iff_toInt_le.mp this
  show z.toInt = ((z.toInt.toNat : Nat) : Int)
  omega
/-- System.arraycopy between two int arrays (or one) -/
theorem x_acopy {idx k0 k1 n0 n1 : Nat} {sp dp n : Int32} (hd : decode (mcc M) pc = .ok (.invokestatic idx, 3)) (hl : Cond.methodLink (my M).cls idx arraycopyName ∈ lwT) (h2 : Cond.native arraycopyName ∈ lwT) (h3 : Cond.static arraycopyName ∈ lwT) (h4 : Cond.initialized "java/lang/System" ∈ lwT)
    (hk0 : kd S k0 = n0 + 100) (hn0 : Nat.ble (k0 + 1) (sn S) = true) (hk1 : kd S k1 = n1 + 100) (hn1 : Nat.ble (k1 + 1) (sn S) = true) (hr1 : Nat.ble 1 r.1 = true) (hrest : Nat.ble (rest.map Value.category).sum 8 = true)
    (hs1 : ¬ sp < 0) (hs2 : ¬ dp < 0) (hs3 : ¬ n < 0) (hs4 : sp.toNatClampNeg + n.toNatClampNeg ≤ n0) (hs5 : dp.toNatClampNeg + n.toNatClampNeg ≤ n1)
    (kk : X M G r S (upr I k1 (va_cpy (I k0) (I k1) sp.toNatClampNeg dp.toNatClampNeg n.toNatClampNeg)) L (pc + 3) loc rest Post) : X M G r S I L pc loc (.int n :: .int dp :: .ref k1 :: .int sp :: .ref k0 :: rest) Post := by
  intro p l e R s m args below meth c Q B H locs cells slots ls hc hs hR hS hL
  have hf1 : r.1 ≤ R.frames := B.2.2.2.2.2.1
  have hf2 : 500 * r.1 ≤ R.locals := B.2.2.2.2.2.2
  have h1 : 1 ≤ r.1 := Nat.le_of_ble_eq_true hr1
  have h5 := Nat.le_of_ble_eq_true hrest
  obtain ⟨hkn0, ha0⟩ := hR.lt hn0
  obtain ⟨hkn1, ha1⟩ := hR.lt hn1
  have e0 : (Value.int n :: Value.int dp :: Value.ref k1 :: Value.int sp :: Value.ref k0 :: rest).map (vmap G) = .int n :: .int dp :: .ref (gb G + k1) :: .int sp :: .ref (gb G + k0) :: rest.map (vmap G) := by
    show Value.int n :: Value.int dp :: Value.ref (adr G k1) :: Value.int sp :: Value.ref (adr G k0) :: _ = _
    rw [ha0, ha1]
  rw [e0]
  have w0 := wsl_arr G S I L hkn0 hk0
  have w1 := wsl_arr G S I L hkn1 hk1
  have hD := wsl_D G S I L
  have hc0 : H[gb G + k0]? = some (vp_cell (gA G) (n0, .inl (I k0))) := hR.2.2 k0 _ w0
  have hc1 : H[gb G + k1]? = some (vp_cell (gA G) (n1, .inl (I k1))) := hR.2.2 k1 _ w1
  obtain ⟨-, c0, d0, m0, f0⟩ := (B.2.2.1.2 0 _ rfl).1 n0 (fun j => .int (I k0 j))
  obtain ⟨-, c1, d1, m1, f1⟩ := (B.2.2.1.2 0 _ rfl).1 n1 (fun j => .int (I k1 j))
  have hset : (wsl G S I L).set k1 (gb G + k1, .inl (gA G, (n1, .inl (va_cpy (I k0) (I k1) sp.toNatClampNeg dp.toNatClampNeg n.toNatClampNeg)))) = wsl G S (upr I k1 (va_cpy (I k0) (I k1) sp.toNatClampNeg dp.toNatClampNeg n.toNatClampNeg)) L := by
    refine wsl_set G S I _ L L S hkn1 rfl _ ?_ (fun j hj => cellE_c G S S I _ L L rfl rfl (upr_n I _ hj) rfl)
    rw [cellE_a G S _ L hk1, upr_s]
  intro T hT Y
  obtain ⟨vm', Y', stp⟩ := Y.arraycopy B.1.1 B.1.2.2.2.1 (B.1.2.2.2.2.1 _ hl) (B.1.2.2.2.2.1 _ h2) (B.1.2.2.2.2.1 _ h3) (B.1.2.2.2.2.1 _ h4) (src := gb G + k0) (dst := gb G + k1) (cs := vp_cell (gA G) (n0, .inl (I k0))) (cd := vp_cell (gA G) (n1, .inl (I k1))) (srcPos := sp) (destPos := dp) (n := n) (by rw [hT]; exact hc0) (by rw [hT]; exact hc1)
    (fun _ q => by cases q) (fun _ q => by cases q) (fun q => by cases q) (fun q => by cases q) d0 d1 f0 f1 (by simp [refKind]) hs1 hs2 hs3
    (by rw [clampT sp hs1, clampT n hs3]; show ¬ _ > ((arrV (gA G) n0 (fun j => .int (I k0 j))).slots.size : Int); rw [arrV_size]; omega)
    (by rw [clampT dp hs2, clampT n hs3]; show ¬ _ > ((arrV (gA G) n1 (fun j => .int (I k1 j))).slots.size : Int); rw [arrV_size]; omega)
    (fun vm₁ _ i hi => by
      have e : (vp_cell (gA G) (n0, .inl (I k0))).slots.getD (sp.toNatClampNeg + i) .null = .int (I k0 (sp.toNatClampNeg + i)) := by
        show (arrV (gA G) n0 (fun j => .int (I k0 j))).slots.getD _ _ = _
        rw [Array.getD_eq_getD_getElem?, arrV_read _ _ (by omega)]
        rfl
      rw [e]
      exact ⟨rfl, trivial⟩)
    (g := F0 m pc ls (.int n :: .int dp :: .ref (gb G + k1) :: .int sp :: .ref (gb G + k0) :: rest.map (vmap G))) rfl (hL.1.trans B.1.2.2.1.symm) (rest := rest.map (vmap G)) rfl (by rw [B.1.2.1]; exact hd) (by omega) (by show 2 * 0 + _ + (7 + 11) ≤ _; rw [cat_map]; show 2 * 0 + (rest.map Value.category).sum + _ ≤ _; omega)
  have e1 : copied (vp_cell (gA G) (n0, .inl (I k0))) (vp_cell (gA G) (n1, .inl (I k1))) sp dp n = vp_cell (gA G) (n1, .inl (va_cpy (I k0) (I k1) sp.toNatClampNeg dp.toNatClampNeg n.toNatClampNeg)) := va_copied (fun z => .int z) (gA G) (gA G) (I k0) (I k1) hs4
  rw [e1] at Y' stp
  have hlt : gb G + k1 < H.size := (Array.getElem?_eq_some_iff.mp hc1).1
  have hP1 : va_P (gD G) vwCl (wsl G S (upr I k1 (va_cpy (I k0) (I k1) sp.toNatClampNeg dp.toNatClampNeg n.toNatClampNeg)) L) (H.setIfInBounds (gb G + k1) (vp_cell (gA G) (n1, .inl (va_cpy (I k0) (I k1) sp.toNatClampNeg dp.toNatClampNeg n.toNatClampNeg)))) := by
    rw [← hset]
    exact hR.2.2.set hD w1 (show (H.setIfInBounds (gb G + k1) _)[gb G + k1]? = some _ by simp [Array.getElem?_setIfInBounds, hlt]) (fun q hq => by simp [Array.getElem?_setIfInBounds, Ne.symm hq])
  obtain ⟨t, a1, b1⟩ := kk p l e R s m args below meth c Q B _ _ cells slots ls hc hs ⟨by simp; exact hR.1, hR.2.1, hP1⟩ ⟨by simp; exact hS.1, fun q g1 g2 => by
      have hq : ¬ gb G + k1 = q := fun e => g2 (by rw [← e]; exact Nat.le_add_right _ _)
      rw [show (H.setIfInBounds (gb G + k1) (vp_cell (gA G) (n1, .inl (va_cpy (I k0) (I k1) sp.toNatClampNeg dp.toNatClampNeg n.toNatClampNeg))))[q]? = H[q]? by simp [Array.getElem?_setIfInBounds, hq]]
      exact hS.2.1 q g1 g2, fun q hq => by
      rcases List.mem_append.mp hq with h | h
      · exact hS.2.2 q h
      · obtain ⟨z, -, hz⟩ := List.mem_map.mp h
        rw [← hz]
        exact Nat.le_add_right _ _⟩ hL _ (by rw [← hT]; rfl) Y'
  exact ⟨t, stp t a1, b1⟩
end MORE
