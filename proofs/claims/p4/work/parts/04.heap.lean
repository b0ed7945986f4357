/-! returns, fields, arrays -/
theorem x_ret {M : MI} {G : WG} {r : Nat × Nat × Nat} {S : Shp} {I : IM} {L : LM} {pc : Nat} {loc : List Value} {Post : PostT} {v : Option Value} (hR : RetI M pc v) (hp : Post v S I L) : X M G r S I L pc loc v.toList Post := by
  intro p l e R s m args below meth c Q B H locs cells slots ls hc hs hRp hS hL
  have h := B.2.2.2.2.1 v S I L H locs cells slots pc ls hp hR hRp hS (by omega) (by omega)
  have e : (v.map (vmap G)).toList = v.toList.map (vmap G) := by cases v <;> rfl
  rw [e] at h
  exact h
theorem x_ireturn {M : MI} {G : WG} {r : Nat × Nat × Nat} {S : Shp} {I : IM} {L : LM} {pc : Nat} {loc : List Value} {Post : PostT} {x : Int32} {ty : FieldType} (hd : decode (mcc M) pc = .ok (.ireturn, 1)) (hm : mret M = some ty) (hn : narrow ty (.int x) = .int x) (hp : Post (some (.int x)) S I L) : X M G r S I L pc loc [.int x] Post :=
  x_ret (v := some (.int x)) (Or.inl ⟨x, ty, rfl, hm, hn, hd⟩) hp
theorem x_lreturn {M : MI} {G : WG} {r : Nat × Nat × Nat} {S : Shp} {I : IM} {L : LM} {pc : Nat} {loc : List Value} {Post : PostT} {x : Int64} (hd : decode (mcc M) pc = .ok (.lreturn, 1)) (hm : mret M = some .long) (hp : Post (some (.long x)) S I L) : X M G r S I L pc loc [.long x] Post :=
  x_ret (v := some (.long x)) (Or.inr (Or.inl ⟨x, rfl, hm, hd⟩)) hp
theorem x_return {M : MI} {G : WG} {r : Nat × Nat × Nat} {S : Shp} {I : IM} {L : LM} {pc : Nat} {loc : List Value} {Post : PostT} (hd : decode (mcc M) pc = .ok (.return_, 1)) (hm : mret M = none) (hp : Post none S I L) : X M G r S I L pc loc [] Post :=
  x_ret (v := none) (Or.inr (Or.inr ⟨rfl, hm, hd⟩)) hp
def FLink (own : String) (idx ci j : Nat) : Prop := ∃ q : vw_C, vwCl[ci]? = some q ∧ j < q.2.2 ∧ Cond.fieldLink own idx (q.2.1 j).1 (q.2.1 j).2.1 (q.2.1 j).2.2.1 ∈ lwT
theorem fs_get {α : Type} (f : Nat → α) {n j : Nat} (h : j < n) : ((List.range n).map f)[j]? = some (f j) := by simp [h]
theorem fs_set {α : Type} (f g : Nat → α) {n j : Nat} (h : j < n) (ho : ∀ i, i ≠ j → g i = f i) : ((List.range n).map f).set j (g j) = (List.range n).map g := by
  apply List.ext_getElem?
  intro i
  by_cases hi : i = j
  · subst hi
    rw [List.getElem?_set_self (by simpa using h)]
    simp [h]
  · rw [List.getElem?_set_ne (fun q => hi q.symm)]
    simp only [List.getElem?_map, List.getElem?_range]
    by_cases h2 : i < n
    · simp [h2, ho i hi]
    · simp [h2]
theorem Rep.lt {G : WG} {S : Shp} {I : IM} {L : LM} {H : Heap} (h : Rep G S I L H) {k : Nat} (hk : Nat.ble (k + 1) (sn S) = true) : k < sn S ∧ adr G k = gb G + k := by
  have h1 : k < sn S := Nat.le_of_ble_eq_true hk
  exact ⟨h1, adr_o G (Nat.lt_trans h1 h.2.1)⟩
section FLD
variable {M : MI} {G : WG} {r : Nat × Nat × Nat} {S : Shp} {I : IM} {L : LM} {pc : Nat} {loc rest : List Value} {Post : PostT}
theorem x_get {ci j k idx : Nat} {v : Value} (hf : FLink (my M).cls idx ci j) (hk : kd S k = ci) (hn : Nat.ble (k + 1) (sn S) = true) (hv : fval G S I L ci k j = vmap G v) (hd : decode (mcc M) pc = .ok (.getfield idx, 3)) (kk : X M G r S I L (pc + 3) loc (v :: rest) Post) : X M G r S I L pc loc (.ref k :: rest) Post := by
  intro p l e R s m args below meth c Q B H locs cells slots ls hc hs hR hS hL
  obtain ⟨q, hq, hj, hw⟩ := hf
  obtain ⟨c1, c2, c3, c4, c5, c6⟩ := cls_ok ci q hq
  obtain ⟨hkn, ha⟩ := hR.lt hn
  have ee : (Value.ref k :: rest).map (vmap G) = .ref (gb G + k) :: rest.map (vmap G) := by
    show Value.ref (adr G k) :: _ = _
    rw [ha]
  rw [ee]
  exact va_get B.1.1 B.1.2.1 B.1.2.2.2.2.1 c1 B.1.2.2.2.1 B.2.2.1 hR.2.2 k (wsl_obj G S I L hkn hk c6) hq j hj (B.1.2.2.2.2.1 _ hw) (fun x hx => hx) (v := vmap G v) (by rw [fs_get _ (by rw [c4]; exact hj), hv]) hd (kk p l e R s m args below meth c Q B H locs cells slots ls hc hs hR hS hL)
theorem x_getI {ci j k idx : Nat} (hf : FLink (my M).cls idx ci j) (ht : ft ci j = 0) (hd : decode (mcc M) pc = .ok (.getfield idx, 3)) (hk : kd S k = ci) (hn : Nat.ble (k + 1) (sn S) = true) (kk : X M G r S I L (pc + 3) loc (.int (I k j) :: rest) Post) : X M G r S I L pc loc (.ref k :: rest) Post :=
  x_get hf hk hn (v := .int (I k j)) (by simp [fval, ht, vmap]) hd kk
theorem x_getJ {ci j k idx : Nat} (hf : FLink (my M).cls idx ci j) (ht : ft ci j = 1) (hd : decode (mcc M) pc = .ok (.getfield idx, 3)) (hk : kd S k = ci) (hn : Nat.ble (k + 1) (sn S) = true) (kk : X M G r S I L (pc + 3) loc (.long (L k j) :: rest) Post) : X M G r S I L pc loc (.ref k :: rest) Post :=
  x_get hf hk hn (v := .long (L k j)) (by simp [fval, ht, vmap]) hd kk
theorem x_getR {ci j k idx a : Nat} (hf : FLink (my M).cls idx ci j) (ht : ft ci j = 2) (hd : decode (mcc M) pc = .ok (.getfield idx, 3)) (hk : kd S k = ci) (hn : Nat.ble (k + 1) (sn S) = true) (hr : rr S k j = a + 1) (kk : X M G r S I L (pc + 3) loc (.ref a :: rest) Post) : X M G r S I L pc loc (.ref k :: rest) Post :=
  x_get hf hk hn (v := .ref a) (by simp [fval, ht, vmap, hr, rv]) hd kk
/-- a field written: the picture is another -/
theorem x_put {ci j k idx : Nat} {S' : Shp} {I' : IM} {L' : LM} {v : Value} (hf : FLink (my M).cls idx ci j) (hk : kd S k = ci) (hn : Nat.ble (k + 1) (sn S) = true) (hsn : sn S' = sn S) (hkd : kd S' = kd S)
    (ho : ∀ i, i ≠ k → rr S' i = rr S i ∧ I' i = I i ∧ L' i = L i) (hv : fval G S' I' L' ci k j = vmap G v) (hj0 : ∀ i, i ≠ j → fval G S' I' L' ci k i = fval G S I L ci k i) (hnr : narrow (tyF ci j) (vmap G v) = vmap G v) (hft : fits (tyF ci j) (vmap G v) = true)
    (hfi : ∀ q : vw_C, vwCl[ci]? = some q → (q.2.1 j).2.2.2 = false ∨ ((q.2.1 j).2.2.2 = true ∧ (my M).name = "<init>" ∧ (q.2.1 j).1 = (my M).cls))
    (hd : decode (mcc M) pc = .ok (.putfield idx, 3)) (kk : X M G r S' I' L' (pc + 3) loc rest Post) : X M G r S I L pc loc (v :: .ref k :: rest) Post := by
  intro p l e R s m args below meth c Q B H locs cells slots ls hc hs hR hS hL
  obtain ⟨q, hq, hj, hw⟩ := hf
  obtain ⟨c1, c2, c3, c4, c5, c6⟩ := cls_ok ci q hq
  obtain ⟨hkn, ha⟩ := hR.lt hn
  have ee : (v :: Value.ref k :: rest).map (vmap G) = vmap G v :: .ref (gb G + k) :: rest.map (vmap G) := by
    show vmap G v :: Value.ref (adr G k) :: _ = _
    rw [ha]
  rw [ee]
  have hset : (wsl G S I L).set k (gb G + k, .inr (ci, ((List.range (nf ci)).map (fval G S I L ci k)).set j (vmap G v))) = wsl G S' I' L' := by
    refine wsl_set G S I I' L L' S' hkn hsn _ ?_ (fun i hi => cellE_c G S S' I I' L L' (by rw [hkd]) (ho i hi).1 (ho i hi).2.1 (ho i hi).2.2)
    rw [cellE_o G S' I' L' (by rw [hkd]; exact hk) c6, ← hv, fs_set _ _ (by rw [c4]; exact hj) hj0]
  have kk' : ∀ (H1 : Heap) (locs1 : List Loc), H1.size = H.size → va_P (gD G) vwCl (wsl G S' I' L') H1 → va_S (AA G) s.heap H1 locs1 → W p l e R s m args below meth c H1 locs1 cells slots Q (F0 m (pc + 3) ls (rest.map (vmap G))) := fun H1 locs1 hz hP1 hS1 =>
    kk p l e R s m args below meth c Q B H1 locs1 cells slots ls hc hs ⟨by rw [hz, hsn]; exact hR.1, by rw [hsn]; exact hR.2.1, hP1⟩ hS1 hL
  have hN : narrow (tyF ci j) (vmap G v) = vmap G v := hnr
  have hhe := wsl_obj G S I L hkn hk c6
  have hD := wsl_D G S I L
  have hl : j < ((List.range (nf ci)).map (fval G S I L ci k)).length := by simp [c4]; exact hj
  have hap := va_apart (own := (my M).cls) B.1.2.2.2.2.1 c1 (tyF ci) c3 c2 B.2.2.1 hq
  obtain ⟨r0, h1, cell, q1, q2, q3, q4⟩ := hR.2.2 k _ hhe
  have hr : q = r0 := Option.some.inj (hq.symm.trans h1)
  subst hr
  obtain ⟨hS1, hfc, kC, hkC, hkind⟩ := B.2.2.1.1 ci _ hq
  obtain ⟨cf, kf, fi, f, hi, hsl⟩ := hS1 j hj
  have hlay := B.1.2.2.2.2.1 _ (c1 _ (u_in_lay hj))
  have hst := (u_facts hfc hkC (u_lays B.1.2.2.2.2.1 c1 hj) hi).1
  have fin : ∀ H' : Heap, H'[gb G + k]? = some (cell.setSlot ((gD G).2 ci j) (vmap G v)) → H'.size = H.size → (∀ q, q ≠ gb G + k → H'[q]? = H[q]?) → W p l e R s m args below meth c H' (locs ++ [⟨gb G + k, (gD G).2 ci j⟩]) cells slots Q (F0 m (pc + 3) ls (rest.map (vmap G))) := by
    intro H' e1 e2 e3
    refine kk' H' _ e2 ?_ (hS.put e2 e3 (hD.2 k _ hhe))
    rw [← hset]
    exact hR.2.2.set hD hhe ⟨_, hq, t_OB.to (V := updV (vp_V ((List.range (nf ci)).map (fval G S I L ci k))) j (vmap G v)) ⟨_, e1, q2, q3, t_set q4 hap hj (vmap G v)⟩ (fun i _ => vp_updV_set hl (vmap G v) i)⟩ e3
  rcases hfi q hq with hfin | ⟨hfin, hin2, hdecl⟩
  · unfold u_lay at hlay
    rw [if_neg (by rw [hfin]; decide)] at hlay
    have h6 := u_store hfc hkC hkind hlay hi (c3 j hj) hN hft
    refine W.putK B.1.1 B.1.2.1 (f := f) ⟨B.1.2.2.2.1, B.1.2.2.2.2.1 _ hw, ⟨_, _, _, hi⟩, hst⟩ (by rw [q2]; exact h6) q1 q3 (by rw [hsl]; exact k2_hasslot (q4 j hj)) rfl rfl hd fun H' e1 e2 e3 => ?_
    rw [hsl] at e1 ⊢
    exact fin H' e1 e2 e3
  · unfold u_lay at hlay
    rw [if_pos hfin] at hlay
    have hcf : m.cls = cf := by
      obtain ⟨_, _, c', _, _, _, -, -, hf', -, -, -, hown2, -⟩ := Cond.laysFinal_spec hlay
      have e1 : c' = cf := by have := hi.symm.trans hf'; simp at this; exact this.1.symm
      rw [hdecl] at hown2
      rw [← e1]; exact Option.some.inj (B.1.2.2.2.1.symm.trans hown2)
    have h6 := u_fits hfc hkC hkind (Or.inr hlay) hi (c3 j hj) hN hft
    refine W.putFinK B.1.1 B.1.2.1 B.1.2.2.2.1 (B.1.2.2.2.2.1 _ hw) hi hst hcf (B.1.2.2.2.2.2.trans hin2) (by rw [q2]; exact h6) q1 q3 (by rw [hsl]; exact k2_hasslot (q4 j hj)) rfl rfl hd fun H' e1 e2 e3 => ?_
    rw [hsl] at e1 ⊢
    exact fin H' e1 e2 e3
theorem fval_c (G : WG) (S S' : Shp) (I I' : IM) (L L' : LM) (c k i : Nat) (h1 : rr S' k i = rr S k i) (h2 : I' k i = I k i) (h3 : L' k i = L k i) : fval G S' I' L' c k i = fval G S I L c k i := by
  simp [fval, h1, h2, h3]
def FinOk (M : MI) (ci j : Nat) : Bool := match vwCl[ci]? with
  | none => true
  | some q => !(q.2.1 j).2.2.2 || ((my M).name == "<init>" && (q.2.1 j).1 == (my M).cls)
theorem FinOk.use {M : MI} {ci j : Nat} (h : FinOk M ci j = true) : ∀ q : vw_C, vwCl[ci]? = some q → (q.2.1 j).2.2.2 = false ∨ ((q.2.1 j).2.2.2 = true ∧ (my M).name = "<init>" ∧ (q.2.1 j).1 = (my M).cls) := by
  intro q hq
  unfold FinOk at h
  rw [hq] at h
  by_cases hf : (q.2.1 j).2.2.2 = true
  · right
    simp [hf] at h
    exact ⟨hf, h.1, h.2⟩
  · left
    simpa using hf
theorem x_putI {ci j k idx : Nat} {x : Int32} (hf : FLink (my M).cls idx ci j) (ht : ft ci j = 0) (hd : decode (mcc M) pc = .ok (.putfield idx, 3)) (hfi : FinOk M ci j = true) (hk : kd S k = ci) (hn : Nat.ble (k + 1) (sn S) = true) (hnr : narrow (tyF ci j) (.int x) = .int x) (hft : fits (tyF ci j) (.int x) = true) (kk : X M G r S (up2 I k j x) L (pc + 3) loc rest Post) : X M G r S I L pc loc (.int x :: .ref k :: rest) Post :=
  x_put (I' := up2 I k j x) (S' := S) (L' := L) (v := .int x) hf hk hn rfl rfl (fun i hi => ⟨rfl, up2_n I j x hi, rfl⟩) (by simp [fval, ht, vmap, up2_s, up1]) (fun i hi => fval_c G S S I _ L L ci k i rfl (by rw [up2_s]; simp [up1, hi]) rfl) hnr hft (FinOk.use hfi) hd kk
theorem x_putJ {ci j k idx : Nat} {x : Int64} (hf : FLink (my M).cls idx ci j) (ht : ft ci j = 1) (hd : decode (mcc M) pc = .ok (.putfield idx, 3)) (hfi : FinOk M ci j = true) (hk : kd S k = ci) (hn : Nat.ble (k + 1) (sn S) = true) (hnr : narrow (tyF ci j) (.long x) = .long x) (hft : fits (tyF ci j) (.long x) = true) (kk : X M G r S I (up2 L k j x) (pc + 3) loc rest Post) : X M G r S I L pc loc (.long x :: .ref k :: rest) Post :=
  x_put (I' := I) (S' := S) (L' := up2 L k j x) (v := .long x) hf hk hn rfl rfl (fun i hi => ⟨rfl, rfl, up2_n L j x hi⟩) (by simp [fval, ht, vmap, up2_s, up1]) (fun i hi => fval_c G S S I I L _ ci k i rfl rfl (by rw [up2_s]; simp [up1, hi])) hnr hft (FinOk.use hfi) hd kk
theorem x_putR {ci j k idx a : Nat} {n : Nat} {kf : Nat → Nat} {rf : Nat → Nat → Nat} (hf : FLink (my M).cls idx ci j) (ht : ft ci j = 2) (hd : decode (mcc M) pc = .ok (.putfield idx, 3)) (hfi : FinOk M ci j = true) (hk : kf k = ci) (hn : Nat.ble (k + 1) n = true) (hnr : ∀ b, narrow (tyF ci j) (.ref b) = .ref b) (hft : ∀ b, fits (tyF ci j) (.ref b) = true) (kk : X M G r (n, kf, up2 rf k j (a + 1)) I L (pc + 3) loc rest Post) : X M G r (n, kf, rf) I L pc loc (.ref a :: .ref k :: rest) Post :=
  x_put (S := (n, kf, rf)) (I' := I) (S' := (n, kf, up2 rf k j (a + 1))) (L' := L) (v := .ref a) hf hk hn rfl rfl (fun i hi => ⟨up2_n rf j (a + 1) hi, rfl, rfl⟩) (by simp [fval, ht, vmap, rr, up2_s, up1, rv]) (fun i hi => fval_c G (n, kf, rf) _ I I L L ci k i (by simp [rr, up2_s, up1, hi]) rfl rfl) (hnr _) (hft _) (FinOk.use hfi) hd kk
/-! int arrays -/
theorem x_iald {k n : Nat} {i : Int32} (hd : decode (mcc M) pc = .ok (.iaload, 1)) (hk : kd S k = n + 100) (hn : Nat.ble (k + 1) (sn S) = true) (hi : vp_in i n) (kk : X M G r S I L (pc + 1) loc (.int (I k i.toNatClampNeg) :: rest) Post) : X M G r S I L pc loc (.int i :: .ref k :: rest) Post := by
  intro p l e R s m args below meth c Q B H locs cells slots ls hc hs hR hS hL
  obtain ⟨hkn, ha⟩ := hR.lt hn
  have ee : (Value.int i :: Value.ref k :: rest).map (vmap G) = .int i :: .ref (gb G + k) :: rest.map (vmap G) := by
    show Value.int i :: Value.ref (adr G k) :: _ = _
    rw [ha]
  rw [ee]
  exact va_iald B.1.1 B.1.2.1 B.2.2.1 hR.2.2 k 0 (wsl_arr G S I L hkn hk) rfl hi hd (kk p l e R s m args below meth c Q B H locs cells slots ls hc hs hR hS hL)
theorem x_iast {k n : Nat} {i x : Int32} (hd : decode (mcc M) pc = .ok (.iastore, 1)) (hk : kd S k = n + 100) (hn : Nat.ble (k + 1) (sn S) = true) (hi : vp_in i n) (kk : X M G r S (up2 I k i.toNatClampNeg x) L (pc + 1) loc rest Post) : X M G r S I L pc loc (.int x :: .int i :: .ref k :: rest) Post := by
  intro p l e R s m args below meth c Q B H locs cells slots ls hc hs hR hS hL
  obtain ⟨hkn, ha⟩ := hR.lt hn
  have ee : (Value.int x :: Value.int i :: Value.ref k :: rest).map (vmap G) = .int x :: .int i :: .ref (gb G + k) :: rest.map (vmap G) := by
    show Value.int x :: Value.int i :: Value.ref (adr G k) :: _ = _
    rw [ha]
  rw [ee]
  have hhe := wsl_arr G S I L hkn hk
  have hD := wsl_D G S I L
  have hset : (wsl G S I L).set k (gb G + k, .inl (gA G, (n, .inl (upd (I k) i.toNatClampNeg x)))) = wsl G S (up2 I k i.toNatClampNeg x) L := by
    refine wsl_set G S I _ L L S hkn rfl _ ?_ (fun j hj => cellE_c G S S I _ L L rfl rfl (up2_n I _ x hj) rfl)
    rw [cellE_a G S _ L hk, up2_s, up1_upd]
  refine W.iast B.1.1 B.1.2.1 (hR.2.2 k _ hhe) ((B.2.2.1.2 0 _ rfl).1 n (fun j => .int (I k j))) (fun q => by cases q) (by show ¬ (i < 0 ∨ (arrV _ _ _).slots.size ≤ _); rw [arrV_size]; exact hi) rfl rfl hd fun H1 e1 z oq => ?_
  refine kk p l e R s m args below meth c Q B H1 _ cells slots ls hc hs ⟨by rw [z]; exact hR.1, hR.2.1, ?_⟩ (hS.put z oq (hD.2 k _ hhe)) hL
  rw [← hset]
  refine hR.2.2.set hD hhe ?_ oq
  show H1[gb G + k]? = some (vp_cell _ _)
  rw [e1]
  rw [vp_cell_i, vp_cell_i, arrV_store]
  congr 2
  funext j
  simp only [updV, upd]
  split <;> rfl
theorem x_alen {k n : Nat} {v : Int32} (hd : decode (mcc M) pc = .ok (.arraylength, 1)) (hk : kd S k = n + 100) (hn : Nat.ble (k + 1) (sn S) = true) (hv : Int32.ofNat n = v) (kk : X M G r S I L (pc + 1) loc (.int v :: rest) Post) : X M G r S I L pc loc (.ref k :: rest) Post := by
  intro p l e R s m args below meth c Q B H locs cells slots ls hc hs hR hS hL
  obtain ⟨hkn, ha⟩ := hR.lt hn
  have ee : (Value.ref k :: rest).map (vmap G) = .ref (gb G + k) :: rest.map (vmap G) := by
    show Value.ref (adr G k) :: _ = _
    rw [ha]
  rw [ee]
  exact va_alen B.1.1 B.1.2.1 B.2.2.1 hR.2.2 k 0 (wsl_arr G S I L hkn hk) rfl hv hd (kk p l e R s m args below meth c Q B H locs cells slots ls hc hs hR hS hL)
/-! new cells -/
theorem x_newarr {N : Nat} {n : Nat} {kf : Nat → Nat} {rf : Nat → Nat → Nat} {d rc rs : Nat} {i : Int32} (hd : decode (mcc M) pc = .ok (.newarray .int, 2)) (hi : i = Int32.ofNat N) (hN : N ≤ 100000) (hn : n + 1 < 1000000)
    (kk : X M G (d, rc, rs) (n + 1, up1 kf n (N + 100), rf) (upr I n (fun _ => 0)) L (pc + 2) loc (.ref n :: rest) Post) : X M G (d, rc + 1, rs + N) (n, kf, rf) I L pc loc (.int i :: rest) Post := by
  intro p l e R s m args below meth c Q B H locs cells slots ls hc hs hR hS hL
  subst hi
  dsimp only at hc hs
  have hNn : (Int32.ofNat N).toNatClampNeg = N := nI_clamp (n := N) (by omega)
  refine va_newaK B.1.1 B.1.2.1 (atype := .int) (B.1.2.2.2.2.1 _ (lwT_of (List.mem_of_getElem? (i := arrIntAt) (by decide +kernel)) rfl)) (g := F0 m pc ls ((Value.int (Int32.ofNat N) :: rest).map (vmap G))) rfl hd rfl (nI_pos (n := N) (by omega)) hNn (by show N * 4 ≤ 536870912; omega) (by omega) (by omega) rfl fun H1 cA e1 z1 o1 hAr hNm => ?_
  have hcA : cA = gA G := by
    have h1 := (B.2.2.1.2 0 _ rfl).2
    have h2 : s.vm.findClass ("[" ++ (FieldType.int).toString) = some (gA G) := h1
    exact Option.some.inj (hNm.symm.trans h2)
  subst hcA
  have hsz : H.size = gb G + n := hR.1
  have e2 : (Value.ref n :: rest).map (vmap G) = .ref H.size :: rest.map (vmap G) := by
    show Value.ref (adr G n) :: _ = _
    rw [adr_o G (by omega), hsz]
  have K := kk p l e R s m args below meth c Q B H1 locs (cells + 1) (slots + N) ls (by dsimp only; omega) (by dsimp only; omega) ⟨by rw [z1, hsz]; rfl, hn, ?_⟩ ⟨Nat.le_trans hS.1 (by omega), fun x h1 h2 => (o1 x (Nat.lt_of_lt_of_le h1 hS.1)).trans (hS.2.1 x h1 h2), hS.2.2⟩ hL
  · rw [e2] at K
    exact K
  · rw [← wsl_push G (n, kf, rf) (n + 1, up1 kf n (N + 100), rf) I (upr I n (fun _ => 0)) L L rfl (.inl (gA G, (N, .inl (fun _ => 0)))) ?_ ?_]
    · refine (hR.2.2.kept (fun k x hx => o1 x.1 ((hR.2.2 k x hx).lt))).app (fun k x hx => ?_)
      have hz : k < 1 := (List.getElem?_eq_some_iff.mp hx).1
      rw [show k = 0 by omega] at hx
      cases hx
      show H1[gb G + n]? = some (vp_cell _ _)
      rw [vp_cell_i, ← hsz]
      exact e1
    · rw [cellE_a G _ _ L (n := N) (by simp [kd, sn, up1])]
      rw [show upr I n (fun _ => (0 : Int32)) (sn (n, kf, rf)) = fun _ => 0 from upr_s I n _]
    · intro j hj
      have hj' : j < n := hj
      exact cellE_c G _ _ I _ L L (by simp [kd, up1]; omega) rfl (upr_n I _ (by omega)) rfl
theorem x_new {ci n idx : Nat} {kf : Nat → Nat} {rf : Nat → Nat → Nat} {d rc rs : Nat} {q : vw_C} (hd : decode (mcc M) pc = .ok (.new idx, 3)) (hq : vwCl[ci]? = some q) (hw1 : Cond.classLink (my M).cls idx q.1 ∈ lwT) (hw2 : Cond.instantiable q.1 q.2.2 ∈ lwT) (hw3 : Cond.initialized q.1 ∈ lwT) (hn : n + 1 < 1000000)
    (kk : X M G (d, rc, rs) (n + 1, up1 kf n ci, upr rf n (fun _ => 0)) (upr I n (fun _ => 0)) (upr L n (fun _ => 0)) (pc + 3) loc (.ref n :: rest) Post) : X M G (d, rc + 1, rs + q.2.2) (n, kf, rf) I L pc loc rest Post := by
  intro p l e R s m args below meth c Q B H locs cells slots ls hc hs hR hS hL
  dsimp only at hc hs
  obtain ⟨c1, c2, c3, c4, c5, c6⟩ := cls_ok ci q hq
  have hKn := B.2.2.1.1 ci _ hq
  have hsz : H.size = gb G + n := hR.1
  refine W.newcK B.1.1 B.1.2.1 B.1.2.2.2.1 (B.1.2.2.2.2.1 _ hw1) (B.1.2.2.2.2.1 _ hw2) (B.1.2.2.2.2.1 _ hw3) rfl hd (by omega) (by omega) hKn.2.1 rfl fun H1 kC hkC e1 z1 o1 => ?_
  have e2 : (Value.ref n :: rest).map (vmap G) = .ref H.size :: rest.map (vmap G) := by
    show Value.ref (adr G n) :: _ = _
    rw [adr_o G (by omega), hsz]
  have K := kk p l e R s m args below meth c Q B H1 locs (cells + 1) (slots + q.2.2) ls (by dsimp only; omega) (by dsimp only; omega) ⟨by rw [z1, hsz]; rfl, hn, ?_⟩ ⟨Nat.le_trans hS.1 (by omega), fun x h1 h2 => (o1 x (Nat.lt_of_lt_of_le h1 hS.1)).trans (hS.2.1 x h1 h2), hS.2.2⟩ hL
  · rw [e2] at K
    exact K
  · rw [← wsl_push G (n, kf, rf) (n + 1, up1 kf n ci, upr rf n (fun _ => 0)) I (upr I n (fun _ => 0)) L (upr L n (fun _ => 0)) rfl (.inr (ci, (List.range (nf ci)).map (fun j => defaultValue (tyF ci j)))) ?_ ?_]
    · refine (hR.2.2.kept (fun k x hx => o1 x.1 ((hR.2.2 k x hx).lt))).app (fun k x hx => ?_)
      have hz : k < 1 := (List.getElem?_eq_some_iff.mp hx).1
      rw [show k = 0 by omega] at hx
      cases hx
      refine ⟨q, hq, ?_⟩
      have hb := u_born (tyF ci) B.1.2.2.2.2.1 c1 hKn hkC e1 c3
      rw [hsz] at hb
      refine hb.to fun j hj => ?_
      have hj2 : j < nf ci := by rw [c4]; exact hj
      simp [vp_V, hj2]
    · rw [cellE_o G _ _ _ (c := ci) (by simp [kd, sn, up1]) c6]
      congr 2
      refine List.map_congr_left fun j hj => ?_
      have hj' : j < q.2.2 := by rw [← c4]; exact List.mem_range.mp hj
      rcases c5 j hj' with ⟨h1, h2⟩ | ⟨h1, h2⟩ | ⟨h1, h2⟩
      · simp only [fval, h1, sn, upr_s]
        rcases h2 with h2 | h2 <;> rw [h2] <;> rfl
      · simp only [fval, h1, sn, upr_s, h2]
        rfl
      · simp only [fval, h1, sn, rr, upr_s, rv]
        cases hty : tyF ci j <;> rw [hty] at h2 <;> first | rfl | (cases h2)
    · intro j hj
      have hj' : j < n := hj
      exact cellE_c G _ _ I _ L _ (by simp [kd, up1]; omega) (upr_n rf _ (by omega)) (upr_n I _ (by omega)) (upr_n L _ (by omega))
end FLD
