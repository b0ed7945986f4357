/-! contracts and calls -/
abbrev SpT : Type := List Value → Shp → IM → LM → PostT → Prop
def rmO (d mc ms : Nat) : Room := { frames := d, cells := mc, slots := ms, locals := 500 * d }
def ATC (G : WG) (S : Shp) (I : IM) (L : LM) (U : State) : Prop := Rep G S I L U.heap ∧ FF G U ∧ va_K (gD G) vwCl [(gA G, .int)] U
def PP (G : WG) (as : List Value) (S : Shp) (I : IM) (L : LM) : Array Value → State → Prop := fun a U => a = (as.map (vmap G)).toArray ∧ ATC G S I L U
def QQ (G : WG) (Post : PostT) : Array Value → State → Outcome → State → Prop := fun _ st o t =>
  ∃ (v : Option Value) (S : Shp) (I : IM) (L : LM), o = .returned (v.map (vmap G)) ∧ Post v S I L ∧ Rep G S I L t.heap ∧ va_F (AA G) st t
def mws (M : MI) : List Cond := Cond.code (my M) (mcc M) (mnl M) (mret M) :: lwT
/-- the contract of a method: depth, new cells, their slots -/
def Con (M : MI) (d mc ms : Nat) (Sp : SpT) : Prop := ∀ (G : WG) (l : Launch) (as : List Value) (S : Shp) (I : IM) (L : LM) (Post : PostT), Sp as S I L Post → Met l (my M) (mws M) (rmO d mc ms) (PP G as S I L) (QQ G Post) mc ms (AA G)
def lz (i : Nat) (loc : List Value) : List (Nat × Value) := match loc with
  | [] => []
  | .null :: t => lz (i + 1) t
  | v :: t => (i, v) :: lz (i + 1) t
def ent (as : List Value) : List Value := match as with
  | [] => []
  | .long x :: t => .long x :: .null :: ent t
  | .double x :: t => .double x :: .null :: ent t
  | v :: t => v :: ent t
theorem ent_args (G : WG) : ∀ (as : List Value) (i j : Nat) (v : Value), (ent as)[j]? = some v → v ≠ .null → (i + j, vmap G v) ∈ lv_args i (as.map (vmap G)) := by
  intro as
  induction as with
  | nil => intro i j v h; simp [ent] at h
  | cons a t ih =>
    intro i j v h hv
    cases a with
    | long x =>
      match j, h with
      | 0, h => cases h; exact List.mem_cons_self
      | 1, h => cases h; exact absurd rfl hv
      | j + 2, h =>
        have h2 := ih (i + 2) j v h hv
        rw [show i + (j + 2) = i + 2 + j by omega]
        exact List.mem_cons_of_mem _ h2
    | double x =>
      match j, h with
      | 0, h => cases h; exact List.mem_cons_self
      | 1, h => cases h; exact absurd rfl hv
      | j + 2, h =>
        have h2 := ih (i + 2) j v h hv
        rw [show i + (j + 2) = i + 2 + j by omega]
        exact List.mem_cons_of_mem _ h2
    | _ =>
      match j, h with
      | 0, h => cases h; exact List.mem_cons_self
      | j + 1, h =>
        have h2 := ih (i + 1) j v h hv
        rw [show i + (j + 1) = i + 1 + j by omega]
        exact List.mem_cons_of_mem _ h2
theorem ent_len (G : WG) : ∀ as : List Value, (lg_sl (as.map (vmap G))).length = (ent as).length := by
  intro as
  induction as with
  | nil => rfl
  | cons a t ih =>
    have h1 : (lg_sl ((a :: t).map (vmap G))).length = (if a.category = 2 then 2 else 1) + (lg_sl (t.map (vmap G))).length := by
      simp only [lg_sl, List.map_cons, List.flatMap_cons, List.length_append, vcat]
      split <;> simp
    rw [h1, ih]
    cases a <;> simp [ent, Value.category] <;> omega
theorem con_of_X {M : MI} {d mc ms : Nat} {Sp : SpT} (hpl : plainName (my M).cls = true)
    (h : ∀ (G : WG) (as : List Value) (S : Shp) (I : IM) (L : LM) (Post : PostT), Sp as S I L Post → ∃ k, (ent as).length ≤ mnl M ∧ X M G (d, mc, ms) S I L 0 (ent as ++ List.replicate k .null) [] Post) : Con M d mc ms Sp := by
  intro G l as S I L Post hSp
  obtain ⟨k, hlen, hX⟩ := h G as S I L Post hSp
  refine Met.ofW (cc := mcc M) (maxL := mnl M) (ret := mret M) hpl rfl ?_
  intro p e s m args below meth c s₁ B hml hv
  obtain ⟨rfl, hRp, hFF, hK⟩ := hv
  have hts : ∀ w ∈ lwT, w.before _ s = true := fun w hw => atoms_spec (ws := mws M) B.pre w (List.mem_cons_of_mem _ hw)
  have hl := lv_entry (as.map (vmap G)) (n := mnl M) (by rw [ent_len]; exact hlen)
  rw [lg_entry_eq]
  generalize (lg_sl (as.map (vmap G)) ++ List.replicate (mnl M - (lg_sl (as.map (vmap G))).length) Slot.unset).toArray = ls at hl ⊢
  refine hX p l e _ s m _ below meth c _ ⟨⟨B.exec, B.bytes, hml, findClass_of_methodNamed B.named, hts, (name_of_methodNamed B.named B.method).1⟩, hFF, hK, by rw [hRp.1]; exact Nat.le_add_right _ _, ?_, Nat.le_refl _, Nat.le_refl _⟩ s.heap [] 0 0 ls (by show 0 + mc ≤ mc; omega) (by show 0 + ms ≤ ms; omega) hRp va_S.rf ⟨hl.1, hl.2.1, fun j v hj hv => ?_⟩
  · intro v S' I' L' H locs cells slots pc ls' hp hRet hR' hS' hc hs
    refine W.widen (k := mc) (n := ms) hc hs ?_
    have hq : ∀ t : State, t.heap = H → QQ G Post (as.map (vmap G)).toArray s (.returned (v.map (vmap G))) t := fun t ht => ⟨v, S', I', L', rfl, hp, by rw [ht]; exact hR', hS'.F ht⟩
    rcases hRet with ⟨x, ty, rfl, hm, hn, hd⟩ | ⟨x, rfl, hm, hd⟩ | ⟨rfl, hm, hd⟩
    · exact W.zret B.exec B.bytes (B.returns.trans hm) hn (fun t ht _ => hq t ht) hS'.2.2 hd B.notSynchronized
    · exact W.lret B.exec B.bytes (B.returns.trans hm) (fun t ht _ => hq t ht) hS'.2.2 hd B.notSynchronized
    · exact W.vret B.exec B.bytes (B.returns.trans hm) (fun t ht _ => hq t ht) hS'.2.2 hd B.notSynchronized
  · have hj2 : (ent as)[j]? = some v := by
      by_cases h1 : j < (ent as).length
      · rwa [List.getElem?_append_left h1] at hj
      · rw [List.getElem?_append_right (by omega), List.getElem?_replicate] at hj
        split at hj
        · exact absurd (Option.some.inj hj).symm hv
        · cases hj
    have h2 := ent_args G as 0 j v hj2 hv
    rw [Nat.zero_add] at h2
    exact hl.2.2 _ h2
theorem good_tbl : ∀ w ∈ lwT, ((w.onTables && w.keeps) = true ∨ ∃ ty, w = .arrayClass ty) := fun w hw => good_of_word (List.mem_filter.mp hw).2
theorem good_in {ws : List Cond} (h : ∀ w ∈ ws, w ∈ lwT) : GoodIn lwT ws := fun w hw => ⟨h w hw, good_tbl w (h w hw)⟩
theorem mws_in {M : MI} (h : Cond.code (my M) (mcc M) (mnl M) (mret M) ∈ lwT) : ∀ w ∈ mws M, w ∈ lwT := by
  intro w hw
  rcases List.mem_cons.mp hw with rfl | hw
  · exact h
  · exact hw
/-- what a call of M needs of the tables: n parameters -/
def MOk (M : MI) (n : Nat) : Prop := Cond.code (my M) (mcc M) (mnl M) (mret M) ∈ lwT ∧ Cond.initialized (my M).cls ∈ lwT ∧ ((my M).cls ≠ "java/lang/invoke/MethodHandle" ∧ (my M).cls ≠ "java/lang/invoke/VarHandle" ∧ (parseMethodDescriptor (my M).desc).map (fun d => d.parameters.length) = some n) ∧ mnl M ≤ 400
def VOk (M : MI) (n : Nat) : Prop := MOk M n ∧ Cond.instanceMethod (my M) ∈ lwT ∧ Cond.selects (my M).cls (my M) (my M) ∈ lwT
def IOk (M : MI) (n : Nat) : Prop := MOk M n ∧ Cond.instanceMethod (my M) ∈ lwT ∧ (my M).name = "<init>"
def SOk (M : MI) (n : Nat) : Prop := MOk M n ∧ Cond.static (my M) ∈ lwT
theorem PP.blind {G : WG} {as : List Value} {S : Shp} {I : IM} {L : LM} : FrameBlind (PP G as S I L) := fun a U g mk q =>
  ⟨q.1, q.2.1, q.2.2.1.blind g mk a, va_K.moved (u := U) (U := U.calling g mk a) (Vm.Alike.refl U.vm) q.2.2.2⟩
theorem cat_map (G : WG) (st : List Value) : ((st.map (vmap G)).map fun v => v.category) = st.map fun v => v.category := by
  rw [List.map_map]
  exact List.map_congr_left fun v _ => vcat G v
theorem x_back {M : MI} {G : WG} {d rc rs mc ms : Nat} {pc : Nat} {loc rest : List Value} {st : List Value} {Post : PostT} {p : Program} {l : Launch} {e : Env} {R : Room} {s : State} {m : MethodId} {args : Array Value} {below : List Frame} {meth : Method} {c : Code} {Q : State → Prop} {H : Heap} {locs : List Loc} {cells slots : Nat} {ls : Array Slot}
    (B : BX M G d Post p l e R s m args below meth c Q) (hc : cells + (rc + mc) ≤ R.cells) (hs : slots + (rs + ms) ≤ R.slots) (hS : va_S (AA G) s.heap H locs) (hL : LH G ls (mnl M) loc) {a : Array Value}
    (hr : va_Run p l e R s m args below meth c H locs cells slots mc ms (F0 m pc ls st) (rest.map (vmap G)) (QQ G (fun v S' I' L' => X M G (d, rc, rs) S' I' L' (pc + 3) loc (v.toList ++ rest) Post) a) (AA G)) :
    W p l e R s m args below meth c H locs cells slots Q (F0 m pc ls st) := by
  intro T hT X0
  obtain ⟨v, st₀, t, T', Lc, h0, X', hLc, e1, e2, ⟨v', S', I', L', hv, hp, hRp, hz, hk⟩, hst⟩ := hr T hT X0
  have hv' : v = v'.map (vmap G) := by cases hv; rfl
  subst hv'
  rw [h0] at hz hk
  obtain ⟨t2, a1, b1⟩ := hp p l e R s m args below meth c Q B T'.heap (locs ++ Lc) (cells + mc) (slots + ms) ls (by dsimp only; omega) (by dsimp only; omega) (by rw [e1]; exact hRp)
    ⟨Nat.le_trans hS.1 (by rw [e1]; exact hz), fun q h1 h2 => by rw [e1, hk q (Nat.lt_of_lt_of_le h1 hS.1) h2]; exact hS.2.1 q h1 h2, fun q hq => by
      rcases List.mem_append.mp hq with h | h
      · exact hS.2.2 q h
      · exact hLc q h⟩ hL T' rfl X'
  refine ⟨t2, hst t2 ?_, b1⟩
  have ee : (v'.toList ++ rest).map (vmap G) = (v'.map (vmap G)).toList ++ rest.map (vmap G) := by cases v' <;> rfl
  rw [ee] at a1
  exact a1
theorem x_pre {M : MI} {G : WG} {d : Nat} {S : Shp} {I : IM} {L : LM} {As : List Value} {Post : PostT} {p : Program} {l : Launch} {e : Env} {R : Room} {s : State} {m : MethodId} {args : Array Value} {below : List Frame} {meth : Method} {c : Code} {Q : State → Prop} {H : Heap} {locs : List Loc}
    (B : BX M G d Post p l e R s m args below meth c Q) (hR : Rep G S I L H) (hS : va_S (AA G) s.heap H locs) : ∀ U : State, U.heap = H → s.WarmedH U.vm → PP G As S I L (As.map (vmap G)).toArray U :=
  fun U hU hW => ⟨rfl, by rw [hU]; exact hR, B.2.1.go hW hU hS.1 hS.2.1, va_K.moved hW.alike B.2.2.1⟩
section CALLS
variable {M M2 : MI} {G : WG} {d rc rs mc ms d2 : Nat} {S : Shp} {I : IM} {L : LM} {pc : Nat} {loc rest As : List Value} {Post : PostT} {Sp : SpT} {n idx : Nat}
theorem x_callV {k ci : Nat} {st : List Value} (hM : Con M2 d2 mc ms Sp) (ho : VOk M2 n) (hl : Cond.methodLink (my M).cls idx (my M2) ∈ lwT) (hd : decode (mcc M) pc = .ok (.invokevirtual idx, 3)) (hdd : Nat.ble (d2 + 1) d = true) (hst : st = As.reverse ++ .ref k :: rest) (hn : As.length = n) (hk : kd S k = ci) (hkn : Nat.ble (k + 1) (sn S) = true) (hci : (vwCl[ci]?).map (fun q => q.1) = some (my M2).cls) (hrest : Nat.ble (rest.map Value.category).sum 8 = true)
    (hSp : Sp (.ref k :: As) S I L (fun v S' I' L' => X M G (d, rc, rs) S' I' L' (pc + 3) loc (v.toList ++ rest) Post)) : X M G (d, rc + mc, rs + ms) S I L pc loc st Post := by
  intro p l e R s m args below meth c Q B H locs cells slots ls hc hs hR hS hL
  subst hst
  obtain ⟨⟨o1, o2, o3, o4⟩, o5, o6⟩ := ho
  have hdd' : d2 + 1 ≤ d := Nat.le_of_ble_eq_true hdd
  obtain ⟨hkn', ha⟩ := hR.lt hkn
  have hf1 : d ≤ R.frames := B.2.2.2.2.2.1
  have hf2 : 500 * d ≤ R.locals := B.2.2.2.2.2.2
  dsimp only at hc hs
  cases hq : vwCl[ci]? with
  | none => rw [hq] at hci; cases hci
  | some q =>
    rw [hq] at hci
    have hqc : q.1 = (my M2).cls := Option.some.inj hci
    obtain ⟨-, -, -, -, -, c6⟩ := cls_ok ci q hq
    have hrecv := va_recv B.2.2.1 hR.2.2 hq (wsl_obj G S I L hkn' hk c6)
    rw [hqc] at hrecv
    have e0 : (As.reverse ++ Value.ref k :: rest).map (vmap G) = (As.map (vmap G)).reverse ++ .ref (gb G + k) :: rest.map (vmap G) := by
      rw [List.map_append, List.map_reverse, List.map_cons]
      show _ ++ Value.ref (adr G k) :: _ = _
      rw [ha]
    have hpre := x_pre (As := .ref k :: As) B hR hS
    have e1 : ((Value.ref k :: As).map (vmap G)) = .ref (gb G + k) :: As.map (vmap G) := by
      show Value.ref (adr G k) :: _ = _
      rw [ha]
    rw [e1] at hpre
    rw [e0]
    refine x_back B (by omega) (by omega) hS hL (va_runV (nL := mnl M) (As := As.map (vmap G)) (rest := rest.map (vmap G)) (n := n) (Ts := lwT) (own := (my M).cls) (C := (my M2).cls) ⟨B.1.1, B.1.2.1, B.1.2.2.1, B.1.2.2.2.1, B.1.2.2.2.2.1⟩ (hM G l _ S I L _ hSp) (cwV n B.1.2.2.2.2.1 (good_in ?_) rfl rfl rfl ⟨rfl, o3⟩ ⟨by show d2 + 1 ≤ R.frames; omega, by show 8 + (mnl M2 + 11) + 500 * d2 ≤ R.locals; omega⟩) ⟨PP.blind, hrecv, hpre⟩ rfl (by rw [List.length_map]; exact hn) hL.1 rfl ?_ hd ⟨by omega, by omega⟩)
    · intro w hw
      rcases List.mem_append.mp hw with hw | hw
      · simp only [List.mem_cons, List.not_mem_nil, or_false] at hw
        rcases hw with rfl | rfl | rfl | rfl
        · exact hl
        · exact o5
        · exact o6
        · exact o2
      · exact mws_in o1 w hw
    · rw [cat_map]
      exact lv_room (pc := pc) (ls := ls) (m := m) (Nat.le_of_ble_eq_true hrest)
theorem x_callVN {k ci : Nat} {st : List Value} (hM : Con M2 d2 mc ms Sp) (ho : VOk M2 n) {host : String} (hl : ((my M).cls, idx, my M2, host) ∈ nwM) (hd : decode (mcc M) pc = .ok (.invokevirtual idx, 3)) (hdd : Nat.ble (d2 + 1) d = true) (hst : st = As.reverse ++ .ref k :: rest) (hn : As.length = n) (hk : kd S k = ci) (hkn : Nat.ble (k + 1) (sn S) = true) (hci : (vwCl[ci]?).map (fun q => q.1) = some (my M2).cls) (hrest : Nat.ble (rest.map Value.category).sum 8 = true)
    (hSp : Sp (.ref k :: As) S I L (fun v S' I' L' => X M G (d, rc, rs) S' I' L' (pc + 3) loc (v.toList ++ rest) Post)) : X M G (d, rc + mc, rs + ms) S I L pc loc st Post := by
  intro p l e R s m args below meth c Q B H locs cells slots ls hc hs hR hS hL
  subst hst
  obtain ⟨⟨o1, o2, o3, o4⟩, o5, o6⟩ := ho
  have hdd' : d2 + 1 ≤ d := Nat.le_of_ble_eq_true hdd
  obtain ⟨hkn', ha⟩ := hR.lt hkn
  have hf1 : d ≤ R.frames := B.2.2.2.2.2.1
  have hf2 : 500 * d ≤ R.locals := B.2.2.2.2.2.2
  dsimp only at hc hs
  cases hq : vwCl[ci]? with
  | none => rw [hq] at hci; cases hci
  | some q =>
    rw [hq] at hci
    have hqc : q.1 = (my M2).cls := Option.some.inj hci
    obtain ⟨-, -, -, -, -, c6⟩ := cls_ok ci q hq
    have hrecv := va_recv B.2.2.1 hR.2.2 hq (wsl_obj G S I L hkn' hk c6)
    rw [hqc] at hrecv
    have e0 : (As.reverse ++ Value.ref k :: rest).map (vmap G) = (As.map (vmap G)).reverse ++ .ref (gb G + k) :: rest.map (vmap G) := by
      rw [List.map_append, List.map_reverse, List.map_cons]
      show _ ++ Value.ref (adr G k) :: _ = _
      rw [ha]
    have hpre := x_pre (As := .ref k :: As) B hR hS
    have e1 : ((Value.ref k :: As).map (vmap G)) = .ref (gb G + k) :: As.map (vmap G) := by
      show Value.ref (adr G k) :: _ = _
      rw [ha]
    rw [e1] at hpre
    rw [e0]
    refine x_back B (by omega) (by omega) hS hL (va_runVN (nL := mnl M) (As := As.map (vmap G)) (rest := rest.map (vmap G)) (n := n) (Ts := lwT) (own := (my M).cls) (C := (my M2).cls) ⟨B.1.1, B.1.2.1, B.1.2.2.1, B.1.2.2.2.1, B.1.2.2.2.2.1⟩ (hM G l _ S I L _ hSp) ⟨va_cnB n B.1.2.2.2.2.1 (good_in (mws_in o1)) rfl rfl rfl (B.2.1.2.2.2.2.2.2.2.2.2.1 _ hl) (B.1.2.2.2.2.1 _ o2) o3 ⟨by show d2 + 1 ≤ R.frames; omega, by show 8 + (mnl M2 + 11) + 500 * d2 ≤ R.locals; omega⟩, B.1.2.2.2.2.1 _ o5, B.1.2.2.2.2.1 _ o6⟩ ⟨PP.blind, hrecv, hpre⟩ rfl (by rw [List.length_map]; exact hn) hL.1 rfl ?_ hd ⟨by omega, by omega⟩)
    · rw [cat_map]
      exact lv_room (pc := pc) (ls := ls) (m := m) (Nat.le_of_ble_eq_true hrest)
theorem x_callS {st : List Value} (hM : Con M2 d2 mc ms Sp) (ho : SOk M2 n) (hl : Cond.methodLink (my M).cls idx (my M2) ∈ lwT) (hd : decode (mcc M) pc = .ok (.invokestatic idx, 3)) (hdd : Nat.ble (d2 + 1) d = true) (hst : st = As.reverse ++ rest) (hn : As.length = n) (hrest : Nat.ble (rest.map Value.category).sum 8 = true)
    (hSp : Sp As S I L (fun v S' I' L' => X M G (d, rc, rs) S' I' L' (pc + 3) loc (v.toList ++ rest) Post)) : X M G (d, rc + mc, rs + ms) S I L pc loc st Post := by
  intro p l e R s m args below meth c Q B H locs cells slots ls hc hs hR hS hL
  subst hst
  obtain ⟨⟨o1, o2, o3, o4⟩, o5⟩ := ho
  have hdd' : d2 + 1 ≤ d := Nat.le_of_ble_eq_true hdd
  have hf1 : d ≤ R.frames := B.2.2.2.2.2.1
  have hf2 : 500 * d ≤ R.locals := B.2.2.2.2.2.2
  dsimp only at hc hs
  have e0 : (As.reverse ++ rest).map (vmap G) = (As.map (vmap G)).reverse ++ rest.map (vmap G) := by
    rw [List.map_append, List.map_reverse]
  have hpre := x_pre (As := As) B hR hS
  rw [e0]
  refine x_back B (by omega) (by omega) hS hL (va_runS (nL := mnl M) (As := As.map (vmap G)) (rest := rest.map (vmap G)) (n := n) (Ts := lwT) (own := (my M).cls) ⟨B.1.1, B.1.2.1, B.1.2.2.1, B.1.2.2.2.1, B.1.2.2.2.2.1⟩ (hM G l _ S I L _ hSp) (va_cwS n B.1.2.2.2.2.1 (good_in ?_) rfl rfl rfl o3 ⟨by show d2 + 1 ≤ R.frames; omega, by show 8 + (mnl M2 + 11) + 500 * d2 ≤ R.locals; omega⟩) ⟨PP.blind, hpre⟩ rfl (by rw [List.length_map]; exact hn) hL.1 rfl ?_ hd ⟨by omega, by omega⟩)
  · intro w hw
    rcases List.mem_append.mp hw with hw | hw
    · simp only [List.mem_cons, List.not_mem_nil, or_false] at hw
      rcases hw with rfl | rfl | rfl
      · exact hl
      · exact o5
      · exact o2
    · exact mws_in o1 w hw
  · rw [cat_map]
    exact lv_room (pc := pc) (ls := ls) (m := m) (Nat.le_of_ble_eq_true hrest)
theorem x_callSN {st : List Value} (hM : Con M2 d2 mc ms Sp) (ho : SOk M2 n) {host : String} (hl : ((my M).cls, idx, my M2, host) ∈ nwM) (hd : decode (mcc M) pc = .ok (.invokestatic idx, 3)) (hdd : Nat.ble (d2 + 1) d = true) (hst : st = As.reverse ++ rest) (hn : As.length = n) (hrest : Nat.ble (rest.map Value.category).sum 8 = true)
    (hSp : Sp As S I L (fun v S' I' L' => X M G (d, rc, rs) S' I' L' (pc + 3) loc (v.toList ++ rest) Post)) : X M G (d, rc + mc, rs + ms) S I L pc loc st Post := by
  intro p l e R s m args below meth c Q B H locs cells slots ls hc hs hR hS hL
  subst hst
  obtain ⟨⟨o1, o2, o3, o4⟩, o5⟩ := ho
  have hdd' : d2 + 1 ≤ d := Nat.le_of_ble_eq_true hdd
  have hf1 : d ≤ R.frames := B.2.2.2.2.2.1
  have hf2 : 500 * d ≤ R.locals := B.2.2.2.2.2.2
  dsimp only at hc hs
  have e0 : (As.reverse ++ rest).map (vmap G) = (As.map (vmap G)).reverse ++ rest.map (vmap G) := by
    rw [List.map_append, List.map_reverse]
  have hpre := x_pre (As := As) B hR hS
  rw [e0]
  refine x_back B (by omega) (by omega) hS hL (va_runSN (nL := mnl M) (As := As.map (vmap G)) (rest := rest.map (vmap G)) (n := n) (Ts := lwT) (own := (my M).cls) ⟨B.1.1, B.1.2.1, B.1.2.2.1, B.1.2.2.2.1, B.1.2.2.2.2.1⟩ (hM G l _ S I L _ hSp) ⟨va_cnB n B.1.2.2.2.2.1 (good_in (mws_in o1)) rfl rfl rfl (B.2.1.2.2.2.2.2.2.2.2.2.1 _ hl) (B.1.2.2.2.2.1 _ o2) o3 ⟨by show d2 + 1 ≤ R.frames; omega, by show 8 + (mnl M2 + 11) + 500 * d2 ≤ R.locals; omega⟩, B.1.2.2.2.2.1 _ o5, trivial⟩ ⟨PP.blind, hpre⟩ rfl (by rw [List.length_map]; exact hn) hL.1 rfl ?_ hd ⟨by omega, by omega⟩)
  · rw [cat_map]
    exact lv_room (pc := pc) (ls := ls) (m := m) (Nat.le_of_ble_eq_true hrest)
theorem x_callI {k ci : Nat} {st : List Value} (hM : Con M2 d2 mc ms Sp) (ho : IOk M2 n) (hrt : mret M2 = none) (hl : Cond.methodLink (my M).cls idx (my M2) ∈ lwT) (hd : decode (mcc M) pc = .ok (.invokespecial idx, 3)) (hdd : Nat.ble (d2 + 1) d = true) (hst : st = As.reverse ++ .ref k :: rest) (hn : As.length = n) (hk : kd S k = ci) (hkn : Nat.ble (k + 1) (sn S) = true) (hci : (vwCl[ci]?).map (fun q => q.1) = some (my M2).cls) (hrest : Nat.ble (rest.map Value.category).sum 8 = true)
    (hSp : Sp (.ref k :: As) S I L (fun v S' I' L' => X M G (d, rc, rs) S' I' L' (pc + 3) loc (v.toList ++ rest) Post)) : X M G (d, rc + mc, rs + ms) S I L pc loc st Post := by
  intro p l e R s m args below meth c Q B H locs cells slots ls hc hs hR hS hL
  subst hst
  obtain ⟨⟨o1, o2, o3, o4⟩, o5, o6⟩ := ho
  have hdd' : d2 + 1 ≤ d := Nat.le_of_ble_eq_true hdd
  obtain ⟨hkn', ha⟩ := hR.lt hkn
  have hf1 : d ≤ R.frames := B.2.2.2.2.2.1
  have hf2 : 500 * d ≤ R.locals := B.2.2.2.2.2.2
  dsimp only at hc hs
  cases hq : vwCl[ci]? with
  | none => rw [hq] at hci; cases hci
  | some q =>
    rw [hq] at hci
    have hqc : q.1 = (my M2).cls := Option.some.inj hci
    obtain ⟨-, -, -, -, -, c6⟩ := cls_ok ci q hq
    have hrecv := va_recv B.2.2.1 hR.2.2 hq (wsl_obj G S I L hkn' hk c6)
    rw [hqc] at hrecv
    have e0 : (As.reverse ++ Value.ref k :: rest).map (vmap G) = (As.map (vmap G)).reverse ++ .ref (gb G + k) :: rest.map (vmap G) := by
      rw [List.map_append, List.map_reverse, List.map_cons]
      show _ ++ Value.ref (adr G k) :: _ = _
      rw [ha]
    have hpre := x_pre (As := .ref k :: As) B hR hS
    have e1 : ((Value.ref k :: As).map (vmap G)) = .ref (gb G + k) :: As.map (vmap G) := by
      show Value.ref (adr G k) :: _ = _
      rw [ha]
    rw [e1] at hpre
    rw [e0]
    refine x_back B (by omega) (by omega) hS hL (va_runI (nL := mnl M) (As := As.map (vmap G)) (rest := rest.map (vmap G)) (n := n) (Ts := lwT) (own := (my M).cls) ⟨B.1.1, B.1.2.1, B.1.2.2.1, B.1.2.2.2.1, B.1.2.2.2.2.1⟩ (hM G l _ S I L _ hSp) (cwI n B.1.2.2.2.2.1 (good_in (mws_in o1)) (show mws M2 = Cond.code (my M2) (mcc M2) (mnl M2) none :: lwT by rw [mws, hrt]) rfl rfl (B.1.2.2.2.2.1 _ o2) (B.1.2.2.2.2.1 _ hl) (B.1.2.2.2.2.1 _ o5) o6 o3 ⟨by show d2 + 1 ≤ R.frames; omega, by show 8 + (mnl M2 + 11) + 500 * d2 ≤ R.locals; omega⟩) ⟨PP.blind, hpre⟩ rfl (by rw [List.length_map]; exact hn) hL.1 rfl ?_ hd ⟨by omega, by omega⟩)
    · rw [cat_map]
      exact lv_room (pc := pc) (ls := ls) (m := m) (Nat.le_of_ble_eq_true hrest)
theorem x_callIN {k ci : Nat} {st : List Value} (hM : Con M2 d2 mc ms Sp) (ho : IOk M2 n) (hrt : mret M2 = none) {host : String} (hl : ((my M).cls, idx, my M2, host) ∈ nwM) (hd : decode (mcc M) pc = .ok (.invokespecial idx, 3)) (hdd : Nat.ble (d2 + 1) d = true) (hst : st = As.reverse ++ .ref k :: rest) (hn : As.length = n) (hk : kd S k = ci) (hkn : Nat.ble (k + 1) (sn S) = true) (hci : (vwCl[ci]?).map (fun q => q.1) = some (my M2).cls) (hrest : Nat.ble (rest.map Value.category).sum 8 = true)
    (hSp : Sp (.ref k :: As) S I L (fun v S' I' L' => X M G (d, rc, rs) S' I' L' (pc + 3) loc (v.toList ++ rest) Post)) : X M G (d, rc + mc, rs + ms) S I L pc loc st Post := by
  intro p l e R s m args below meth c Q B H locs cells slots ls hc hs hR hS hL
  subst hst
  obtain ⟨⟨o1, o2, o3, o4⟩, o5, o6⟩ := ho
  have hdd' : d2 + 1 ≤ d := Nat.le_of_ble_eq_true hdd
  obtain ⟨hkn', ha⟩ := hR.lt hkn
  have hf1 : d ≤ R.frames := B.2.2.2.2.2.1
  have hf2 : 500 * d ≤ R.locals := B.2.2.2.2.2.2
  dsimp only at hc hs
  cases hq : vwCl[ci]? with
  | none => rw [hq] at hci; cases hci
  | some q =>
    rw [hq] at hci
    have hqc : q.1 = (my M2).cls := Option.some.inj hci
    obtain ⟨-, -, -, -, -, c6⟩ := cls_ok ci q hq
    have hrecv := va_recv B.2.2.1 hR.2.2 hq (wsl_obj G S I L hkn' hk c6)
    rw [hqc] at hrecv
    have e0 : (As.reverse ++ Value.ref k :: rest).map (vmap G) = (As.map (vmap G)).reverse ++ .ref (gb G + k) :: rest.map (vmap G) := by
      rw [List.map_append, List.map_reverse, List.map_cons]
      show _ ++ Value.ref (adr G k) :: _ = _
      rw [ha]
    have hpre := x_pre (As := .ref k :: As) B hR hS
    have e1 : ((Value.ref k :: As).map (vmap G)) = .ref (gb G + k) :: As.map (vmap G) := by
      show Value.ref (adr G k) :: _ = _
      rw [ha]
    rw [e1] at hpre
    rw [e0]
    refine x_back B (by omega) (by omega) hS hL (va_runIN (nL := mnl M) (As := As.map (vmap G)) (rest := rest.map (vmap G)) (n := n) (Ts := lwT) (own := (my M).cls) ⟨B.1.1, B.1.2.1, B.1.2.2.1, B.1.2.2.2.1, B.1.2.2.2.2.1⟩ (hM G l _ S I L _ hSp) ⟨va_cnB n B.1.2.2.2.2.1 (good_in (mws_in o1)) (show mws M2 = Cond.code (my M2) (mcc M2) (mnl M2) none :: lwT by rw [mws, hrt]) rfl rfl (B.2.1.2.2.2.2.2.2.2.2.2.1 _ hl) (B.1.2.2.2.2.1 _ o2) o3 ⟨by show d2 + 1 ≤ R.frames; omega, by show 8 + (mnl M2 + 11) + 500 * d2 ≤ R.locals; omega⟩, o6, B.1.2.2.2.2.1 _ o5⟩ ⟨PP.blind, hpre⟩ rfl (by rw [List.length_map]; exact hn) hL.1 rfl ?_ hd ⟨by omega, by omega⟩)
    · rw [cat_map]
      exact lv_room (pc := pc) (ls := ls) (m := m) (Nat.le_of_ble_eq_true hrest)
end CALLS
