/-! THE CLAIM OUT OF ONE WALK OF THE LAW'S BODY. Your part is whole_start (and what it stands on); all else here is the same for every law, but numbers. -/
def R_law : String := "WhoeverHeardLaw"
def lw_P (b : Addr) (xs : List Int32) (args : Array Value) (s : State) : Prop := args = #[.ref b] ∧ s.IntsAt b xs ∧ xs.length ≤ 448 ∧ (Jvm.Cond.and given_1 narrow_1).before args s = true
def lw_Q (_ : Array Value) (s : State) (o : Outcome) (t : State) : Prop := o = .returned (some (.int 1)) ∧ Framed s o t [] 600000 7302250
def lw_Z (below : List Frame) (a : Array Value) (s : State) : State → Prop := fun t => ∃ o, t.status = .running ∧ Ended t below o ∧ lw_Q a s o t
/-- the law's own end, with 1 on the stack, nothing written that was there before, its room as the claim has it -/
theorem lw_ret {p : Program} {l : Launch} {e : Env} {s : State} {m : MethodId} {below : List Frame} {meth : Method} {c : Code} {b : Nat} (hx : p.tables.exec = Jvm.exec) (hb : c.code = code) (hr : meth.sig.returnType = ret) (hlocks : meth.locks = false) {pc : Nat} {H : Heap} {ls : Array Slot} (hdg : decode code pc = .ok (.ireturn, 1)) : W p l e room_1 s m #[Value.ref b] below meth c H [] 600000 7302250 (lw_Z below #[Value.ref b] s) (F0 m pc ls [.int 1]) := by
  intro T hT X
  obtain ⟨fs, hret, hrun, hended, hW, hframe⟩ := X.leave (v := some (.int 1)) (hlocks := hlocks) (fun h => by rw [hr] at h; cases h)
  have hmeth' : T.vm.method? m = some meth := X.method'
  refine ⟨T.setFrames fs, ?_, .returned (some (.int 1)), hrun, hended, rfl, ⟨_, rfl⟩, hW, hframe⟩
  jvm_step X.here [X.here.top, hx, hb, hdg, hmeth', hr, ret, narrow_b1]
  (try refine ⟨rfl, ?_⟩); (try refine ⟨rfl, ?_⟩)
  first | (intro acts; rw [hret _ acts rfl rfl rfl]) | rw [hret _ _ rfl rfl rfl]
  exact Steps.refl _
/-- what holds at the law's entry: the machine, the code, the tables' words (any of lw_tbl by 'hts w (by decide +kernel)'), the script of L ints xs at the cell b, what the Statement gives of the start (any of its parts by flat_of_before) -/
def lw_At (p : Program) (s : State) (m : MethodId) (meth : Method) (c : Code) (b L : Nat) (xs : Nat → Int32) : Prop :=
  p.tables.exec = Jvm.exec ∧ c.code = code ∧ meth.sig.returnType = ret ∧ c.maxLocals = 4 ∧ s.vm.findClass R_law = some m.cls ∧ (∀ w ∈ lw_tbl, w.before #[Value.ref b] s = true) ∧ va_X b L xs s s.heap ∧ b < s.heap.size ∧ meth.locks = false ∧ (Jvm.Cond.and given_1 narrow_1).before #[Value.ref b] s = true ∧ meth.name = "law"
theorem inst_ok : ∀ (ci : Nat) (q : vw_C), vwCl[ci]? = some q → Cond.instantiable q.1 q.2.2 ∈ lwT := by
  intro ci q h
  match ci, h with
  | 0, h => cases h; exact in_Folk
  | 1, h => cases h; exact in_Image
  | 2, h => cases h; exact in_Ledger
  | 3, h => cases h; exact in_Reader
  | 4, h => cases h; exact in_Sayings
  | 5, h => cases h; exact in_Sheets
  | 6, h => cases h; exact in_Texts
  | 7, h => cases h; exact in_Town
  | 8, h => cases h; exact in_Vows
  | 9, h => cases h; exact in_W
  | 10, h => cases h; exact in_R
  | n + 11, h => simp [vwCl] at h
def stTm (i : Nat) : Term := .string (stO.getD i "") (stK.getD i 0)
abbrev gvF : List Cond := flatC (Jvm.Cond.and given_1 narrow_1)
theorem gv_at {k : Nat} {w : Cond} (h : gvF[k]? = some w) : w ∈ gvF := List.mem_of_getElem? h
theorem lt_at {k : Nat} {w : Cond} (h : lw_tbl[k]? = some w) : w ∈ lw_tbl := List.mem_of_getElem? h
def ixE : List (List Nat) := [[18, 19, 20, 21, 22], [97, 98, 99, 100, 101], [106, 107, 108, 109, 110], [115, 116, 117, 118, 119], [125, 126, 127, 128, 129], [137, 138, 139, 140, 141], [150, 151, 152, 153, 154], [164, 165, 166, 167, 168], [180, 181, 182, 183, 184], [197, 198, 199, 200, 201], [214, 215, 216, 217, 218], [230, 231, 232, 233, 234], [248, 249, 250, 251, 252]]
def ixN : List (List Nat) := [[0, 105, 113, 122, 133, 145, 158, 173, 189, 205, 220, 237, 255], [105, 0, 114, 123, 134, 146, 159, 174, 190, 206, 221, 238, 256], [113, 114, 0, 124, 135, 147, 160, 175, 191, 207, 222, 239, 257], [122, 123, 124, 0, 136, 148, 161, 176, 192, 208, 223, 240, 258], [133, 134, 135, 136, 0, 149, 162, 177, 193, 209, 224, 241, 259], [145, 146, 147, 148, 149, 0, 163, 178, 194, 210, 225, 242, 260], [158, 159, 160, 161, 162, 163, 0, 179, 195, 211, 226, 243, 261], [173, 174, 175, 176, 177, 178, 179, 0, 196, 212, 227, 244, 262], [189, 190, 191, 192, 193, 194, 195, 196, 0, 213, 228, 245, 263], [205, 206, 207, 208, 209, 210, 211, 212, 213, 0, 229, 246, 264], [220, 221, 222, 223, 224, 225, 226, 227, 228, 229, 0, 247, 265], [237, 238, 239, 240, 241, 242, 243, 244, 245, 246, 247, 0, 266], [255, 256, 257, 258, 259, 260, 261, 262, 263, 264, 265, 266, 0]]
def ixS : List Nat := [414, 493, 500, 501, 502, 503, 504, 513, 514, 515, 516, 517, 518]
theorem gv_1 : ∀ i, i < 13 → gvF[(ixE.getD i []).getD 0 0]? = some (Cond.exactly (stTm i) "java/lang/String") ∧ gvF[(ixE.getD i []).getD 1 0]? = some (Cond.eq (.field (stTm i) "java/lang/String" "coder" "B") (.int 0)) ∧ gvF[(ixE.getD i []).getD 2 0]? = some (Cond.arrayOf (.field (stTm i) "java/lang/String" "value" "[B") .byte) ∧ gvF[(ixE.getD i []).getD 3 0]? = some (Cond.eq (.length (.field (stTm i) "java/lang/String" "value" "[B")) (.int (Int32.ofNat (stL.getD i 0)))) := by decide +kernel
theorem gv_el : ∀ i, i < 13 → ∀ j, j < stL.getD i 0 → gvF[(ixE.getD i []).getD 4 0 + j]? = some (Cond.eq (.elem (.field (stTm i) "java/lang/String" "value" "[B") (.int (Int32.ofNat j))) (.int ((stB.getD i []).getD j 0))) := by decide +kernel
theorem gv_n : ∀ i, i < 13 → ∀ j, j < 13 → i ≠ j → gvF[(ixN.getD i []).getD j 0]? = some (Cond.not (Cond.eq (stTm i) (stTm j))) ∨ gvF[(ixN.getD i []).getD j 0]? = some (Cond.not (Cond.eq (stTm j) (stTm i))) := by decide +kernel
theorem gv_ka : ∀ j, j < 6 → gvF[12 + j]? = some (Cond.eq (.elem (.static "WhoeverHeard" "KIND_ABOVE" "[I") (.int (Int32.ofNat j))) (.int (kaL.getD j 0))) := by decide +kernel
theorem tb_sr : ∀ i, i < 13 → lw_tbl[ixS.getD i 0]? = some (Cond.stringRef (stO.getD i "") (stK.getD i 0) (stT.getD i "")) := by decide +kernel
theorem tb_nm : ∀ q ∈ nwM, Cond.methodLinkNest q.1 q.2.1 q.2.2.1 q.2.2.2 ∈ lw_tbl := fun q hq => memIx (l := nwM.map fun q => Cond.methodLinkNest q.1 q.2.1 q.2.2.1 q.2.2.2) (ix := [124, 174, 206, 238, 278, 367, 374, 397, 478, 664, 702, 726, 757]) (by decide +kernel) _ (List.mem_map.mpr ⟨q, hq, rfl⟩)
theorem tb_nf : ∀ q ∈ nwF, Cond.fieldLinkNest q.1 q.2.1 q.2.2.1 q.2.2.2.1 q.2.2.2.2.1 q.2.2.2.2.2 ∈ lw_tbl := fun q hq => memIx (l := nwF.map fun q => Cond.fieldLinkNest q.1 q.2.1 q.2.2.1 q.2.2.2.1 q.2.2.2.2.1 q.2.2.2.2.2) (ix := [681]) (by decide +kernel) _ (List.mem_map.mpr ⟨q, hq, rfl⟩)
theorem str_facts {args : Array Value} {s : State} (hs : ∀ c ∈ gvF, c.before args s = true) {A : Nat → Prop} (hA : ∀ a : Nat, a < s.heap.size → ¬ A a) : ∃ adK adV : Nat → Nat, vk_S nStr stL stB adK adV A s s.heap ∧ ∀ i : Nat, i < nStr → (stTm i).eval args s none [] s = some (.ref (adK i)) :=
  vk_Sof (tm := stTm) (by decide) (fun i hi => hs _ (gv_at (gv_1 i hi).1)) (fun i hi => hs _ (gv_at (gv_1 i hi).2.1)) (fun i hi => hs _ (gv_at (gv_1 i hi).2.2.1)) (fun i hi => hs _ (gv_at (gv_1 i hi).2.2.2)) (fun i hi j hj => hs _ (gv_at (gv_el i hi j hj))) (fun i j hi hj hij => (gv_n i hi j hj hij).elim (fun h => Or.inl (hs _ (gv_at h))) (fun h => Or.inr (hs _ (gv_at h)))) hA
set_option maxHeartbeats 4000000 in
set_option maxRecDepth 100000 in
/-- the law's body from its entry -/
theorem whole_start {p : Program} {e : Env} {s : State} {m : MethodId} {below : List Frame} {meth : Method} {c : Code} (l : Launch) (hflags : l.flags = flags0) {b L : Nat} {xs : Nat → Int32} (hL : L ≤ 448) (C0 : lw_At p s m meth c b L xs) : W p l e room_1 s m #[Value.ref b] below meth c s.heap [] 0 0 (lw_Z below #[Value.ref b] s) (entryFrame m ([Value.ref b] : List Value).toArray 4) := by
  obtain ⟨hx, hb, hr, hml, hown, hts, hX, hbl, hlocks, hgv, hnm⟩ := C0
  have hs : ∀ c ∈ gvF, c.before #[Value.ref b] s = true := flat_of_before _ hgv
  have hA : ∀ a : Nat, a < s.heap.size → ¬ (fun q : Nat => s.heap.size ≤ q) a := fun a h => Nat.not_le.mpr h
  obtain ⟨adK, adV, hVS, hev⟩ := str_facts hs hA
  obtain ⟨tk, htk, hTk⟩ := va_Tof (tm := .static "WhoeverHeard" "KIND_ABOVE" "[I") (ty := .int) (N := 6) (f := fun j => .int (kaL.getD j 0)) (by decide) (hs (.arrayOf (.static "WhoeverHeard" "KIND_ABOVE" "[I") .int) (gv_at (k := 10) (by decide +kernel))) (va_eqt (hs (.eq (.length (.static "WhoeverHeard" "KIND_ABOVE" "[I")) (.int 6)) (gv_at (k := 11) (by decide +kernel)))) (fun j hj => va_eqt (hs _ (gv_at (gv_ka j hj)))) hA
  have hZk := va_Zref (hts (.laysStatic "WhoeverHeard" "KIND_ABOVE" "[I") (lt_at (k := 682) (by decide +kernel))) (hts (.initialized "WhoeverHeard") (lt_at (k := 73) (by decide +kernel))) htk hA
  have hCS := va_Zof (v := .int 1) (hts (.laysStatic "java/lang/String" "COMPACT_STRINGS" "Z") (lt_at (k := 424) (by decide +kernel))) (hts (.initialized "java/lang/String") (lt_at (k := 84) (by decide +kernel))) (va_eqt (hs (.eq (.static "java/lang/String" "COMPACT_STRINGS" "Z") (.int 1)) (gv_at (k := 4) (by decide +kernel)))) hA
  have hSI := va_Zqof (hts (.laysStatic "jdk/internal/util/Preconditions" "SIOOBE_FORMATTER" "Ljava/util/function/BiFunction;") (lt_at (k := 440) (by decide +kernel))) (hts (.initialized "jdk/internal/util/Preconditions") (lt_at (k := 86) (by decide +kernel))) (hs (.isRef (.static "jdk/internal/util/Preconditions" "SIOOBE_FORMATTER" "Ljava/util/function/BiFunction;")) (gv_at (k := 5) (by decide +kernel))) hA
  obtain ⟨tf, hSI2⟩ : ∃ tf : Nat, va_Z "jdk/internal/util/Preconditions" "SIOOBE_FORMATTER" "Ljava/util/function/BiFunction;" .null (fun q : Nat => s.heap.size ≤ q) s s.heap ∨ va_Z "jdk/internal/util/Preconditions" "SIOOBE_FORMATTER" "Ljava/util/function/BiFunction;" (.ref tf) (fun q : Nat => s.heap.size ≤ q) s s.heap := by
    rcases hSI with h | ⟨t, h⟩
    · exact ⟨0, Or.inl h⟩
    · exact ⟨t, Or.inr h⟩
  have h0 : ∀ ci : Nat, ∃ z : ClassId × (Nat → Nat), ∀ q : vw_C, vwCl[ci]? = some q → u_Kn s q.1 q.2.1 q.2.2 z.1 z.2 := by
    intro ci
    cases hq : vwCl[ci]? with
    | none => exact ⟨(0, fun _ => 0), fun q h => by cases h⟩
    | some q =>
      have hw := (cls_ok ci q hq).1
      obtain ⟨cC, iS, hk⟩ := u_known (C := q.1) (T := q.2.1) (N := q.2.2) (n := q.2.2) hts (fun w hwm => (List.mem_filter.mp (hw w hwm)).1) (hts _ (List.mem_filter.mp (inst_ok ci q hq)).1)
      exact ⟨(cC, iS), fun q' h => by cases h; exact hk⟩
  obtain ⟨zz, hzz⟩ := Classical.axiomOfChoice h0
  obtain ⟨cA, kA, comp, f1, f2, f3⟩ := Cond.arrayClass_spec (hts (.arrayClass .int) (lt_at (k := arrIntAt) (by decide +kernel)))
  obtain ⟨gff, hgff⟩ : ∃ gff : Nat → Nat, gff = fun k => if k = 100 then tk else if k = 150 then tf else if k = 200 then b else if k < 50 then adK k else adV (k - 50) := ⟨_, rfl⟩
  have g1 : ∀ i, i < nStr → gff i = adK i := fun i hi => by
    have hi' : i < 13 := hi
    rw [hgff]
    show (if i = 100 then tk else if i = 150 then tf else if i = 200 then b else if i < 50 then adK i else adV (i - 50)) = adK i
    rw [if_neg (by omega), if_neg (by omega), if_neg (by omega), if_pos (by omega)]
  have g2 : ∀ i, i < nStr → gff (50 + i) = adV i := fun i hi => by
    have hi' : i < 13 := hi
    rw [hgff]
    show (if 50 + i = 100 then tk else if 50 + i = 150 then tf else if 50 + i = 200 then b else if 50 + i < 50 then adK (50 + i) else adV (50 + i - 50)) = adV i
    rw [if_neg (by omega), if_neg (by omega), if_neg (by omega), if_neg (by omega), Nat.add_sub_cancel_left]
  have g3 : gff 100 = tk := by rw [hgff]; rfl
  have g4 : gff 150 = tf := by rw [hgff]; rfl
  have g5 : gff 200 = b := by rw [hgff]; rfl
  obtain ⟨G, hG⟩ : ∃ G : WG, G = ((fun k => (zz k).1, fun k => (zz k).2), cA, s.heap.size, gff, L, xs) := ⟨_, rfl⟩
  have eb : gb G = s.heap.size := by rw [hG]; rfl
  have ef : gf G = gff := by rw [hG]; rfl
  have eL : gL G = L := by rw [hG]; rfl
  have ex : gx G = xs := by rw [hG]; rfl
  have eA : AA G = fun q : Nat => s.heap.size ≤ q := by
    funext q
    show (gb G ≤ q) = _
    rw [eb]
  have hFF : FF G s := by
    refine ⟨?_, ?_, fun i hi => ?_, ?_, ?_, ?_, ?_, ?_, ?_, fun q hq => va_Nw.of rfl (hts _ (tb_nm q hq)), fun q hq => va_Nw.of rfl (hts _ (tb_nf q hq))⟩
    · rw [ef, g3, eA]; exact hZk
    · rw [ef, g3, eA]; exact hTk
    · rw [ef, g1 i hi]
      exact vk_R.of (hts _ (lt_at (tb_sr i hi))) (hev i hi)
    · rw [ef, eA]
      refine ⟨fun i hi => ?_, fun i j hi hj h => hVS.2 i j hi hj (by rw [← g1 i hi, ← g1 j hj]; exact h)⟩
      have h := hVS.1 i hi
      rw [← g1 i hi, ← g2 i hi] at h
      exact h
    · rw [eA]; exact hCS
    · rw [ef, g4, eA]; exact hSI2
    · rw [ef, g5, eL, ex]; exact hX
    · rw [ef, g5]; exact hbl
    · rw [ef, g5, eb]; exact hbl
  have hK : va_K (gD G) vwCl [(gA G, .int)] s := by
    rw [hG]
    refine ⟨fun k q hq => hzz k q hq, fun k q hq => ?_⟩
    match k, hq with
    | 0, hq =>
      cases hq
      exact ⟨fun n z => ⟨fun k h => (by cases h), kA, f2, comp, f3⟩, f1⟩
    | k + 1, hq => simp at hq
  have hl := lv_entry ([Value.ref b]) (n := 4) (Nat.le_of_ble_eq_true rfl)
  rw [lg_entry_eq]
  generalize (lg_sl ([Value.ref b]) ++ List.replicate (4 - (lg_sl ([Value.ref b])).length) Slot.unset).toArray = ls at hl ⊢
  have K := law_start (G := G) (I := fun _ _ => 0) (L := fun _ _ => 0) (Post := fun v _ _ _ => v = some (.int 1)) (by rw [eL]; exact hL) (fun _ _ _ => rfl)
  refine K p l e room_1 s m #[Value.ref b] below meth c _ ⟨⟨hx, hb, hml, hown, fun w hw => hts w (List.mem_filter.mp hw).1, hnm⟩, hFF, hK, by rw [eb]; exact Nat.le_refl _, ?_, Nat.le_of_ble_eq_true rfl, Nat.le_of_ble_eq_true rfl⟩ s.heap [] 0 0 ls (Nat.le_of_ble_eq_true rfl) (Nat.le_of_ble_eq_true rfl) ⟨by rw [eb]; rfl, Nat.lt_of_lt_of_le Nat.zero_lt_one (Nat.le_of_ble_eq_true rfl), fun k q h => ?_⟩ va_S.rf ⟨hl.1, hl.2.1, fun j v hj hv => ?_⟩
  · intro v S' I' L' H locs cells slots pc ls' hp hRet hRep hS hc hs'
    subst hp
    rcases hRet with ⟨x, ty, hv, hm, hn, hd⟩ | ⟨x, hv, -⟩ | ⟨hv, -⟩
    · have hS2 : ∀ q ∈ locs, s.heap.size ≤ q.base := fun q hq => by
        have h := hS.2.2 q hq
        rw [eA] at h
        exact h
      refine va_forget hS2 ?_
      refine W.widen (k := 600000) (n := 7302250) hc hs' ?_
      exact lw_ret hx hb hr hlocks hd
    · cases hv
    · cases hv
  · rw [wsl_none G _ _ _ (Nat.not_lt_zero k)] at h
    cases h
  · match j, hj with
    | 0, hj =>
      cases hj
      have e1 : vmap G (.ref (1000000 + 200)) = .ref b := by
        show Value.ref (adr G (1000000 + 200)) = _
        rw [adr_f, ef, g5]
      rw [e1]
      exact hl.2.2 (0, .ref b) List.mem_cons_self
    | 1, hj => exact absurd (Option.some.inj hj).symm hv
    | 2, hj => exact absurd (Option.some.inj hj).symm hv
    | 3, hj => exact absurd (Option.some.inj hj).symm hv
    | j + 4, hj => simp at hj
