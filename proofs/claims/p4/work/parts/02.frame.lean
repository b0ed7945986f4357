/-- the words that a method may rest on -/
def lwT : List Cond := lw_tbl.filter goodWord
theorem lwT_of {w : Cond} (h : w ∈ lw_tbl) (hg : goodWord w = true) : w ∈ lwT := List.mem_filter.mpr ⟨h, hg⟩
/-! the frame: a method over a pure picture of the heap (cells by their number since the law began), any instruction a row -/
abbrev IM : Type := Nat → Nat → Int32
abbrev LM : Type := Nat → Nat → Int64
/-- the shape: how many cells, what each is (below 100: an object of that class; else an int array, its length and 100), references (0 null, else the cell's number and 1) -/
abbrev Shp : Type := Nat × (Nat → Nat) × (Nat → Nat → Nat)
def sn (S : Shp) : Nat := S.1
def kd (S : Shp) : Nat → Nat := S.2.1
def rr (S : Shp) : Nat → Nat → Nat := S.2.2
/-- the world: class ids and slots, int[]'s class, the first new address, foreign addresses, the script's length and ints -/
abbrev WG : Type := va_G × ClassId × Nat × (Nat → Nat) × Nat × (Nat → Int32)
def gD (G : WG) : va_G := G.1
def gA (G : WG) : ClassId := G.2.1
def gb (G : WG) : Nat := G.2.2.1
def gf (G : WG) : Nat → Nat := G.2.2.2.1
def gL (G : WG) : Nat := G.2.2.2.2.1
def gx (G : WG) : Nat → Int32 := G.2.2.2.2.2
def adr (G : WG) (k : Nat) : Nat := if k < 1000000 then gb G + k else gf G (k - 1000000)
def vmap (G : WG) (v : Value) : Value := match v with
  | .ref k => .ref (adr G k)
  | w => w
def rv (G : WG) (r : Nat) : Value := match r with
  | 0 => .null
  | k + 1 => .ref (adr G k)
def ft (c j : Nat) : Nat := (ftab.getD c []).getD j 0
def nf (c : Nat) : Nat := (ftab.getD c []).length
def fval (G : WG) (S : Shp) (I : IM) (L : LM) (c k j : Nat) : Value := match ft c j with
  | 0 => .int (I k j)
  | 1 => .long (L k j)
  | _ => rv G (rr S k j)
def cellE (G : WG) (S : Shp) (I : IM) (L : LM) (k : Nat) : va_E :=
  if kd S k < 100 then .inr (kd S k, (List.range (nf (kd S k))).map (fval G S I L (kd S k) k)) else .inl (gA G, (kd S k - 100, .inl (I k)))
def wsl (G : WG) (S : Shp) (I : IM) (L : LM) : va_W := (List.range (sn S)).map fun k => (gb G + k, cellE G S I L k)
def AA (G : WG) : Nat → Prop := fun q => gb G ≤ q
def Rep (G : WG) (S : Shp) (I : IM) (L : LM) (H : Heap) : Prop := H.size = gb G + sn S ∧ sn S < 1000000 ∧ va_P (gD G) vwCl (wsl G S I L) H
/-- one row of a picture anew, one cell of it -/
def upr {α : Type} (I : Nat → Nat → α) (k : Nat) (f : Nat → α) : Nat → Nat → α := fun i => if i = k then f else I i
def up1 {α : Type} (f : Nat → α) (j : Nat) (x : α) : Nat → α := fun i => if i = j then x else f i
def up2 {α : Type} (I : Nat → Nat → α) (k j : Nat) (x : α) : Nat → Nat → α := upr I k (up1 (I k) j x)
theorem upr_s {α : Type} (I : Nat → Nat → α) (k : Nat) (f : Nat → α) : upr I k f k = f := by simp [upr]
theorem upr_n {α : Type} (I : Nat → Nat → α) {k i : Nat} (f : Nat → α) (h : i ≠ k) : upr I k f i = I i := by simp [upr, h]
theorem up2_s {α : Type} (I : Nat → Nat → α) (k j : Nat) (x : α) : up2 I k j x k = up1 (I k) j x := upr_s I k _
theorem up2_n {α : Type} (I : Nat → Nat → α) {k i : Nat} (j : Nat) (x : α) (h : i ≠ k) : up2 I k j x i = I i := upr_n I _ h
theorem up1_upd (f : Nat → Int32) (j : Nat) (x : Int32) : up1 f j x = upd f j x := by
  funext i; simp [up1, upd]
theorem wsl_get (G : WG) (S : Shp) (I : IM) (L : LM) {k : Nat} (h : k < sn S) : (wsl G S I L)[k]? = some (gb G + k, cellE G S I L k) := by
  simp [wsl, h]
theorem wsl_len (G : WG) (S : Shp) (I : IM) (L : LM) : (wsl G S I L).length = sn S := by simp [wsl]
theorem wsl_none (G : WG) (S : Shp) (I : IM) (L : LM) {k : Nat} (h : ¬ k < sn S) : (wsl G S I L)[k]? = none := by
  simp [wsl, h]
theorem wsl_at (G : WG) (S : Shp) (I : IM) (L : LM) {k : Nat} {q : Nat × va_E} (h : (wsl G S I L)[k]? = some q) : k < sn S ∧ q = (gb G + k, cellE G S I L k) := by
  by_cases hk : k < sn S
  · rw [wsl_get G S I L hk] at h
    exact ⟨hk, (Option.some.inj h).symm⟩
  · rw [wsl_none G S I L hk] at h
    cases h
theorem wsl_D (G : WG) (S : Shp) (I : IM) (L : LM) : va_D (AA G) (wsl G S I L) := by
  refine ⟨fun i j p q hi hj h => ?_, fun k q hk => ?_⟩
  · obtain ⟨-, rfl⟩ := wsl_at G S I L hi
    obtain ⟨-, rfl⟩ := wsl_at G S I L hj
    have h' : gb G + i = gb G + j := h
    omega
  · obtain ⟨-, rfl⟩ := wsl_at G S I L hk
    exact Nat.le_add_right _ _
theorem wsl_set (G : WG) (S : Shp) (I I' : IM) (L L' : LM) (S' : Shp) {k : Nat} (hk : k < sn S) (hn : sn S' = sn S) (e : va_E) (he : cellE G S' I' L' k = e) (ho : ∀ i, i ≠ k → cellE G S' I' L' i = cellE G S I L i) : (wsl G S I L).set k (gb G + k, e) = wsl G S' I' L' := by
  apply List.ext_getElem?
  intro i
  by_cases hi : i < sn S
  · rw [wsl_get G S' I' L' (by rw [hn]; exact hi)]
    by_cases hik : i = k
    · subst hik
      rw [List.getElem?_set_self (by rw [wsl_len]; exact hk), he]
    · rw [List.getElem?_set_ne (fun h => hik h.symm), wsl_get G S I L hi, ho i hik]
  · rw [wsl_none G S' I' L' (by rw [hn]; exact hi)]
    simp [List.getElem?_set, wsl_none G S I L hi, wsl_len]
    omega
theorem wsl_push (G : WG) (S S' : Shp) (I I' : IM) (L L' : LM) (hn : sn S' = sn S + 1) (e : va_E) (he : cellE G S' I' L' (sn S) = e) (ho : ∀ i, i < sn S → cellE G S' I' L' i = cellE G S I L i) : wsl G S I L ++ [(gb G + sn S, e)] = wsl G S' I' L' := by
  apply List.ext_getElem?
  intro i
  by_cases hi : i < sn S
  · rw [wsl_get G S' I' L' (by omega), List.getElem?_append_left (by rw [wsl_len]; exact hi), wsl_get G S I L hi, ho i hi]
  · rw [List.getElem?_append_right (by rw [wsl_len]; omega), wsl_len]
    by_cases h2 : i = sn S
    · subst h2
      rw [wsl_get G S' I' L' (by omega), he]
      simp
    · rw [wsl_none G S' I' L' (by omega)]
      simp
      omega
theorem cellE_o (G : WG) (S : Shp) (I : IM) (L : LM) {k c : Nat} (h : kd S k = c) (hc : c < 100) : cellE G S I L k = .inr (c, (List.range (nf c)).map (fval G S I L c k)) := by
  subst h
  simp [cellE, hc]
theorem cellE_a (G : WG) (S : Shp) (I : IM) (L : LM) {k n : Nat} (h : kd S k = n + 100) : cellE G S I L k = .inl (gA G, (n, .inl (I k))) := by
  have h2 : ¬ kd S k < 100 := by omega
  rw [cellE, if_neg h2]
  rw [h, Nat.add_sub_cancel]
theorem cellE_c (G : WG) (S S' : Shp) (I I' : IM) (L L' : LM) {i : Nat} (h1 : kd S' i = kd S i) (h2 : rr S' i = rr S i) (h3 : I' i = I i) (h4 : L' i = L i) : cellE G S' I' L' i = cellE G S I L i := by
  unfold cellE
  have hf : fval G S' I' L' (kd S i) i = fval G S I L (kd S i) i := by
    funext j
    simp [fval, h2, h3, h4]
  rw [h1, h3, hf]
theorem wsl_arr (G : WG) (S : Shp) (I : IM) (L : LM) {k n : Nat} (hk : k < sn S) (h : kd S k = n + 100) : (wsl G S I L)[k]? = some (gb G + k, .inl (gA G, (n, .inl (I k)))) := by
  rw [wsl_get G S I L hk, cellE_a G S I L h]
theorem wsl_obj (G : WG) (S : Shp) (I : IM) (L : LM) {k c : Nat} (hk : k < sn S) (h : kd S k = c) (hc : c < 100) : (wsl G S I L)[k]? = some (gb G + k, .inr (c, (List.range (nf c)).map (fval G S I L c k))) := by
  rw [wsl_get G S I L hk, cellE_o G S I L h hc]
theorem adr_o (G : WG) {k : Nat} (h : k < 1000000) : adr G k = gb G + k := by simp [adr, h]
theorem adr_f (G : WG) (i : Nat) : adr G (1000000 + i) = gf G i := by
  have h : ¬ (1000000 + i < 1000000) := by omega
  rw [adr, if_neg h, Nat.add_sub_cancel_left]
/-! what stands outside: KIND_ABOVE, string constants, the script -/
def FF (G : WG) (s : State) : Prop :=
  va_Z "WhoeverHeard" "KIND_ABOVE" "[I" (.ref (gf G 100)) (AA G) s s.heap ∧
  va_T .int (gf G 100) 6 (fun j => .int (kaL.getD j 0)) (AA G) s s.heap ∧
  (∀ i, i < nStr → vk_R (stO.getD i "") (stK.getD i 0) (stT.getD i "") (gf G i) s) ∧
  vk_S nStr stL stB (fun i => gf G i) (fun i => gf G (50 + i)) (AA G) s s.heap ∧
  va_Z "java/lang/String" "COMPACT_STRINGS" "Z" (.int 1) (AA G) s s.heap ∧
  (va_Z "jdk/internal/util/Preconditions" "SIOOBE_FORMATTER" "Ljava/util/function/BiFunction;" .null (AA G) s s.heap ∨ va_Z "jdk/internal/util/Preconditions" "SIOOBE_FORMATTER" "Ljava/util/function/BiFunction;" (.ref (gf G 150)) (AA G) s s.heap) ∧
  va_X (gf G 200) (gL G) (gx G) s s.heap ∧ gf G 200 < s.heap.size ∧ gf G 200 < gb G ∧
  (∀ q ∈ nwM, va_Nw (.methodLinkNest q.1 q.2.1 q.2.2.1 q.2.2.2) s) ∧ (∀ q ∈ nwF, va_Nw (.fieldLinkNest q.1 q.2.1 q.2.2.1 q.2.2.2.1 q.2.2.2.2.1 q.2.2.2.2.2) s)
theorem FF.go {G : WG} {s U : State} {H : Heap} (h : FF G s) (hW : s.WarmedH U.vm) (hU : U.heap = H) (hz : s.heap.size ≤ H.size) (hk : ∀ q : Nat, q < s.heap.size → ¬ AA G q → H[q]? = s.heap[q]?) : FF G U := by
  obtain ⟨h1, h2, h3, h4, h5, h6, h7, h8, h9, h10, h11⟩ := h
  subst hU
  refine ⟨(va_Z.moved hW.alike h1).kept hk, (va_T.moved hW.alike h2).kept hk, fun i hi => (h3 i hi).warm hW, (vk_S.moved hW.alike h4).kept hk, (va_Z.moved hW.alike h5).kept hk, ?_, (va_X.moved hW.alike h7).kept (hk _ h8 (by show ¬ (gb G ≤ gf G 200); omega)), Nat.lt_of_lt_of_le h8 hz, h9, fun q hq => va_Nw.warmM hW (h10 q hq), fun q hq => va_Nw.warmF hW (h11 q hq)⟩
  rcases h6 with h6 | h6
  · exact Or.inl ((va_Z.moved hW.alike h6).kept hk)
  · exact Or.inr ((va_Z.moved hW.alike h6).kept hk)
theorem FF.blind {G : WG} {U : State} (g : JFrame) (mk : MethodId) (a : Array Value) (h : FF G U) : FF G (U.calling g mk a) := by
  obtain ⟨h1, h2, h3, h4, h5, h6, h7, h8, h9, h10, h11⟩ := h
  have hv : U.vm.Alike (U.calling g mk a).vm := Vm.Alike.refl U.vm
  refine ⟨va_Z.moved hv h1, va_T.moved hv h2, fun i hi => vk_R.same (u := U) rfl (h3 i hi), vk_S.moved hv h4, va_Z.moved hv h5, ?_, va_X.moved hv h7, h8, h9, fun q hq => va_Nw.same rfl (u := U) rfl (h10 q hq), fun q hq => va_Nw.same rfl (u := U) rfl (h11 q hq)⟩
  rcases h6 with h6 | h6
  · exact Or.inl (va_Z.moved hv h6)
  · exact Or.inr (va_Z.moved hv h6)
/-! the judgement -/
abbrev PostT : Type := Option Value → Shp → IM → LM → Prop
def Cx (M : MI) (p : Program) (s : State) (m : MethodId) (args : Array Value) (meth : Method) (c : Code) : Prop :=
  p.tables.exec = Jvm.exec ∧ c.code = mcc M ∧ c.maxLocals = mnl M ∧ s.vm.findClass (my M).cls = some m.cls ∧ (∀ w ∈ lwT, w.before args s = true) ∧ meth.name = (my M).name
def LH (G : WG) (ls : Array Slot) (nL : Nat) (loc : List Value) : Prop :=
  ls.size = nL ∧ lv_wf ls ∧ ∀ (j : Nat) (v : Value), loc[j]? = some v → v ≠ .null → ls[j]? = some (.val (vmap G v))
/-- how a return instruction fits an answer -/
def RetI (M : MI) (pc : Nat) (v : Option Value) : Prop :=
  (∃ (x : Int32) (ty : FieldType), v = some (.int x) ∧ mret M = some ty ∧ narrow ty (.int x) = .int x ∧ decode (mcc M) pc = .ok (.ireturn, 1)) ∨
  (∃ x : Int64, v = some (.long x) ∧ mret M = some .long ∧ decode (mcc M) pc = .ok (.lreturn, 1)) ∨ (v = none ∧ mret M = none ∧ decode (mcc M) pc = .ok (.return_, 1))
def Ret (G : WG) (M : MI) (Post : PostT) (p : Program) (l : Launch) (e : Env) (R : Room) (s : State) (m : MethodId) (args : Array Value) (below : List Frame) (meth : Method) (c : Code) (Q : State → Prop) : Prop :=
  ∀ (v : Option Value) (S : Shp) (I : IM) (L : LM) (H : Heap) (locs : List Loc) (cells slots pc : Nat) (ls : Array Slot), Post v S I L → RetI M pc v → Rep G S I L H → va_S (AA G) s.heap H locs → cells ≤ R.cells → slots ≤ R.slots →
    W p l e R s m args below meth c H locs cells slots Q (F0 m pc ls ((v.map (vmap G)).toList))
/-- the unchanging part of a walk -/
def BX (M : MI) (G : WG) (d : Nat) (Post : PostT) (p : Program) (l : Launch) (e : Env) (R : Room) (s : State) (m : MethodId) (args : Array Value) (below : List Frame) (meth : Method) (c : Code) (Q : State → Prop) : Prop :=
  Cx M p s m args meth c ∧ FF G s ∧ va_K (gD G) vwCl [(gA G, .int)] s ∧ gb G ≤ s.heap.size ∧ Ret G M Post p l e R s m args below meth c Q ∧ d ≤ R.frames ∧ 500 * d ≤ R.locals
/-- from here the method comes to a return with Post -/
def X (M : MI) (G : WG) (r : Nat × Nat × Nat) (S : Shp) (I : IM) (L : LM) (pc : Nat) (loc st : List Value) (Post : PostT) : Prop :=
  ∀ (p : Program) (l : Launch) (e : Env) (R : Room) (s : State) (m : MethodId) (args : Array Value) (below : List Frame) (meth : Method) (c : Code) (Q : State → Prop), BX M G r.1 Post p l e R s m args below meth c Q →
  ∀ (H : Heap) (locs : List Loc) (cells slots : Nat) (ls : Array Slot), cells + r.2.1 ≤ R.cells → slots + r.2.2 ≤ R.slots → Rep G S I L H → va_S (AA G) s.heap H locs → LH G ls (mnl M) loc →
    W p l e R s m args below meth c H locs cells slots Q (F0 m pc ls (st.map (vmap G)))
