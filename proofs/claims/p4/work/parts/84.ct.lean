/-! the shape while objects are being made: of an open object (its cell, f, e) the references below f, and from 6 to e, stand -/
def SPr (op : List (Nat × Nat × Nat)) (k j : Nat) : Nat := match op with
  | [] => rr S1 k j
  | (a, f, e) :: t => if k = a then (if j < f ∨ (5 < j ∧ j < e) then rr S1 k j else 0) else SPr t k j
def SP (n : Nat) (op : List (Nat × Nat × Nat)) : Shp := (n, kd S1, SPr op)
theorem SPr_s (t : List (Nat × Nat × Nat)) (a f e j : Nat) : SPr ((a, f, e) :: t) a j = if j < f ∨ (5 < j ∧ j < e) then rr S1 a j else 0 := by
  rw [SPr, if_pos rfl]
theorem SPr_n (t : List (Nat × Nat × Nat)) {a k : Nat} (f e j : Nat) (h : ¬ k = a) : SPr ((a, f, e) :: t) k j = SPr t k j := by
  rw [SPr, if_neg h]
theorem rr_big {k b : Nat} (h : 62 ≤ b) : rr S1 k b = 0 := by
  show (rrL.getD k []).getD b 0 = 0
  have h1 : ∀ r ∈ rrL, r.length ≤ 62 := by decide
  have h2 : (rrL.getD k []).length ≤ 62 := by
    rw [List.getD_eq_getElem?_getD]
    by_cases hk : k < rrL.length
    · rw [List.getElem?_eq_getElem hk]
      exact h1 _ (List.getElem_mem hk)
    · rw [List.getElem?_eq_none (by omega)]
      exact Nat.zero_le _
  rw [List.getD_eq_getElem?_getD, List.getElem?_eq_none (by omega)]
  rfl
theorem SP_close {n k f e : Nat} {op : List (Nat × Nat × Nat)} (h : ∀ b, b < 62 → ¬ (b < f ∨ (5 < b ∧ b < e)) → rr S1 k b = 0) (h2 : ∀ b, SPr op k b = rr S1 k b) : SP n ((k, f, e) :: op) = SP n op := by
  have h3 : SPr ((k, f, e) :: op) = SPr op := by
    funext a b
    by_cases ha : a = k
    · subst ha
      rw [SPr_s, h2 b]
      by_cases c : b < f ∨ (5 < b ∧ b < e)
      · rw [if_pos c]
      · rw [if_neg c]
        by_cases d : b < 62
        · exact (h b d c).symm
        · exact (rr_big (by omega)).symm
    · exact SPr_n op f e b ha
  show ((n, kd S1, SPr ((k, f, e) :: op)) : Shp) = (n, kd S1, SPr op)
  rw [h3]
section MAKE
variable {M : MI} {G : WG} {I : IM} {L : LM} {pc : Nat} {loc rest : List Value} {Post : PostT} {d rc rs : Nat} {op : List (Nat × Nat × Nat)}
theorem x_newSP {n N : Nat} {i : Int32} (hd : decode (mcc M) pc = .ok (.newarray .int, 2)) (hi : i = Int32.ofNat N) (hk : kd S1 n = N + 100) (hN : Nat.ble N 100000 = true) (hn : Nat.ble (n + 2) 1000000 = true)
    (kk : X M G (d, rc, rs) (SP (n + 1) op) (upr I n (fun _ => 0)) L (pc + 2) loc (.ref n :: rest) Post) : X M G (d, rc + 1, rs + N) (SP n op) I L pc loc (.int i :: rest) Post := by
  have e1 : up1 (kd S1) n (N + 100) = kd S1 := by
    funext q
    unfold up1
    by_cases h : q = n
    · rw [if_pos h, h, hk]
    · rw [if_neg h]
  have hn' := Nat.le_of_ble_eq_true hn
  refine x_newarr (n := n) (kf := kd S1) (rf := SPr op) hd hi (Nat.le_of_ble_eq_true hN) (by omega) ?_
  rw [e1]
  exact kk
theorem x_putSP {k f e j ci idx a n : Nat} (hf : FLink (my M).cls idx ci j) (ht : ft ci j = 2) (hd : decode (mcc M) pc = .ok (.putfield idx, 3)) (hfi : FinOk M ci j = true) (hk : kd S1 k = ci) (hn : Nat.ble (k + 1) n = true) (hr : rr S1 k j = a + 1) (hg : ∀ q, q < j → ¬ (q < f ∨ (5 < q ∧ q < e)) → rr S1 k q = 0) (hfj : f ≤ j)
    (hnr : ∀ b, narrow (tyF ci j) (.ref b) = .ref b) (hft : ∀ b, fits (tyF ci j) (.ref b) = true)
    (kk : X M G (d, rc, rs) (SP n ((k, j + 1, e) :: op)) I L (pc + 3) loc rest Post) : X M G (d, rc, rs) (SP n ((k, f, e) :: op)) I L pc loc (.ref a :: .ref k :: rest) Post := by
  refine x_putR (n := n) (kf := kd S1) (rf := SPr ((k, f, e) :: op)) (a := a) hf ht hd hfi hk hn hnr hft ?_
  have e2 : up2 (SPr ((k, f, e) :: op)) k j (a + 1) = SPr ((k, j + 1, e) :: op) := by
    funext x b
    by_cases ha : x = k
    · subst ha
      rw [up2_s, SPr_s]
      unfold up1
      by_cases hb : b = j
      · rw [if_pos hb, if_pos (by omega), hb, hr]
      · rw [if_neg hb, SPr_s]
        by_cases c : b < f ∨ (5 < b ∧ b < e)
        · rw [if_pos c, if_pos (by omega)]
        · rw [if_neg c]
          by_cases c2 : b < j
          · rw [if_pos (by omega), hg b c2 c]
          · rw [if_neg (by omega)]
    · rw [up2_n _ _ _ ha, SPr_n _ _ _ _ ha]
      exact (SPr_n _ _ _ _ ha).symm
  rw [e2]
  exact kk
theorem x_putSQ {k f e j ci idx a n : Nat} (hf : FLink (my M).cls idx ci j) (ht : ft ci j = 2) (hd : decode (mcc M) pc = .ok (.putfield idx, 3)) (hfi : FinOk M ci j = true) (hk : kd S1 k = ci) (hn : Nat.ble (k + 1) n = true) (hr : rr S1 k j = a + 1) (hf0 : f = 0) (h6 : (e = j ∨ (e = 0 ∧ j = 6)) ∧ 5 < j)
    (hnr : ∀ b, narrow (tyF ci j) (.ref b) = .ref b) (hft : ∀ b, fits (tyF ci j) (.ref b) = true)
    (kk : X M G (d, rc, rs) (SP n ((k, f, j + 1) :: op)) I L (pc + 3) loc rest Post) : X M G (d, rc, rs) (SP n ((k, f, e) :: op)) I L pc loc (.ref a :: .ref k :: rest) Post := by
  refine x_putR (n := n) (kf := kd S1) (rf := SPr ((k, f, e) :: op)) (a := a) hf ht hd hfi hk hn hnr hft ?_
  have e2 : up2 (SPr ((k, f, e) :: op)) k j (a + 1) = SPr ((k, f, j + 1) :: op) := by
    funext x b
    by_cases ha : x = k
    · subst ha
      rw [up2_s, SPr_s]
      unfold up1
      by_cases hb : b = j
      · rw [if_pos hb, if_pos (by omega), hb, hr]
      · rw [if_neg hb, SPr_s]
        by_cases c : b < f ∨ (5 < b ∧ b < e)
        · rw [if_pos c, if_pos (by omega)]
        · rw [if_neg c, if_neg (by omega)]
    · rw [up2_n _ _ _ ha, SPr_n _ _ _ _ ha]
      exact (SPr_n _ _ _ _ ha).symm
  rw [e2]
  exact kk
theorem x_newOb {ci n idx nq : Nat} {q : vw_C} (hd : decode (mcc M) pc = .ok (.new idx, 3)) (hq : vwCl[ci]? = some q) (hw1 : Cond.classLink (my M).cls idx q.1 ∈ lwT) (hw2 : Cond.instantiable q.1 q.2.2 ∈ lwT) (hw3 : Cond.initialized q.1 ∈ lwT) (hnq : q.2.2 = nq) (hk : kd S1 n = ci) (hn : Nat.ble (n + 2) 1000000 = true)
    (kk : X M G (d, rc, rs) (SP (n + 1) ((n, 0, 0) :: op)) (upr I n (fun _ => 0)) (upr L n (fun _ => 0)) (pc + 3) loc (.ref n :: rest) Post) : X M G (d, rc + 1, rs + nq) (SP n op) I L pc loc rest Post := by
  subst hnq
  have hn' := Nat.le_of_ble_eq_true hn
  have e1 : up1 (kd S1) n ci = kd S1 := by
    funext q
    unfold up1
    by_cases h : q = n
    · rw [if_pos h, h, hk]
    · rw [if_neg h]
  have e2 : upr (SPr op) n (fun _ => 0) = SPr ((n, 0, 0) :: op) := by
    funext x b
    by_cases ha : x = n
    · subst ha
      rw [upr_s, SPr_s, if_neg (by omega)]
    · rw [upr_n _ _ ha, SPr_n _ _ _ _ ha]
  refine x_new (n := n) (kf := kd S1) (rf := SPr op) hd hq hw1 hw2 hw3 (by omega) ?_
  rw [e1, e2]
  exact kk
end MAKE
/-! rows behind the constructors of the class's own objects -/
def fL (l : List Int32) : Nat → Int32 := fun j => l.getD j 0
def m4L : List Int32 := [-1, -1, -1, -1]
theorem fL_t {l : List Int32} {I : IM} {n i : Nat} {v : Int32} (h : l[i]? = some v) : up2 (upr I n (fL (l.take i))) n i v = upr I n (fL (l.take (i + 1))) := by
  funext x
  by_cases hx : x = n
  · subst hx
    rw [up2_s, upr_s, upr_s]
    funext j
    have hi : i < l.length := (List.getElem?_eq_some_iff.mp h).1
    unfold fL
    by_cases hj : j = i
    · subst hj
      rw [up1_s, List.getD_eq_getElem?_getD, List.getElem?_take_of_lt (by omega), h]
      rfl
    · rw [up1_n _ _ hj, List.getD_eq_getElem?_getD, List.getD_eq_getElem?_getD]
      by_cases h2 : j < i
      · rw [List.getElem?_take_of_lt h2, List.getElem?_take_of_lt (by omega)]
      · rw [List.getElem?_eq_none (by rw [List.length_take]; omega), List.getElem?_eq_none (by rw [List.length_take]; omega)]
  · rw [up2_n _ _ _ hx, upr_n _ _ hx, upr_n _ _ hx]
def m8L : List Int32 := [-1, -1, -1, -1, -1, -1, -1, -1]
def lawL : List Int32 := [104, 101, 97, 114, 100, 32, 52, 48, 32, 43, 32, 108, 111, 117, 100, 32, 42, 32, 49, 50, 32, 45, 32, 102, 97, 114, 32, 42, 32, 49, 53, 32, 43, 32, 101, 97, 114, 32, 42, 32, 51, 32, 59, 32, 115, 104, 97, 114, 101, 32, 110, 101, 101, 100, 32, 59, 32, 112, 97, 105, 110, 32, 110, 101, 101, 100, 32, 42, 32, 98, 97, 115, 101, 32, 59]
def rowI (k : Nat) : Nat → Int32 :=
  if k = 1 ∨ k = 46 then (fun j => if j = 2 then 2 else 0) else if k = 2 ∨ k = 47 then fa0 else if k = 56 ∨ k = 88 then fL (m4L.take 4) else
  if k = 69 then fL (m8L.take 8) else if k = 91 then fL (lawL.take 75) else if k = 92 then fL (wordsL.take 96) else fun _ => 0
def Fill (k n : Nat) (I I' : IM) : Prop := (∀ i, i < k ∨ n ≤ i → I' i = I i) ∧ ∀ i, k ≤ i → i < n → I' i = rowI i
theorem Fill.start {k : Nat} {I : IM} (h : I k = rowI k) : Fill k (k + 1) I I :=
  ⟨fun _ _ => rfl, fun i h1 h2 => by obtain rfl : i = k := by omega
                                     exact h⟩
theorem Fill.nil {k : Nat} {I : IM} : Fill k k I I := ⟨fun _ _ => rfl, fun i h1 h2 => by omega⟩
theorem Fill.lo {k n : Nat} {I I' : IM} (h : Fill k n I I') {q j : Nat} {x : Int32} (hq : q < k) : Fill k n (up2 I q j x) (up2 I' q j x) := by
  have e : I' q = I q := h.1 q (Or.inl hq)
  refine ⟨fun i hi => ?_, fun i h1 h2 => ?_⟩
  · by_cases c : i = q
    · subst c
      rw [up2_s, up2_s, e]
    · rw [up2_n _ _ _ c, up2_n _ _ _ c]
      exact h.1 i hi
  · rw [up2_n _ _ _ (by omega)]
    exact h.2 i h1 h2
theorem Fill.pushf {k n : Nat} {I I' : IM} {f : Nat → Int32} (h : Fill k n I I') (hk : k ≤ n) (hf : f = rowI n) : Fill k (n + 1) I (upr I' n f) := by
  refine ⟨fun i hi => ?_, fun i h1 h2 => ?_⟩
  · rw [upr_n _ _ (by omega)]
    exact h.1 i (by omega)
  · by_cases e : i = n
    · subst e
      rw [upr_s, hf]
    · rw [upr_n _ _ e]
      exact h.2 i h1 (by omega)
theorem Fill.app {k m n : Nat} {I I' I'' : IM} (h : Fill k m I I') (h2 : Fill m n (upr I' m (fun _ => 0)) I'') (hk : k ≤ m) (hn : m < n) : Fill k n I I'' := by
  refine ⟨fun i hi => ?_, fun i h3 h4 => ?_⟩
  · rw [h2.1 i (by omega), upr_n _ _ (by omega)]
    exact h.1 i (by omega)
  · by_cases e : i < m
    · rw [h2.1 i (Or.inl e), upr_n _ _ (by omega)]
      exact h.2 i h3 e
    · exact h2.2 i (by omega) h4
theorem Fill.at {k n : Nat} {I I' : IM} (h : Fill k n I I') {i j : Nat} {x : Int32} (h1 : Nat.ble k i = true) (h2 : Nat.ble (i + 1) n = true) (hx : rowI i j = x) : I' i j = x := by
  rw [h.2 i (Nat.le_of_ble_eq_true h1) (Nat.le_of_ble_eq_true h2)]
  exact hx
theorem up2_id {I : IM} {k j : Nat} {x : Int32} (h : I k j = x) : up2 I k j x = I := by
  funext i
  by_cases hi : i = k
  · subst hi
    rw [up2_s]
    funext q
    by_cases hq : q = j
    · subst hq; rw [up1_s, h]
    · rw [up1_n _ _ hq]
  · rw [up2_n _ _ _ hi]
/-- a constructor of the class's own objects: cell k, to the cell n -/
def spC (k n : Nat) (args : List Value) (op : List (Nat × Nat × Nat)) : SpT := fun as S I L Post => as = .ref k :: args ∧ S = SP (k + 1) ((k, 0, 0) :: op) ∧ I k = (fun _ => 0) ∧ ∀ (I' : IM) (L' : LM), Fill k n I I' → Post none (SP n op) I' L'
theorem SPr_nil : SPr [] = rr S1 := by
  funext a b
  rfl
theorem SP_59 : SP 59 [] = S5 := by
  show ((59, kd S1, SPr []) : Shp) = (59, kd S1, rr S1)
  rw [SPr_nil]
theorem SP_100 : SP 100 [] = S1 := by
  show ((100, kd S1, SPr []) : Shp) = (100, kd S1, rr S1)
  rw [SPr_nil]
