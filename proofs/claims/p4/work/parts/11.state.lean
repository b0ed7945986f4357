/-! the state that both sides speak of: arrays by numbers, read off the cells of either -/
def rng (x : Int32) (n : Nat) : Prop := ∃ k, k < n ∧ x = nI k
def rng1 (x : Int32) (n : Nat) : Prop := x = -1 ∨ rng x n
def b2i (p : Prop) [Decidable p] : Int32 := if p then 1 else 0
def mk (n : Nat) (f : Nat → Int32) : Nat → Int32 := fun i => if i < n then f i else 0
theorem mk_lt {n i : Nat} {f : Nat → Int32} (h : i < n) : mk n f i = f i := by simp [mk, h]
/-- a step of the class's texts as the reference's code -/
def enc (x : Int32) : Int32 :=
  if 0 ≤ x ∧ x < 10000 then x + 100000 else if 10000 ≤ x ∧ x < 10006 then x - 10000 else
  if x = 20007 then 11 else if x = 20008 then 12 else if x = 20009 then 13 else if x = 20010 then 19 else
  if x = 20060 then 14 else if x = 20061 then 15 else if x = 20043 then 16 else if x = 20045 then 17 else if x = 20042 then 18 else 999
def cl (x : Int32) : Nat := x.toNatClampNeg
def cSc (I : IM) (j : Nat) : Int32 := match j with
  | 0 => I 1 2 | 1 => I 4 8 | 2 => I 13 4 | 3 => I 18 4 | 4 => I 30 2 | 5 => I 30 3 | 6 => I 23 1
  | 7 => I 45 5 | 8 => I 46 2 | 9 => I 45 3 | 10 => I 49 4 | 11 => I 45 4 | _ => 0
/-- what the IMAGE is as long as none was kept -/
def fa0 (j : Nat) : Int32 := if j < 36 then (if j % 6 ≤ j / 6 then nI (j / 6 - j % 6) else nI (j % 6 - j / 6)) else 0
def img0 (f : Int32) (g : Nat → Int32) : Nat → Int32 := if f = 0 then fa0 else mk 36 g
def img8 (f x : Int32) : Int32 := if f = 0 then 2 else x
theorem img0_n {f : Int32} {g : Nat → Int32} (h : ¬ f = 0) : img0 f g = mk 36 g := if_neg h
theorem img8_n {f x : Int32} (h : ¬ f = 0) : img8 f x = x := if_neg h
def rSc (I : IM) (j : Nat) : Int32 := match j with
  | 0 => I 59 2 | 1 => I 59 3 | 2 => I 59 12 | 3 => I 59 17 | 4 => I 59 26 | 5 => I 59 27 | 6 => I 59 23
  | 7 => I 59 28 | 8 => img8 (I 59 28) (I 59 29) | 9 => I 59 30 | 10 => I 59 31 | 11 => I 59 32 | _ => 0
def cE (I : IM) : IM := fun a => match a with
  | 0 => I 2 | 1 => I 3 | 2 => I 5 | 3 => I 6 | 4 => I 7 | 5 => I 8 | 6 => I 9 | 7 => I 10 | 8 => I 11
  | 9 => mk (cl (I 4 8)) (I 12) | 10 => I 14 | 11 => I 15 | 12 => I 16 | 13 => I 17
  | 14 => mk (cl (I 18 4)) (I 19) | 15 => mk (cl (I 18 4)) (I 20) | 16 => mk (cl (I 18 4)) (I 21) | 17 => mk (cl (I 18 4)) (I 22)
  | 18 => mk (cl (I 23 1)) (I 24) | 19 => I 47 | 20 => I 48 | 21 => mk (cl (I 45 3)) (I 54)
  | 22 => mk (cl (I 49 4)) (I 50) | 23 => mk (cl (I 49 4)) (I 51) | 24 => mk (cl (I 49 4)) (I 52) | 25 => mk (cl (I 49 4)) (I 53)
  | 26 => I 56 | 27 => I 57 | 28 => I 58 | 29 => cSc I | 30 => mk (4 * cl (I 30 2)) (I 32)
  | 31 => fun j => if j / 200 < cl (I 30 2) ∧ j % 200 < cl (I 32 (4 * (j / 200) + 3)) then enc (I 31 (160 * (j / 200) + j % 200)) else 0
  | _ => fun _ => 0
def rE (I : IM) : IM := fun a => match a with
  | 0 => I 60 | 1 => I 61 | 2 => I 62 | 3 => I 63 | 4 => I 64 | 5 => I 65 | 6 => I 66 | 7 => I 67 | 8 => I 68
  | 9 => mk (cl (I 59 3)) (I 69) | 10 => I 70 | 11 => I 71 | 12 => I 72 | 13 => I 73
  | 14 => mk (cl (I 59 17)) (I 74) | 15 => mk (cl (I 59 17)) (I 75) | 16 => mk (cl (I 59 17)) (I 76) | 17 => mk (cl (I 59 17)) (I 77)
  | 18 => mk (cl (I 59 23)) (I 78) | 19 => img0 (I 59 28) (I 81) | 20 => I 82 | 21 => mk (cl (I 59 30)) (I 83)
  | 22 => mk (cl (I 59 31)) (I 84) | 23 => mk (cl (I 59 31)) (I 85) | 24 => mk (cl (I 59 31)) (I 86) | 25 => mk (cl (I 59 31)) (I 87)
  | 26 => I 88 | 27 => I 89 | 28 => I 90 | 29 => rSc I | 30 => mk (4 * cl (I 59 26)) (I 80)
  | 31 => fun j => if j / 200 < cl (I 59 26) ∧ j % 200 < cl (I 80 (4 * (j / 200) + 3)) then I 79 j else 0
  | _ => fun _ => 0
/-- how many PEOPLE, PROMISES, SAYINGS, TEXTS; THE LAW; bytes; of the image -/
def pN (E : IM) : Nat := cl (E 29 1)
def qN (E : IM) : Nat := cl (E 29 2)
def sN (E : IM) : Nat := cl (E 29 3)
def tN (E : IM) : Nat := cl (E 29 4)
def wN (E : IM) : Nat := cl (E 29 5)
def zN (E : IM) : Nat := cl (E 29 6)
/-- heights of a program's stack -/
def wfR (l : List Int32) (h : Nat) : Option Nat := match l with
  | [] => some h
  | c :: t => if (100000 ≤ c ∧ c < 110000) ∨ (0 ≤ c ∧ c < 6) then wfR t (h + 1) else
    if c = 13 ∨ c = 19 then (if 1 ≤ h then wfR t h else none) else
    if c = 11 ∨ c = 12 ∨ (14 ≤ c ∧ c ≤ 18) then (if 2 ≤ h then wfR t (h - 1) else none) else none
def seg (E : IM) (t a b : Nat) : List Int32 := (List.range (b - a)).map fun i => E 31 (200 * t + (a + i))
def sA (E : IM) (t j : Nat) : Nat := cl (E 30 (4 * t + j))
def PersonOk (E : IM) (p : Nat) : Prop := rng (E 2 p) 6 ∧ rng (E 3 p) 6 ∧ rng (E 4 p) 10 ∧ rng (E 5 p) 10 ∧ rng (E 6 p) 256 ∧ (∃ k, 1 ≤ k ∧ k < 10 ∧ E 7 p = nI k) ∧ rng (E 8 p) 100 ∧ rng1 (E 9 p) 6
def PromiseOk (E : IM) (q : Nat) : Prop := rng (E 10 q) 8 ∧ (∃ k, 1 ≤ k ∧ k < 100 ∧ E 11 q = nI k) ∧ rng (E 12 q) 100 ∧ rng1 (E 13 q) q
def SayOk (Q : Nat) (a b c d : Int32) : Prop := rng a Q ∧ rng b 6 ∧ rng c 6 ∧ (∃ k, 1 ≤ k ∧ k < 10 ∧ d = nI k)
def TextOk (E : IM) (t : Nat) : Prop := (∀ j, j < 4 → E 30 (4 * t + j) = nI (sA E t j)) ∧ sA E t 0 = 0 ∧ sA E t 0 ≤ sA E t 1 ∧ sA E t 1 ≤ sA E t 2 ∧ sA E t 2 ≤ sA E t 3 ∧ sA E t 3 ≤ 160 ∧ ∀ j, j < 3 → wfR (seg E t (sA E t j) (sA E t (j + 1))) 0 = some 1
def Inv (E : IM) : Prop :=
  (E 29 1 = nI (pN E) ∧ pN E ≤ 8 ∧ ∀ p, p < pN E → PersonOk E p) ∧
  (E 29 2 = nI (qN E) ∧ qN E ≤ 8 ∧ ∀ q, q < qN E → PromiseOk E q) ∧
  (E 29 3 = nI (sN E) ∧ sN E ≤ 10 ∧ ∀ s, s < sN E → SayOk (qN E) (E 14 s) (E 15 s) (E 16 s) (E 17 s)) ∧
  (E 29 4 = nI (tN E) ∧ 1 ≤ tN E ∧ tN E ≤ 6 ∧ ∀ t, t < tN E → TextOk E t) ∧
  (E 29 5 = nI (wN E) ∧ wN E < tN E) ∧
  (E 29 6 = nI (zN E) ∧ zN E ≤ 160 ∧ ∀ i, i < zN E → rng (E 18 i) 256) ∧
  ((E 29 7 = 0 ∨ E 29 7 = 1) ∧ (∃ k, k ≤ pN E ∧ E 29 9 = nI k ∧ ∀ p, p < k → rng1 (E 21 p) 6) ∧ (∃ k, k ≤ 10 ∧ E 29 10 = nI k ∧ (∀ s, s < k → SayOk (qN E) (E 22 s) (E 23 s) (E 24 s) (E 25 s))) ∧ (∃ k, k < tN E ∧ E 29 11 = nI k)) ∧
  (∀ s, s < 4 → rng1 (E 26 s) 3 ∧ rng (E 27 s) 41 ∧ (E 26 s = -1 → E 27 s = 0)) ∧
  (∀ j, (36 ≤ j → E 0 j = 0 ∧ E 19 j = 0) ∧ (6 ≤ j → E 1 j = 0 ∧ E 20 j = 0))
/-- only these cells may differ -/
def Fr (ks : List Nat) (I I' : IM) : Prop := ∀ k, k ∉ ks → I' k = I k
theorem Fr.rfl {ks : List Nat} {I : IM} : Fr ks I I := fun _ _ => Eq.refl _
theorem Fr.tr {ks : List Nat} {I I' I'' : IM} (h : Fr ks I I') (h2 : Fr ks I' I'') : Fr ks I I'' := fun k hk => (h2 k hk).trans (h k hk)
theorem Fr.wk {ks ks' : List Nat} {I I' : IM} (h : Fr ks I I') (hs : ∀ k ∈ ks, k ∈ ks') : Fr ks' I I' := fun k hk => h k (fun q => hk (hs k q))
theorem Fr.up {ks : List Nat} {I I' : IM} (h : Fr ks I I') {k : Nat} (hk : k ∈ ks) (j : Nat) (x : Int32) : Fr ks I (up2 I' k j x) := fun i hi => by
  have hne : i ≠ k := fun e => hi (by rw [e]; exact hk)
  rw [up2_n I' j x hne]
  exact h i hi
theorem Fr.upr {ks : List Nat} {I I' : IM} (h : Fr ks I I') {k : Nat} (hk : k ∈ ks) (f : Nat → Int32) : Fr ks I (upr I' k f) := fun i hi => by
  have hne : i ≠ k := fun e => hi (by rw [e]; exact hk)
  rw [upr_n I' f hne]
  exact h i hi
/-- the class's own rows in which it reckons -/
abbrev cScr : List Nat := [25, 26, 27, 28, 29, 33, 34, 35, 36, 37, 38, 39, 40, 41, 42, 43, 44]
theorem cE_fr {I I' : IM} (h : Fr cScr I I') : cE I' = cE I := by
  have e : ∀ k, k ∉ cScr → I' k = I k := h
  funext a
  have e29 : cSc I' = cSc I := by
    funext j
    unfold cSc
    rw [e 1 (by decide), e 4 (by decide), e 13 (by decide), e 18 (by decide), e 30 (by decide), e 23 (by decide), e 45 (by decide), e 46 (by decide), e 49 (by decide)]
  unfold cE
  rw [e29, e 2 (by decide), e 3 (by decide), e 5 (by decide), e 6 (by decide), e 7 (by decide), e 8 (by decide), e 9 (by decide), e 10 (by decide), e 11 (by decide), e 4 (by decide), e 12 (by decide), e 14 (by decide), e 15 (by decide), e 16 (by decide), e 17 (by decide), e 18 (by decide), e 19 (by decide), e 20 (by decide), e 21 (by decide), e 22 (by decide), e 23 (by decide), e 24 (by decide), e 45 (by decide), e 47 (by decide), e 48 (by decide), e 49 (by decide), e 50 (by decide), e 51 (by decide), e 52 (by decide), e 53 (by decide), e 54 (by decide), e 56 (by decide), e 57 (by decide), e 58 (by decide), e 30 (by decide), e 31 (by decide), e 32 (by decide)]
/-- the machine of a text: names, a code, the numbers so far (the last first) -/
def two (c x y : Int32) : Int32 :=
  if c = 11 then b2i (¬ x = 0 ∨ ¬ y = 0) else if c = 12 then b2i (¬ x = 0 ∧ ¬ y = 0) else if c = 14 then b2i (x < y) else if c = 15 then b2i (x = y) else
  if c = 16 then x + y else if c = 17 then x - y else x * y
def stp (nm : Nat → Int32) (c : Int32) (st : List Int32) : List Int32 :=
  if 100000 ≤ c then (c - 100000) :: st else if c < 11 then nm (cl c) :: st else
  match st with
  | [] => []
  | y :: t => if c = 13 then b2i (y = 0) :: t else if c = 19 then (-y) :: t else match t with
    | [] => [y]
    | x :: u => two c x y :: u
def runP (nm : Nat → Int32) (l st : List Int32) : List Int32 := match l with
  | [] => st
  | c :: t => runP nm t (stp nm c st)
def valP (nm : Nat → Int32) (l : List Int32) : Int32 := (runP nm l []).headD 0
