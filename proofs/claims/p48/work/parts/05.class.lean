section
-- 11.state
/-! the state that both sides speak of: arrays by numbers, read off the cells of either -/
def rng (x : Int32) (n : Nat) : Prop := ∃ k, k < n ∧ x = nI k
def rng1 (x : Int32) (n : Nat) : Prop := x = -1 ∨ rng x n
def b2i (p : Prop) [Decidable p] : Int32 := if p then 1 else 0
def mk (n : Nat) (f : Nat → Int32) : Nat → Int32 := fun i => if i < n then f i else 0
theorem mk_lt {n i : Nat} {f : Nat → Int32} (h : i < n) : mk n f i = f i := by simp [mk, h]
/-- a step of the class's texts as the reference's code -/
def enc (x : Int32) : Int32 :=
  if 0 ≤ x ∧ x < 10000 then x + 100000 else if 10000 ≤ x ∧ x < 10006 then x - 10000 else
  if x = 20007 then 11 else if x = 20008 then 12 else if x = 20009 then 13 else if x = 20010 then 19 else
  if x = 20060 then 14 else if x = 20061 then 15 else if x = 20043 then 16 else if x = 20045 then 17 else if x = 20042 then 18 else 999
def cl (x : Int32) : Nat := x.toNatClampNeg
def cSc (I : IM) (j : Nat) : Int32 := match j with
  | 0 => I 1 2 | 1 => I 4 8 | 2 => I 13 4 | 3 => I 18 4 | 4 => I 30 2 | 5 => I 30 3 | 6 => I 23 1
  | 7 => I 45 5 | 8 => I 46 2 | 9 => I 45 3 | 10 => I 49 4 | 11 => I 45 4 | _ => 0
/-- what the IMAGE is as long as none was kept -/
def fa0 (j : Nat) : Int32 := if j < 36 then (if j % 6 ≤ j / 6 then nI (j / 6 - j % 6) else nI (j % 6 - j / 6)) else 0
def img0 (f : Int32) (g : Nat → Int32) : Nat → Int32 := if f = 0 then fa0 else mk 36 g
def img8 (f x : Int32) : Int32 := if f = 0 then 2 else x
theorem img0_n {f : Int32} {g : Nat → Int32} (h : ¬ f = 0) : img0 f g = mk 36 g := if_neg h
theorem img8_n {f x : Int32} (h : ¬ f = 0) : img8 f x = x := if_neg h
def rSc (I : IM) (j : Nat) : Int32 := match j with
  | 0 => I 59 2 | 1 => I 59 3 | 2 => I 59 12 | 3 => I 59 17 | 4 => I 59 26 | 5 => I 59 27 | 6 => I 59 23
  | 7 => I 59 28 | 8 => img8 (I 59 28) (I 59 29) | 9 => I 59 30 | 10 => I 59 31 | 11 => I 59 32 | _ => 0
def cE (I : IM) : IM := fun a => match a with
  | 0 => I 2 | 1 => I 3 | 2 => I 5 | 3 => I 6 | 4 => I 7 | 5 => I 8 | 6 => I 9 | 7 => I 10 | 8 => I 11
  | 9 => mk (cl (I 4 8)) (I 12) | 10 => I 14 | 11 => I 15 | 12 => I 16 | 13 => I 17
  | 14 => mk (cl (I 18 4)) (I 19) | 15 => mk (cl (I 18 4)) (I 20) | 16 => mk (cl (I 18 4)) (I 21) | 17 => mk (cl (I 18 4)) (I 22)
  | 18 => mk (cl (I 23 1)) (I 24) | 19 => I 47 | 20 => I 48 | 21 => mk (cl (I 45 3)) (I 54)
  | 22 => mk (cl (I 49 4)) (I 50) | 23 => mk (cl (I 49 4)) (I 51) | 24 => mk (cl (I 49 4)) (I 52) | 25 => mk (cl (I 49 4)) (I 53)
  | 26 => I 56 | 27 => I 57 | 28 => I 58 | 29 => cSc I | 30 => mk (4 * cl (I 30 2)) (I 32)
  | 31 => fun j => if j / 200 < cl (I 30 2) ∧ j % 200 < cl (I 32 (4 * (j / 200) + 3)) then enc (I 31 (160 * (j / 200) + j % 200)) else 0
  | _ => fun _ => 0
def rE (I : IM) : IM := fun a => match a with
  | 0 => I 60 | 1 => I 61 | 2 => I 62 | 3 => I 63 | 4 => I 64 | 5 => I 65 | 6 => I 66 | 7 => I 67 | 8 => I 68
  | 9 => mk (cl (I 59 3)) (I 69) | 10 => I 70 | 11 => I 71 | 12 => I 72 | 13 => I 73
  | 14 => mk (cl (I 59 17)) (I 74) | 15 => mk (cl (I 59 17)) (I 75) | 16 => mk (cl (I 59 17)) (I 76) | 17 => mk (cl (I 59 17)) (I 77)
  | 18 => mk (cl (I 59 23)) (I 78) | 19 => img0 (I 59 28) (I 81) | 20 => I 82 | 21 => mk (cl (I 59 30)) (I 83)
  | 22 => mk (cl (I 59 31)) (I 84) | 23 => mk (cl (I 59 31)) (I 85) | 24 => mk (cl (I 59 31)) (I 86) | 25 => mk (cl (I 59 31)) (I 87)
  | 26 => I 88 | 27 => I 89 | 28 => I 90 | 29 => rSc I | 30 => mk (4 * cl (I 59 26)) (I 80)
  | 31 => fun j => if j / 200 < cl (I 59 26) ∧ j % 200 < cl (I 80 (4 * (j / 200) + 3)) then I 79 j else 0
  | _ => fun _ => 0
/-- how many PEOPLE, PROMISES, SAYINGS, TEXTS; THE LAW; bytes; of the image -/
def pN (E : IM) : Nat := cl (E 29 1)
def qN (E : IM) : Nat := cl (E 29 2)
def sN (E : IM) : Nat := cl (E 29 3)
def tN (E : IM) : Nat := cl (E 29 4)
def wN (E : IM) : Nat := cl (E 29 5)
def zN (E : IM) : Nat := cl (E 29 6)
/-- heights of a program's stack -/
def wfR (l : List Int32) (h : Nat) : Option Nat := match l with
  | [] => some h
  | c :: t => if (100000 ≤ c ∧ c < 110000) ∨ (0 ≤ c ∧ c < 6) then wfR t (h + 1) else
    if c = 13 ∨ c = 19 then (if 1 ≤ h then wfR t h else none) else
    if c = 11 ∨ c = 12 ∨ (14 ≤ c ∧ c ≤ 18) then (if 2 ≤ h then wfR t (h - 1) else none) else none
def seg (E : IM) (t a b : Nat) : List Int32 := (List.range (b - a)).map fun i => E 31 (200 * t + (a + i))
def sA (E : IM) (t j : Nat) : Nat := cl (E 30 (4 * t + j))
def PersonOk (E : IM) (p : Nat) : Prop := rng (E 2 p) 6 ∧ rng (E 3 p) 6 ∧ rng (E 4 p) 10 ∧ rng (E 5 p) 10 ∧ rng (E 6 p) 256 ∧ (∃ k, 1 ≤ k ∧ k < 10 ∧ E 7 p = nI k) ∧ rng (E 8 p) 100 ∧ rng1 (E 9 p) 6
def PromiseOk (E : IM) (q : Nat) : Prop := rng (E 10 q) 8 ∧ (∃ k, 1 ≤ k ∧ k < 100 ∧ E 11 q = nI k) ∧ rng (E 12 q) 100 ∧ rng1 (E 13 q) q
def SayOk (Q : Nat) (a b c d : Int32) : Prop := rng a Q ∧ rng b 6 ∧ rng c 6 ∧ (∃ k, 1 ≤ k ∧ k < 10 ∧ d = nI k)
def TextOk (E : IM) (t : Nat) : Prop := (∀ j, j < 4 → E 30 (4 * t + j) = nI (sA E t j)) ∧ sA E t 0 = 0 ∧ sA E t 0 ≤ sA E t 1 ∧ sA E t 1 ≤ sA E t 2 ∧ sA E t 2 ≤ sA E t 3 ∧ sA E t 3 ≤ 160 ∧ ∀ j, j < 3 → wfR (seg E t (sA E t j) (sA E t (j + 1))) 0 = some 1
def Inv (E : IM) : Prop :=
  (E 29 1 = nI (pN E) ∧ pN E ≤ 8 ∧ ∀ p, p < pN E → PersonOk E p) ∧
  (E 29 2 = nI (qN E) ∧ qN E ≤ 8 ∧ ∀ q, q < qN E → PromiseOk E q) ∧
  (E 29 3 = nI (sN E) ∧ sN E ≤ 10 ∧ ∀ s, s < sN E → SayOk (qN E) (E 14 s) (E 15 s) (E 16 s) (E 17 s)) ∧
  (E 29 4 = nI (tN E) ∧ 1 ≤ tN E ∧ tN E ≤ 6 ∧ ∀ t, t < tN E → TextOk E t) ∧
  (E 29 5 = nI (wN E) ∧ wN E < tN E) ∧
  (E 29 6 = nI (zN E) ∧ zN E ≤ 160 ∧ ∀ i, i < zN E → rng (E 18 i) 256) ∧
  ((E 29 7 = 0 ∨ E 29 7 = 1) ∧ (∃ k, k ≤ pN E ∧ E 29 9 = nI k ∧ ∀ p, p < k → rng1 (E 21 p) 6) ∧ (∃ k, k ≤ 10 ∧ E 29 10 = nI k ∧ (∀ s, s < k → SayOk (qN E) (E 22 s) (E 23 s) (E 24 s) (E 25 s))) ∧ (∃ k, k < tN E ∧ E 29 11 = nI k)) ∧
  (∀ s, s < 4 → rng1 (E 26 s) 3 ∧ rng (E 27 s) 41 ∧ (E 26 s = -1 → E 27 s = 0)) ∧
  (∀ j, (36 ≤ j → E 0 j = 0 ∧ E 19 j = 0) ∧ (6 ≤ j → E 1 j = 0 ∧ E 20 j = 0))
/-- only these cells may differ -/
def Fr (ks : List Nat) (I I' : IM) : Prop := ∀ k, k ∉ ks → I' k = I k
theorem Fr.rfl {ks : List Nat} {I : IM} : Fr ks I I := fun _ _ => Eq.refl _
theorem Fr.tr {ks : List Nat} {I I' I'' : IM} (h : Fr ks I I') (h2 : Fr ks I' I'') : Fr ks I I'' := fun k hk => (h2 k hk).trans (h k hk)
theorem Fr.wk {ks ks' : List Nat} {I I' : IM} (h : Fr ks I I') (hs : ∀ k ∈ ks, k ∈ ks') : Fr ks' I I' := fun k hk => h k (fun q => hk (hs k q))
theorem Fr.up {ks : List Nat} {I I' : IM} (h : Fr ks I I') {k : Nat} (hk : k ∈ ks) (j : Nat) (x : Int32) : Fr ks I (up2 I' k j x) := fun i hi => by
  have hne : i ≠ k := fun e => hi (by rw [e]; exact hk)
  rw [up2_n I' j x hne]
  exact h i hi
theorem Fr.upr {ks : List Nat} {I I' : IM} (h : Fr ks I I') {k : Nat} (hk : k ∈ ks) (f : Nat → Int32) : Fr ks I (upr I' k f) := fun i hi => by
  have hne : i ≠ k := fun e => hi (by rw [e]; exact hk)
  rw [upr_n I' f hne]
  exact h i hi
/-- the class's own rows in which it reckons -/
abbrev cScr : List Nat := [25, 26, 27, 28, 29, 33, 34, 35, 36, 37, 38, 39, 40, 41, 42, 43, 44]
theorem cE_fr {I I' : IM} (h : Fr cScr I I') : cE I' = cE I := by
  have e : ∀ k, k ∉ cScr → I' k = I k := h
  funext a
  have e29 : cSc I' = cSc I := by
    funext j
    unfold cSc
    rw [e 1 (by decide), e 4 (by decide), e 13 (by decide), e 18 (by decide), e 30 (by decide), e 23 (by decide), e 45 (by decide), e 46 (by decide), e 49 (by decide)]
  unfold cE
  rw [e29, e 2 (by decide), e 3 (by decide), e 5 (by decide), e 6 (by decide), e 7 (by decide), e 8 (by decide), e 9 (by decide), e 10 (by decide), e 11 (by decide), e 4 (by decide), e 12 (by decide), e 14 (by decide), e 15 (by decide), e 16 (by decide), e 17 (by decide), e 18 (by decide), e 19 (by decide), e 20 (by decide), e 21 (by decide), e 22 (by decide), e 23 (by decide), e 24 (by decide), e 45 (by decide), e 47 (by decide), e 48 (by decide), e 49 (by decide), e 50 (by decide), e 51 (by decide), e 52 (by decide), e 53 (by decide), e 54 (by decide), e 56 (by decide), e 57 (by decide), e 58 (by decide), e 30 (by decide), e 31 (by decide), e 32 (by decide)]
/-- the machine of a text: names, a code, the numbers so far (the last first) -/
def two (c x y : Int32) : Int32 :=
  if c = 11 then b2i (¬ x = 0 ∨ ¬ y = 0) else if c = 12 then b2i (¬ x = 0 ∧ ¬ y = 0) else if c = 14 then b2i (x < y) else if c = 15 then b2i (x = y) else
  if c = 16 then x + y else if c = 17 then x - y else x * y
def stp (nm : Nat → Int32) (c : Int32) (st : List Int32) : List Int32 :=
  if 100000 ≤ c then (c - 100000) :: st else if c < 11 then nm (cl c) :: st else
  match st with
  | [] => []
  | y :: t => if c = 13 then b2i (y = 0) :: t else if c = 19 then (-y) :: t else match t with
    | [] => [y]
    | x :: u => two c x y :: u
def runP (nm : Nat → Int32) (l st : List Int32) : List Int32 := match l with
  | [] => st
  | c :: t => runP nm t (stp nm c st)
def valP (nm : Nat → Int32) (l : List Int32) : Int32 := (runP nm l []).headD 0
end
section
-- 12.folk
/-! small methods: numbers and PEOPLE -/
def bPost (c : Prop) (S : Shp) (I : IM) (L : LM) (Post : PostT) : Prop := (c → Post (some (.int 1)) S I L) ∧ (¬ c → Post (some (.int 0)) S I L)
def sp_W_within : SpT := fun as S I L Post => ∃ v lo hi : Int32, as = [.int v, .int lo, .int hi] ∧ bPost (lo ≤ v ∧ v ≤ hi) S I L Post
set_option maxHeartbeats 4000000 in
set_option maxRecDepth 100000 in
theorem c_W_within : Con mW_within 2 0 0 sp_W_within := by
  refine con_of_X rfl fun G as S I L Post hs => ?_
  obtain ⟨v, lo, hi, rfl, h1, h2⟩ := hs
  refine ⟨0, Nat.le_of_ble_eq_true rfl, ?_⟩
  show X mW_within G _ S I L 0 [.int v, .int lo, .int hi] [] Post
  refine x_iload_n dW_within_0 rfl ?_
  refine x_iload_n dW_within_1 rfl ?_
  -- at 2: .if_icmp .gt 12
  refine x_icmp_gt (tgt := 14) dW_within_2 (by decide) (fun c1 => ?_) (fun c1 => ?_)
  · refine x_iconst (v := 0) dW_within_14 rfl ?_
    -- at 15: .ireturn
    refine x_ireturn dW_within_15 rfl rfl ?_
    exact h2 (fun q => absurd c1 (Int32.not_lt.mpr q.1))
  · refine x_iload_n dW_within_5 rfl ?_
    refine x_iload_n dW_within_6 rfl ?_
    -- at 7: .if_icmp .gt 7
    refine x_icmp_gt (tgt := 14) dW_within_7 (by decide) (fun c2 => ?_) (fun c2 => ?_)
    · refine x_iconst (v := 0) dW_within_14 rfl ?_
      -- at 15: .ireturn
      refine x_ireturn dW_within_15 rfl rfl ?_
      exact h2 (fun q => absurd c2 (Int32.not_lt.mpr q.2))
    · refine x_iconst (v := 1) dW_within_10 rfl ?_
      refine x_goto (tgt := 15) dW_within_11 (by decide) ?_
      -- at 15: .ireturn
      refine x_ireturn dW_within_15 rfl rfl ?_
      exact h1 ⟨Int32.not_lt.mp c1, Int32.not_lt.mp c2⟩
def sp_W_isByte : SpT := fun as S I L Post => ∃ v : Int32, as = [.int v] ∧ bPost (0 ≤ v ∧ v ≤ 255) S I L Post
set_option maxHeartbeats 4000000 in
set_option maxRecDepth 100000 in
theorem c_W_isByte : Con mW_isByte 3 0 0 sp_W_isByte := by
  refine con_of_X rfl fun G as S I L Post hs => ?_
  obtain ⟨v, rfl, h1, h2⟩ := hs
  refine ⟨0, Nat.le_of_ble_eq_true rfl, ?_⟩
  show X mW_isByte G _ S I L 0 [.int v] [] Post
  refine x_iload_n dW_isByte_0 rfl ?_
  refine x_iconst (v := 0) dW_isByte_1 rfl ?_
  refine x_sipush (v := 255) dW_isByte_2 rfl ?_
  -- at 5: .invokestatic 101
  refine x_callS_3 c_W_within ok_W_within ml_W_101 dW_isByte_5 rfl rfl ?_
  refine ⟨v, 0, 255, rfl, fun q => ?_, fun q => ?_⟩
  · refine x_ireturn dW_isByte_8 rfl rfl ?_
    exact h1 q
  · refine x_ireturn dW_isByte_8 rfl rfl ?_
    exact h2 q
def rem (x y : Int32) : Int32 := x - x / y * y
abbrev isHowP (h : Int32) : Prop := (0 ≤ h ∧ h ≤ 599) ∧ rem (h / 10) 10 < 6 ∧ 0 < rem h 10
def sp_W_isHow : SpT := fun as S I L Post => ∃ v : Int32, as = [.int v] ∧ bPost (isHowP v) S I L Post
set_option maxHeartbeats 4000000 in
set_option maxRecDepth 100000 in
theorem c_W_isHow : Con mW_isHow 3 0 0 sp_W_isHow := by
  refine con_of_X rfl fun G as S I L Post hs => ?_
  obtain ⟨v, rfl, h1, h2⟩ := hs
  refine ⟨0, Nat.le_of_ble_eq_true rfl, ?_⟩
  show X mW_isHow G _ S I L 0 [.int v] [] Post
  refine x_iload_n dW_isHow_0 rfl ?_
  refine x_iconst (v := 0) dW_isHow_1 rfl ?_
  refine x_sipush (v := 599) dW_isHow_2 rfl ?_
  -- at 5: .invokestatic 101
  refine x_callS_3 c_W_within ok_W_within ml_W_101 dW_isHow_5 rfl rfl ?_
  refine ⟨v, 0, 599, rfl, fun q => ?_, fun q => ?_⟩
  · refine x_if_eq (tgt := 34) dW_isHow_8 (by decide) (fun h => absurd h (by decide)) (fun _ => ?_)
    refine x_iload_n dW_isHow_11 rfl ?_
    refine x_bipush (v := 10) dW_isHow_12 rfl ?_
    refine x_idiv dW_isHow_14 (by decide) ?_
    refine x_bipush (v := 10) dW_isHow_15 rfl ?_
    refine x_irem dW_isHow_17 (by decide) ?_
    refine x_bipush (v := 6) dW_isHow_18 rfl ?_
    -- at 20: .if_icmp .ge 14
    refine x_icmp_ge (tgt := 34) dW_isHow_20 (by decide) (fun c1 => ?_) (fun c1 => ?_)
    · refine x_iconst (v := 0) dW_isHow_34 rfl ?_
      -- at 35: .ireturn
      refine x_ireturn dW_isHow_35 rfl rfl ?_
      exact h2 (fun z => absurd z.2.1 (Int32.not_lt.mpr c1))
    · refine x_iload_n dW_isHow_23 rfl ?_
      refine x_bipush (v := 10) dW_isHow_24 rfl ?_
      refine x_irem dW_isHow_26 (by decide) ?_
      -- at 27: .ifCond .le 7
      refine x_if_le (tgt := 34) dW_isHow_27 (by decide) (fun c2 => ?_) (fun c2 => ?_)
      · refine x_iconst (v := 0) dW_isHow_34 rfl ?_
        -- at 35: .ireturn
        refine x_ireturn dW_isHow_35 rfl rfl ?_
        exact h2 (fun z => absurd z.2.2 (Int32.not_lt.mpr c2))
      · refine x_iconst (v := 1) dW_isHow_30 rfl ?_
        refine x_goto (tgt := 35) dW_isHow_31 (by decide) ?_
        -- at 35: .ireturn
        refine x_ireturn dW_isHow_35 rfl rfl ?_
        exact h1 ⟨q, Int32.not_le.mp c1, Int32.not_le.mp c2⟩
  · refine x_if_eq (tgt := 34) dW_isHow_8 (by decide) (fun _ => ?_) (fun h => absurd (by decide) h)
    refine x_iconst (v := 0) dW_isHow_34 rfl ?_
    -- at 35: .ireturn
    refine x_ireturn dW_isHow_35 rfl rfl ?_
    exact h2 (fun z => q z.1)
def imin (x y : Int32) : Int32 := if y < x then y else x
def imax (x y : Int32) : Int32 := if x < y then y else x
def sp_W_bounded : SpT := fun as S I L Post => ∃ v m : Int32, as = [.int v, .int m] ∧ Post (some (.int (imax 0 (imin v m)))) S I L
set_option maxHeartbeats 4000000 in
set_option maxRecDepth 100000 in
theorem c_W_bounded : Con mW_bounded 3 0 0 sp_W_bounded := by
  refine con_of_X rfl fun G as S I L Post hs => ?_
  obtain ⟨v, m, rfl, h1⟩ := hs
  refine ⟨0, Nat.le_of_ble_eq_true rfl, ?_⟩
  show X mW_bounded G _ S I L 0 [.int v, .int m] [] Post
  refine x_iconst (v := 0) dW_bounded_0 rfl ?_
  refine x_iload_n dW_bounded_1 rfl ?_
  refine x_iload_n dW_bounded_2 rfl ?_
  -- at 3: .invokestatic 315
  refine x_mmin dW_bounded_3 ml_W_315 st_min it_Math co_min rfl rfl ?_
  refine x_mmax dW_bounded_6 ml_W_266 st_max it_Math co_max rfl rfl ?_
  refine x_ireturn dW_bounded_9 rfl rfl ?_
  exact h1
def sp_Folk_has : SpT := fun as S I L Post => ∃ p : Int32, as = [.ref 4, .int p] ∧ S = S1 ∧ bPost (0 ≤ p ∧ p ≤ I 4 8 - 1) S I L Post
set_option maxHeartbeats 4000000 in
set_option maxRecDepth 100000 in
theorem c_Folk_has : Con mFolk_has 3 0 0 sp_Folk_has := by
  refine con_of_X rfl fun G as S I L Post hs => ?_
  obtain ⟨p, rfl, rfl, h1, h2⟩ := hs
  refine ⟨0, Nat.le_of_ble_eq_true rfl, ?_⟩
  show X mFolk_has G _ S1 I L 0 [.ref 4, .int p] [] Post
  refine x_iload_n dFolk_has_0 rfl ?_
  refine x_iconst (v := 0) dFolk_has_1 rfl ?_
  refine x_aload_n dFolk_has_2 rfl ?_
  refine x_getI fl_Folk_36 rfl dFolk_has_3 rfl rfl ?_
  refine x_iconst (v := 1) dFolk_has_6 rfl ?_
  refine x_isub dFolk_has_7 ?_
  -- at 8: .invokestatic 40
  refine x_callSN_3 c_W_within ok_W_within nw_Folk_40 dFolk_has_8 rfl rfl ?_
  refine ⟨p, 0, _, rfl, fun q => ?_, fun q => ?_⟩
  · refine x_ireturn dFolk_has_11 rfl rfl ?_
    exact h1 q
  · refine x_ireturn dFolk_has_11 rfl rfl ?_
    exact h2 q
def sp_Folk_canDo : SpT := fun as S I L Post => ∃ (p : Nat) (w : Int32), as = [.ref 4, .int (nI p), .int w] ∧ S = S1 ∧ p < 8 ∧ bPost ((I 9 p >>> (w &&& 31)) &&& 1 = 1) S I L Post
set_option maxHeartbeats 4000000 in
set_option maxRecDepth 100000 in
theorem c_Folk_canDo : Con mFolk_canDo 2 0 0 sp_Folk_canDo := by
  refine con_of_X rfl fun G as S I L Post hs => ?_
  obtain ⟨p, w, rfl, rfl, hp, h1, h2⟩ := hs
  refine ⟨0, Nat.le_of_ble_eq_true rfl, ?_⟩
  show X mFolk_canDo G _ S1 I L 0 [.ref 4, .int (nI p), .int w] [] Post
  refine x_aload_n dFolk_canDo_0 rfl ?_
  refine x_getR fl_Folk_24 rfl dFolk_canDo_1 rfl rfl rfl ?_
  refine x_iload_n dFolk_canDo_4 rfl ?_
  refine x_ialdJ dFolk_canDo_5 rfl rfl rfl (by omega) ?_
  refine x_iload_n dFolk_canDo_6 rfl ?_
  refine x_ishr dFolk_canDo_7 ?_
  refine x_iconst (v := 1) dFolk_canDo_8 rfl ?_
  refine x_iand dFolk_canDo_9 ?_
  refine x_iconst (v := 1) dFolk_canDo_10 rfl ?_
  -- at 11: .if_icmp .ne 7
  refine x_icmp_ne (tgt := 18) dFolk_canDo_11 (by decide) (fun c1 => ?_) (fun c1 => ?_)
  · refine x_iconst (v := 0) dFolk_canDo_18 rfl ?_
    -- at 19: .ireturn
    refine x_ireturn dFolk_canDo_19 rfl rfl ?_
    exact h2 c1
  · refine x_iconst (v := 1) dFolk_canDo_14 rfl ?_
    refine x_goto (tgt := 19) dFolk_canDo_15 (by decide) ?_
    -- at 19: .ireturn
    refine x_ireturn dFolk_canDo_19 rfl rfl ?_
    exact h1 c1
/-- where one starts -/
def startS (E : IM) (p : Nat) : Int32 := if E 9 p = -1 then E 3 p else E 9 p
def cStart (I : IM) (p : Nat) : Int32 := if I 12 p = -1 then I 6 p else I 12 p
def sp_Folk_startOf : SpT := fun as S I L Post => ∃ p : Nat, as = [.ref 4, .int (nI p)] ∧ S = S1 ∧ p < 8 ∧ Post (some (.int (cStart I p))) S I L
set_option maxHeartbeats 4000000 in
set_option maxRecDepth 100000 in
theorem c_Folk_startOf : Con mFolk_startOf 2 0 0 sp_Folk_startOf := by
  refine con_of_X rfl fun G as S I L Post hs => ?_
  obtain ⟨p, rfl, rfl, hp, h1⟩ := hs
  refine ⟨0, Nat.le_of_ble_eq_true rfl, ?_⟩
  show X mFolk_startOf G _ S1 I L 0 [.ref 4, .int (nI p)] [] Post
  refine x_aload_n dFolk_startOf_0 rfl ?_
  refine x_getR fl_Folk_33 rfl dFolk_startOf_1 rfl rfl rfl ?_
  refine x_iload_n dFolk_startOf_4 rfl ?_
  refine x_ialdJ dFolk_startOf_5 rfl rfl rfl (by omega) ?_
  refine x_iconst (v := -1) dFolk_startOf_6 rfl ?_
  -- at 7: .if_icmp .ne 12
  refine x_icmp_ne (tgt := 19) dFolk_startOf_7 (by decide) (fun c1 => ?_) (fun c1 => ?_)
  · refine x_aload_n dFolk_startOf_19 rfl ?_
    refine x_getR fl_Folk_33 rfl dFolk_startOf_20 rfl rfl rfl ?_
    refine x_iload_n dFolk_startOf_23 rfl ?_
    refine x_ialdJ dFolk_startOf_24 rfl rfl rfl (by omega) ?_
    -- at 25: .ireturn
    refine x_ireturn dFolk_startOf_25 rfl rfl ?_
    rw [cStart, if_neg c1] at h1
    exact h1
  · refine x_aload_n dFolk_startOf_10 rfl ?_
    refine x_getR fl_Folk_15 rfl dFolk_startOf_11 rfl rfl rfl ?_
    refine x_iload_n dFolk_startOf_14 rfl ?_
    refine x_ialdJ dFolk_startOf_15 rfl rfl rfl (by omega) ?_
    refine x_goto (tgt := 25) dFolk_startOf_16 (by decide) ?_
    -- at 25: .ireturn
    refine x_ireturn dFolk_startOf_25 rfl rfl ?_
    rw [cStart, if_pos c1] at h1
    exact h1
/-- a kind taken for another -/
abbrev isU (k w : Int32) : Prop := w = 0 ∨ k = w ∨ (w = 1 ∧ (k = 3 ∨ k = 5))
set_option maxHeartbeats 4000000 in
theorem isA_m1 {G : WG} {I : IM} {L : LM} {Post : PostT} {d : Nat} {w i : Int32} {a0 a1 : Value} (h2 : Post (some (.int 0)) S1 I L) : X mFolk_isA G (d, 0, 0) S1 I L 10 [a0, a1, .int w, .int (-1), .int i] [] Post := by
  refine x_iload dFolk_isA_10 rfl ?_
  refine x_bipush (v := 6) dFolk_isA_12 rfl ?_
  -- at 14: .if_icmp .ge 26
  refine x_icmp_ge (tgt := 40) dFolk_isA_14 (by decide) (fun c1 => ?_) (fun c1 => ?_)
  · refine x_iconst (v := 0) dFolk_isA_40 rfl ?_
    -- at 41: .ireturn
    refine x_ireturn dFolk_isA_41 rfl rfl ?_
    exact h2
  · refine x_iload_n dFolk_isA_17 rfl ?_
    -- at 18: .ifCond .lt 22
    refine x_if_lt (tgt := 40) dFolk_isA_18 (by decide) (fun _ => ?_) (fun h => absurd (by decide) h)
    refine x_iconst (v := 0) dFolk_isA_40 rfl ?_
    -- at 41: .ireturn
    refine x_ireturn dFolk_isA_41 rfl rfl ?_
    exact h2
set_option maxHeartbeats 4000000 in
theorem isA_st {G : WG} {I : IM} {L : LM} {Post : PostT} {d : Nat} {w k k2 i : Int32} {a0 a1 : Value} (hk : ¬ k < 0) (hi : ¬ 6 ≤ i) (hv : vp_in k 6) (hk2 : kaL.getD k.toNatClampNeg 0 = k2) (h1 : k = w → Post (some (.int 1)) S1 I L) (h2 : ¬ k = w → X mFolk_isA G (d, 0, 0) S1 I L 10 [a0, a1, .int w, .int k2, .int (i + 1)] [] Post) : X mFolk_isA G (d, 0, 0) S1 I L 10 [a0, a1, .int w, .int k, .int i] [] Post := by
  refine x_iload dFolk_isA_10 rfl ?_
  refine x_bipush (v := 6) dFolk_isA_12 rfl ?_
  -- at 14: .if_icmp .ge 26
  refine x_icmp_ge (tgt := 40) dFolk_isA_14 (by decide) (fun h => absurd h hi) (fun _ => ?_)
  refine x_iload_n dFolk_isA_17 rfl ?_
  -- at 18: .ifCond .lt 22
  refine x_if_lt (tgt := 40) dFolk_isA_18 (by decide) (fun h => absurd h hk) (fun _ => ?_)
  refine x_iload_n dFolk_isA_21 rfl ?_
  refine x_iload_n dFolk_isA_22 rfl ?_
  -- at 23: .if_icmp .ne 5
  refine x_icmp_ne (tgt := 28) dFolk_isA_23 (by decide) (fun c1 => ?_) (fun c1 => ?_)
  · refine x_getsKA dFolk_isA_28 (by decide) ?_
    refine x_iload_n dFolk_isA_31 rfl ?_
    -- at 32: .iaload
    refine x_ialdKA dFolk_isA_32 hv hk2 ?_
    refine x_istoren_3 dFolk_isA_33 rfl rfl ?_
    refine x_iincp_4 dFolk_isA_34 rfl rfl ?_
    refine x_goto (tgt := 10) dFolk_isA_37 (by decide) ?_
    -- at 10: .iload 4
    exact h2 c1
  · refine x_iconst (v := 1) dFolk_isA_26 rfl ?_
    -- at 27: .ireturn
    refine x_ireturn dFolk_isA_27 rfl rfl ?_
    exact h1 c1
def sp_Folk_isA : SpT := fun as S I L Post => ∃ (p k : Nat) (w : Int32), as = [.ref 4, .int (nI p), .int w] ∧ S = S1 ∧ p < 8 ∧ I 5 p = nI k ∧ k < 6 ∧ ¬ w = -1 ∧ bPost (isU (nI k) w) S I L Post
set_option maxHeartbeats 4000000 in
set_option maxRecDepth 100000 in
theorem c_Folk_isA : Con mFolk_isA 2 0 0 sp_Folk_isA := by
  refine con_of_X rfl fun G as S I L Post hs => ?_
  obtain ⟨p, k, w, rfl, rfl, hp, hk, hk6, hw, h1, h2⟩ := hs
  refine ⟨2, Nat.le_of_ble_eq_true rfl, ?_⟩
  show X mFolk_isA G _ S1 I L 0 [.ref 4, .int (nI p), .int w, .null, .null] [] Post
  refine x_aload_n dFolk_isA_0 rfl ?_
  refine x_getR fl_Folk_9 rfl dFolk_isA_1 rfl rfl rfl ?_
  refine x_iload_n dFolk_isA_4 rfl ?_
  -- at 5: .iaload
  refine x_ialdJ dFolk_isA_5 rfl rfl rfl (by omega) ?_
  -- at 6: .istore_n 3
  rw [hk]
  refine x_istoren_3 dFolk_isA_6 rfl rfl ?_
  refine x_iconst (v := 0) dFolk_isA_7 rfl ?_
  refine x_istore_4 dFolk_isA_8 rfl rfl ?_
  -- at 10: .iload 4
  have e0 : ∀ i : Int32, ¬ 6 ≤ i → (0 = w → Post (some (.int 1)) S1 I L) → (¬ 0 = w → Post (some (.int 0)) S1 I L) → X mFolk_isA G (2, 0, 0) S1 I L 10 [.ref 4, .int (nI p), .int w, .int 0, .int i] [] Post := fun i hi a b =>
    isA_st (k2 := -1) (by decide) hi (by unfold vp_in; decide) (by decide) a (fun q => isA_m1 (b q))
  have e1 : ∀ i : Int32, ¬ 6 ≤ i → ¬ 6 ≤ i + 1 → (1 = w ∨ 0 = w → Post (some (.int 1)) S1 I L) → (¬ (1 = w ∨ 0 = w) → Post (some (.int 0)) S1 I L) → X mFolk_isA G (2, 0, 0) S1 I L 10 [.ref 4, .int (nI p), .int w, .int 1, .int i] [] Post := fun i hi hi2 a b =>
    isA_st (k2 := 0) (by decide) hi (by unfold vp_in; decide) (by decide) (fun q => a (Or.inl q)) (fun q => e0 _ hi2 (fun z => a (Or.inr z)) (fun z => b (fun y => y.elim q z)))
  rcases (show k = 0 ∨ k = 1 ∨ k = 2 ∨ k = 3 ∨ k = 4 ∨ k = 5 by omega) with rfl | rfl | rfl | rfl | rfl | rfl
  · exact e0 0 (by decide) (fun q => h1 (Or.inl q.symm)) (fun q => h2 (fun z => by rcases z with z | z | ⟨z, z2⟩ <;> first | exact q z.symm | exact q z | (rcases z2 with z2 | z2 <;> exact absurd z2 (by decide))))
  · exact e1 0 (by decide) (by decide) (fun q => h1 (q.elim (fun z => Or.inr (Or.inl z)) (fun z => Or.inl z.symm))) (fun q => h2 (fun z => by rcases z with z | z | ⟨z, z2⟩ <;> first | exact q (Or.inr z.symm) | exact q (Or.inl z) | (rcases z2 with z2 | z2 <;> exact absurd z2 (by decide))))
  · exact isA_st (k := 2) (k2 := 0) (by decide) (by decide) (by unfold vp_in; decide) (by decide) (fun q => h1 (Or.inr (Or.inl q))) (fun q => e0 _ (by decide) (fun z => h1 (Or.inl z.symm)) (fun z => h2 (fun y => by rcases y with y | y | ⟨y, y2⟩ <;> first | exact z y.symm | exact q y | (rcases y2 with y2 | y2 <;> exact absurd y2 (by decide)))))
  · exact isA_st (k := 3) (k2 := 1) (by decide) (by decide) (by unfold vp_in; decide) (by decide) (fun q => h1 (Or.inr (Or.inl q))) (fun q => e1 _ (by decide) (by decide) (fun z => h1 (z.elim (fun y => Or.inr (Or.inr ⟨y.symm, Or.inl rfl⟩)) (fun y => Or.inl y.symm))) (fun z => h2 (fun y => by rcases y with y | y | ⟨y, y2⟩ <;> first | exact z (Or.inr y.symm) | exact q y | exact z (Or.inl y.symm))))
  · exact isA_st (k := 4) (k2 := 0) (by decide) (by decide) (by unfold vp_in; decide) (by decide) (fun q => h1 (Or.inr (Or.inl q))) (fun q => e0 _ (by decide) (fun z => h1 (Or.inl z.symm)) (fun z => h2 (fun y => by rcases y with y | y | ⟨y, y2⟩ <;> first | exact z y.symm | exact q y | (rcases y2 with y2 | y2 <;> exact absurd y2 (by decide)))))
  · exact isA_st (k := 5) (k2 := 1) (by decide) (by decide) (by unfold vp_in; decide) (by decide) (fun q => h1 (Or.inr (Or.inl q))) (fun q => e1 _ (by decide) (by decide) (fun z => h1 (z.elim (fun y => Or.inr (Or.inr ⟨y.symm, Or.inr rfl⟩)) (fun y => Or.inl y.symm))) (fun z => h2 (fun y => by rcases y with y | y | ⟨y, y2⟩ <;> first | exact z (Or.inr y.symm) | exact q y | exact z (Or.inl y.symm))))
def sp_Folk_isBound : SpT := fun as S I L Post => ∃ p : Nat, as = [.ref 4, .int (nI p)] ∧ S = S1 ∧ p < 8 ∧ bPost (¬ I 5 p = 4) S I L Post
set_option maxHeartbeats 4000000 in
set_option maxRecDepth 100000 in
theorem c_Folk_isBound : Con mFolk_isBound 2 0 0 sp_Folk_isBound := by
  refine con_of_X rfl fun G as S I L Post hs => ?_
  obtain ⟨p, rfl, rfl, hp, h1, h2⟩ := hs
  refine ⟨0, Nat.le_of_ble_eq_true rfl, ?_⟩
  show X mFolk_isBound G _ S1 I L 0 [.ref 4, .int (nI p)] [] Post
  refine x_aload_n dFolk_isBound_0 rfl ?_
  refine x_getR fl_Folk_9 rfl dFolk_isBound_1 rfl rfl rfl ?_
  refine x_iload_n dFolk_isBound_4 rfl ?_
  refine x_ialdJ dFolk_isBound_5 rfl rfl rfl (by omega) ?_
  refine x_iconst (v := 4) dFolk_isBound_6 rfl ?_
  -- at 7: .if_icmp .eq 7
  refine x_icmp_eq (tgt := 14) dFolk_isBound_7 (by decide) (fun c1 => ?_) (fun c1 => ?_)
  · refine x_iconst (v := 0) dFolk_isBound_14 rfl ?_
    -- at 15: .ireturn
    refine x_ireturn dFolk_isBound_15 rfl rfl ?_
    exact h2 (fun q => q c1)
  · refine x_iconst (v := 1) dFolk_isBound_10 rfl ?_
    refine x_goto (tgt := 15) dFolk_isBound_11 (by decide) ?_
    -- at 15: .ireturn
    refine x_ireturn dFolk_isBound_15 rfl rfl ?_
    exact h1 c1
/-- how well one of a kind hears -/
def hrK (k mo lawful vol : Int32) : Int32 := if k = 5 ∧ mo < vol then 0 else if k = 2 then lawful / 2 else lawful
def sp_Folk_hearingOf : SpT := fun as S I L Post => ∃ (p : Nat) (lawful vol : Int32), as = [.ref 4, .int (nI p), .int lawful, .int vol] ∧ S = S1 ∧ p < 8 ∧ Post (some (.int (hrK (I 5 p) (I 8 p) lawful vol))) S I L
set_option maxHeartbeats 4000000 in
set_option maxRecDepth 100000 in
theorem c_Folk_hearingOf : Con mFolk_hearingOf 2 0 0 sp_Folk_hearingOf := by
  refine con_of_X rfl fun G as S I L Post hs => ?_
  obtain ⟨p, lawful, vol, rfl, rfl, hp, h1⟩ := hs
  refine ⟨0, Nat.le_of_ble_eq_true rfl, ?_⟩
  show X mFolk_hearingOf G _ S1 I L 0 [.ref 4, .int (nI p), .int lawful, .int vol] [] Post
  have tail : ¬ (I 5 p = 5 ∧ I 8 p < vol) → X mFolk_hearingOf G (2, 0, 0) S1 I L 22 [.ref 4, .int (nI p), .int lawful, .int vol] [] Post := by
    intro hn
    rw [hrK, if_neg hn] at h1
    refine x_aload_n dFolk_hearingOf_22 rfl ?_
    refine x_getR fl_Folk_9 rfl dFolk_hearingOf_23 rfl rfl rfl ?_
    refine x_iload_n dFolk_hearingOf_26 rfl ?_
    refine x_ialdJ dFolk_hearingOf_27 rfl rfl rfl (by omega) ?_
    refine x_iconst (v := 2) dFolk_hearingOf_28 rfl ?_
    -- at 29: .if_icmp .ne 9
    refine x_icmp_ne (tgt := 38) dFolk_hearingOf_29 (by decide) (fun c2 => ?_) (fun c2 => ?_)
    · refine x_iload_n dFolk_hearingOf_38 rfl ?_
      -- at 39: .ireturn
      refine x_ireturn dFolk_hearingOf_39 rfl rfl ?_
      rw [if_neg c2] at h1
      exact h1
    · refine x_iload_n dFolk_hearingOf_32 rfl ?_
      refine x_iconst (v := 2) dFolk_hearingOf_33 rfl ?_
      refine x_idiv dFolk_hearingOf_34 (by decide) ?_
      refine x_goto (tgt := 39) dFolk_hearingOf_35 (by decide) ?_
      -- at 39: .ireturn
      refine x_ireturn dFolk_hearingOf_39 rfl rfl ?_
      rw [if_pos c2] at h1
      exact h1
  refine x_aload_n dFolk_hearingOf_0 rfl ?_
  refine x_getR fl_Folk_9 rfl dFolk_hearingOf_1 rfl rfl rfl ?_
  refine x_iload_n dFolk_hearingOf_4 rfl ?_
  refine x_ialdJ dFolk_hearingOf_5 rfl rfl rfl (by omega) ?_
  refine x_iconst (v := 5) dFolk_hearingOf_6 rfl ?_
  -- at 7: .if_icmp .ne 15
  refine x_icmp_ne (tgt := 22) dFolk_hearingOf_7 (by decide) (fun c1 => ?_) (fun c1 => ?_)
  · exact tail (fun q => c1 q.1)
  · refine x_iload_n dFolk_hearingOf_10 rfl ?_
    refine x_aload_n dFolk_hearingOf_11 rfl ?_
    refine x_getR fl_Folk_21 rfl dFolk_hearingOf_12 rfl rfl rfl ?_
    refine x_iload_n dFolk_hearingOf_15 rfl ?_
    refine x_ialdJ dFolk_hearingOf_16 rfl rfl rfl (by omega) ?_
    -- at 17: .if_icmp .le 5
    refine x_icmp_le (tgt := 22) dFolk_hearingOf_17 (by decide) (fun c2 => ?_) (fun c2 => ?_)
    · exact tail (fun q => absurd q.2 (Int32.not_lt.mpr c2))
    · refine x_iconst (v := 0) dFolk_hearingOf_20 rfl ?_
      -- at 21: .ireturn
      refine x_ireturn dFolk_hearingOf_21 rfl rfl ?_
      rw [hrK, if_pos ⟨c1, Int32.not_le.mp c2⟩] at h1
      exact h1
end
section
-- 13.town
/-! places, promises, sayings -/
def sp_Town_between : SpT := fun as S I L Post => ∃ u v : Nat, as = [.ref 1, .int (nI u), .int (nI v)] ∧ S = S1 ∧ u < 6 ∧ v < 6 ∧ Post (some (.int (I 2 (u * 6 + v)))) S I L
set_option maxHeartbeats 4000000 in
set_option maxRecDepth 100000 in
theorem c_Town_between : Con mTown_between 2 0 0 sp_Town_between := by
  refine con_of_X rfl fun G as S I L Post hs => ?_
  obtain ⟨u, v, rfl, rfl, hu, hv, h1⟩ := hs
  refine ⟨0, Nat.le_of_ble_eq_true rfl, ?_⟩
  show X mTown_between G _ S1 I L 0 [.ref 1, .int (nI u), .int (nI v)] [] Post
  refine x_aload_n dTown_between_0 rfl ?_
  refine x_getR fl_Town_9 rfl dTown_between_1 rfl rfl rfl ?_
  refine x_iload_n dTown_between_4 rfl ?_
  refine x_bipush (v := 6) dTown_between_5 rfl ?_
  refine x_imul dTown_between_7 ?_
  refine x_iload_n dTown_between_8 rfl ?_
  refine x_iadd dTown_between_9 ?_
  refine x_ialdJ (j := u * 6 + v) dTown_between_10 rfl rfl (by first | rfl | (simp only [← nI_add, ← pk_mul]; rfl)) (by omega) ?_
  -- at 11: .ireturn
  refine x_ireturn dTown_between_11 rfl rfl ?_
  exact h1
def sp_Town_setBetween : SpT := fun as S I L Post => ∃ (u v : Nat) (d : Int32), as = [.ref 1, .int (nI u), .int (nI v), .int d] ∧ S = S1 ∧ u < 6 ∧ v < 6 ∧ Post none S (up2 (up2 I 2 (u * 6 + v) d) 2 (v * 6 + u) d) L
set_option maxHeartbeats 4000000 in
set_option maxRecDepth 100000 in
theorem c_Town_setBetween : Con mTown_setBetween 2 0 0 sp_Town_setBetween := by
  refine con_of_X rfl fun G as S I L Post hs => ?_
  obtain ⟨u, v, d, rfl, rfl, hu, hv, h1⟩ := hs
  refine ⟨0, Nat.le_of_ble_eq_true rfl, ?_⟩
  show X mTown_setBetween G _ S1 I L 0 [.ref 1, .int (nI u), .int (nI v), .int d] [] Post
  refine x_aload_n dTown_setBetween_0 rfl ?_
  refine x_getR fl_Town_9 rfl dTown_setBetween_1 rfl rfl rfl ?_
  refine x_iload_n dTown_setBetween_4 rfl ?_
  refine x_bipush (v := 6) dTown_setBetween_5 rfl ?_
  refine x_imul dTown_setBetween_7 ?_
  refine x_iload_n dTown_setBetween_8 rfl ?_
  refine x_iadd dTown_setBetween_9 ?_
  refine x_iload_n dTown_setBetween_10 rfl ?_
  refine x_iastJ (j := u * 6 + v) dTown_setBetween_11 rfl rfl (by first | rfl | (simp only [← nI_add, ← pk_mul]; rfl)) (by omega) ?_
  refine x_aload_n dTown_setBetween_12 rfl ?_
  refine x_getR fl_Town_9 rfl dTown_setBetween_13 rfl rfl rfl ?_
  refine x_iload_n dTown_setBetween_16 rfl ?_
  refine x_bipush (v := 6) dTown_setBetween_17 rfl ?_
  refine x_imul dTown_setBetween_19 ?_
  refine x_iload_n dTown_setBetween_20 rfl ?_
  refine x_iadd dTown_setBetween_21 ?_
  refine x_iload_n dTown_setBetween_22 rfl ?_
  refine x_iastJ (j := v * 6 + u) dTown_setBetween_23 rfl rfl (by first | rfl | (simp only [← nI_add, ← pk_mul]; rfl)) (by omega) ?_
  -- at 24: .return_
  refine x_return dTown_setBetween_24 rfl ?_
  exact h1
def sp_Vows_has : SpT := fun as S I L Post => ∃ p : Int32, as = [.ref 13, .int p] ∧ S = S1 ∧ bPost (0 ≤ p ∧ p ≤ I 13 4 - 1) S I L Post
set_option maxHeartbeats 4000000 in
set_option maxRecDepth 100000 in
theorem c_Vows_has : Con mVows_has 3 0 0 sp_Vows_has := by
  refine con_of_X rfl fun G as S I L Post hs => ?_
  obtain ⟨p, rfl, rfl, h1, h2⟩ := hs
  refine ⟨0, Nat.le_of_ble_eq_true rfl, ?_⟩
  show X mVows_has G _ S1 I L 0 [.ref 13, .int p] [] Post
  refine x_iload_n dVows_has_0 rfl ?_
  refine x_iconst (v := 0) dVows_has_1 rfl ?_
  refine x_aload_n dVows_has_2 rfl ?_
  refine x_getI fl_Vows_24 rfl dVows_has_3 rfl rfl ?_
  refine x_iconst (v := 1) dVows_has_6 rfl ?_
  refine x_isub dVows_has_7 ?_
  -- at 8: .invokestatic 28
  refine x_callSN_3 c_W_within ok_W_within nw_Vows_28 dVows_has_8 rfl rfl ?_
  refine ⟨p, 0, _, rfl, fun q => ?_, fun q => ?_⟩
  · refine x_ireturn dVows_has_11 rfl rfl ?_
    exact h1 q
  · refine x_ireturn dVows_has_11 rfl rfl ?_
    exact h2 q
def sp_Sayings_has : SpT := fun as S I L Post => ∃ p : Int32, as = [.ref 18, .int p] ∧ S = S1 ∧ bPost (0 ≤ p ∧ p ≤ I 18 4 - 1) S I L Post
set_option maxHeartbeats 4000000 in
set_option maxRecDepth 100000 in
theorem c_Sayings_has : Con mSayings_has 3 0 0 sp_Sayings_has := by
  refine con_of_X rfl fun G as S I L Post hs => ?_
  obtain ⟨p, rfl, rfl, h1, h2⟩ := hs
  refine ⟨0, Nat.le_of_ble_eq_true rfl, ?_⟩
  show X mSayings_has G _ S1 I L 0 [.ref 18, .int p] [] Post
  refine x_iload_n dSayings_has_0 rfl ?_
  refine x_iconst (v := 0) dSayings_has_1 rfl ?_
  refine x_aload_n dSayings_has_2 rfl ?_
  refine x_getI fl_Sayings_24 rfl dSayings_has_3 rfl rfl ?_
  refine x_iconst (v := 1) dSayings_has_6 rfl ?_
  refine x_isub dSayings_has_7 ?_
  -- at 8: .invokestatic 28
  refine x_callSN_3 c_W_within ok_W_within nw_Sayings_28 dSayings_has_8 rfl rfl ?_
  refine ⟨p, 0, _, rfl, fun q => ?_, fun q => ?_⟩
  · refine x_ireturn dSayings_has_11 rfl rfl ?_
    exact h1 q
  · refine x_ireturn dSayings_has_11 rfl rfl ?_
    exact h2 q
def cVadd (I : IM) (n : Nat) (a b c d : Int32) : IM := up2 (up2 (up2 (up2 (up2 I 14 n a) 15 n b) 16 n c) 17 n d) 13 4 (nI n + 1)
def sp_Vows_add : SpT := fun as S I L Post => ∃ (n : Nat) (a b c d : Int32), as = [.ref 13, .int a, .int b, .int c, .int d] ∧ S = S1 ∧ n < 8 ∧ I 13 4 = nI n ∧ Post (some (.int (nI n))) S (cVadd I n a b c d) L
set_option maxHeartbeats 4000000 in
set_option maxRecDepth 100000 in
theorem c_Vows_add : Con mVows_add 2 0 0 sp_Vows_add := by
  refine con_of_X rfl fun G as S I L Post hs => ?_
  obtain ⟨n, a, b, c, d, rfl, rfl, hn, hm, h1⟩ := hs
  refine ⟨1, Nat.le_of_ble_eq_true rfl, ?_⟩
  show X mVows_add G _ S1 I L 0 [.ref 13, .int a, .int b, .int c, .int d, .null] [] Post
  refine x_aload_n dVows_add_0 rfl ?_
  refine x_getI fl_Vows_24 rfl dVows_add_1 rfl rfl ?_
  -- at 4: .istore 5
  rw [hm]
  refine x_istore_5 dVows_add_4 rfl rfl ?_
  refine x_aload_n dVows_add_6 rfl ?_
  refine x_getR fl_Vows_9 rfl dVows_add_7 rfl rfl rfl ?_
  refine x_iload dVows_add_10 rfl ?_
  refine x_iload_n dVows_add_12 rfl ?_
  refine x_iastJ dVows_add_13 rfl rfl rfl (by omega) ?_
  refine x_aload_n dVows_add_14 rfl ?_
  refine x_getR fl_Vows_15 rfl dVows_add_15 rfl rfl rfl ?_
  refine x_iload dVows_add_18 rfl ?_
  refine x_iload_n dVows_add_20 rfl ?_
  refine x_iastJ dVows_add_21 rfl rfl rfl (by omega) ?_
  refine x_aload_n dVows_add_22 rfl ?_
  refine x_getR fl_Vows_18 rfl dVows_add_23 rfl rfl rfl ?_
  refine x_iload dVows_add_26 rfl ?_
  refine x_iload_n dVows_add_28 rfl ?_
  refine x_iastJ dVows_add_29 rfl rfl rfl (by omega) ?_
  refine x_aload_n dVows_add_30 rfl ?_
  refine x_getR fl_Vows_21 rfl dVows_add_31 rfl rfl rfl ?_
  refine x_iload dVows_add_34 rfl ?_
  refine x_iload dVows_add_36 rfl ?_
  refine x_iastJ dVows_add_38 rfl rfl rfl (by omega) ?_
  refine x_aload_n dVows_add_39 rfl ?_
  refine x_iload dVows_add_40 rfl ?_
  refine x_iconst (v := 1) dVows_add_42 rfl ?_
  refine x_iadd dVows_add_43 ?_
  refine x_putI fl_Vows_24 rfl dVows_add_44 (by decide) rfl rfl rfl rfl ?_
  refine x_iload dVows_add_47 rfl ?_
  -- at 49: .ireturn
  refine x_ireturn dVows_add_49 rfl rfl ?_
  exact h1
def cSput (I : IM) (s : Nat) (q h : Int32) : IM := up2 (up2 (up2 (up2 I 19 s q) 20 s (h / 100)) 21 s (rem (h / 10) 10)) 22 s (rem h 10)
def sp_Sayings_put : SpT := fun as S I L Post => ∃ (s : Nat) (q h : Int32), as = [.ref 18, .int (nI s), .int q, .int h] ∧ S = S1 ∧ s < 11 ∧ Post none S (cSput I s q h) L
set_option maxHeartbeats 4000000 in
set_option maxRecDepth 100000 in
theorem c_Sayings_put : Con mSayings_put 2 0 0 sp_Sayings_put := by
  refine con_of_X rfl fun G as S I L Post hs => ?_
  obtain ⟨s, q, h, rfl, rfl, hs, h1⟩ := hs
  refine ⟨0, Nat.le_of_ble_eq_true rfl, ?_⟩
  show X mSayings_put G _ S1 I L 0 [.ref 18, .int (nI s), .int q, .int h] [] Post
  refine x_aload_n dSayings_put_0 rfl ?_
  refine x_getR fl_Sayings_9 rfl dSayings_put_1 rfl rfl rfl ?_
  refine x_iload_n dSayings_put_4 rfl ?_
  refine x_iload_n dSayings_put_5 rfl ?_
  refine x_iastJ dSayings_put_6 rfl rfl rfl (by omega) ?_
  refine x_aload_n dSayings_put_7 rfl ?_
  refine x_getR fl_Sayings_15 rfl dSayings_put_8 rfl rfl rfl ?_
  refine x_iload_n dSayings_put_11 rfl ?_
  refine x_iload_n dSayings_put_12 rfl ?_
  refine x_bipush (v := 100) dSayings_put_13 rfl ?_
  refine x_idiv dSayings_put_15 (by decide) ?_
  refine x_iastJ dSayings_put_16 rfl rfl rfl (by omega) ?_
  refine x_aload_n dSayings_put_17 rfl ?_
  refine x_getR fl_Sayings_18 rfl dSayings_put_18 rfl rfl rfl ?_
  refine x_iload_n dSayings_put_21 rfl ?_
  refine x_iload_n dSayings_put_22 rfl ?_
  refine x_bipush (v := 10) dSayings_put_23 rfl ?_
  refine x_idiv dSayings_put_25 (by decide) ?_
  refine x_bipush (v := 10) dSayings_put_26 rfl ?_
  refine x_irem dSayings_put_28 (by decide) ?_
  refine x_iastJ dSayings_put_29 rfl rfl rfl (by omega) ?_
  refine x_aload_n dSayings_put_30 rfl ?_
  refine x_getR fl_Sayings_21 rfl dSayings_put_31 rfl rfl rfl ?_
  refine x_iload_n dSayings_put_34 rfl ?_
  refine x_iload_n dSayings_put_35 rfl ?_
  refine x_bipush (v := 10) dSayings_put_36 rfl ?_
  refine x_irem dSayings_put_38 (by decide) ?_
  refine x_iastJ dSayings_put_39 rfl rfl rfl (by omega) ?_
  -- at 40: .return_
  refine x_return dSayings_put_40 rfl ?_
  exact h1
def cFadd (I : IM) (n : Nat) (k w ws ld : Int32) : IM := up2 (up2 (up2 (up2 (up2 (up2 (up2 (up2 (up2 I 5 n k) 6 n (w / 100)) 7 n (rem (w / 10) 10)) 8 n (rem w 10)) 9 n ws) 10 n (ld / 100)) 11 n (rem ld 100)) 12 n (-1)) 4 8 (nI n + 1)
def sp_Folk_add : SpT := fun as S I L Post => ∃ (n : Nat) (k w ws ld : Int32), as = [.ref 4, .int k, .int w, .int ws, .int ld] ∧ S = S1 ∧ n < 8 ∧ I 4 8 = nI n ∧ Post (some (.int (nI n))) S (cFadd I n k w ws ld) L
set_option maxHeartbeats 4000000 in
set_option maxRecDepth 100000 in
theorem c_Folk_add : Con mFolk_add 2 0 0 sp_Folk_add := by
  refine con_of_X rfl fun G as S I L Post hs => ?_
  obtain ⟨n, k, w, ws, ld, rfl, rfl, hn, hm, h1⟩ := hs
  refine ⟨1, Nat.le_of_ble_eq_true rfl, ?_⟩
  show X mFolk_add G _ S1 I L 0 [.ref 4, .int k, .int w, .int ws, .int ld, .null] [] Post
  refine x_aload_n dFolk_add_0 rfl ?_
  refine x_getI fl_Folk_36 rfl dFolk_add_1 rfl rfl ?_
  -- at 4: .istore 5
  rw [hm]
  refine x_istore_5 dFolk_add_4 rfl rfl ?_
  refine x_aload_n dFolk_add_6 rfl ?_
  refine x_getR fl_Folk_9 rfl dFolk_add_7 rfl rfl rfl ?_
  refine x_iload dFolk_add_10 rfl ?_
  refine x_iload_n dFolk_add_12 rfl ?_
  refine x_iastJ dFolk_add_13 rfl rfl rfl (by omega) ?_
  refine x_aload_n dFolk_add_14 rfl ?_
  refine x_getR fl_Folk_15 rfl dFolk_add_15 rfl rfl rfl ?_
  refine x_iload dFolk_add_18 rfl ?_
  refine x_iload_n dFolk_add_20 rfl ?_
  refine x_bipush (v := 100) dFolk_add_21 rfl ?_
  refine x_idiv dFolk_add_23 (by decide) ?_
  refine x_iastJ dFolk_add_24 rfl rfl rfl (by omega) ?_
  refine x_aload_n dFolk_add_25 rfl ?_
  refine x_getR fl_Folk_18 rfl dFolk_add_26 rfl rfl rfl ?_
  refine x_iload dFolk_add_29 rfl ?_
  refine x_iload_n dFolk_add_31 rfl ?_
  refine x_bipush (v := 10) dFolk_add_32 rfl ?_
  refine x_idiv dFolk_add_34 (by decide) ?_
  refine x_bipush (v := 10) dFolk_add_35 rfl ?_
  refine x_irem dFolk_add_37 (by decide) ?_
  refine x_iastJ dFolk_add_38 rfl rfl rfl (by omega) ?_
  refine x_aload_n dFolk_add_39 rfl ?_
  refine x_getR fl_Folk_21 rfl dFolk_add_40 rfl rfl rfl ?_
  refine x_iload dFolk_add_43 rfl ?_
  refine x_iload_n dFolk_add_45 rfl ?_
  refine x_bipush (v := 10) dFolk_add_46 rfl ?_
  refine x_irem dFolk_add_48 (by decide) ?_
  refine x_iastJ dFolk_add_49 rfl rfl rfl (by omega) ?_
  refine x_aload_n dFolk_add_50 rfl ?_
  refine x_getR fl_Folk_24 rfl dFolk_add_51 rfl rfl rfl ?_
  refine x_iload dFolk_add_54 rfl ?_
  refine x_iload_n dFolk_add_56 rfl ?_
  refine x_iastJ dFolk_add_57 rfl rfl rfl (by omega) ?_
  refine x_aload_n dFolk_add_58 rfl ?_
  refine x_getR fl_Folk_27 rfl dFolk_add_59 rfl rfl rfl ?_
  refine x_iload dFolk_add_62 rfl ?_
  refine x_iload dFolk_add_64 rfl ?_
  refine x_bipush (v := 100) dFolk_add_66 rfl ?_
  refine x_idiv dFolk_add_68 (by decide) ?_
  refine x_iastJ dFolk_add_69 rfl rfl rfl (by omega) ?_
  refine x_aload_n dFolk_add_70 rfl ?_
  refine x_getR fl_Folk_30 rfl dFolk_add_71 rfl rfl rfl ?_
  refine x_iload dFolk_add_74 rfl ?_
  refine x_iload dFolk_add_76 rfl ?_
  refine x_bipush (v := 100) dFolk_add_78 rfl ?_
  refine x_irem dFolk_add_80 (by decide) ?_
  refine x_iastJ dFolk_add_81 rfl rfl rfl (by omega) ?_
  refine x_aload_n dFolk_add_82 rfl ?_
  refine x_getR fl_Folk_33 rfl dFolk_add_83 rfl rfl rfl ?_
  refine x_iload dFolk_add_86 rfl ?_
  refine x_iconst (v := -1) dFolk_add_88 rfl ?_
  refine x_iastJ dFolk_add_89 rfl rfl rfl (by omega) ?_
  refine x_aload_n dFolk_add_90 rfl ?_
  refine x_iload dFolk_add_91 rfl ?_
  refine x_iconst (v := 1) dFolk_add_93 rfl ?_
  refine x_iadd dFolk_add_94 ?_
  refine x_putI fl_Folk_36 rfl dFolk_add_95 (by decide) rfl rfl rfl rfl ?_
  refine x_iload dFolk_add_98 rfl ?_
  -- at 100: .ireturn
  refine x_ireturn dFolk_add_100 rfl rfl ?_
  exact h1
/-- where one of a kind is in a minute -/
def whK (k b mo t : Int32) : Int32 := if isU k 1 then (if k = 3 ∧ (t = 2 ∨ t = 3) then 0 else rem (b + t / imax 1 mo) 6) else b
theorem imax1 (x : Int32) : ¬ imax 1 x = 0 := by
  unfold imax
  split
  · rename_i h
    intro e
    rw [e] at h
    exact absurd h (by decide)
  · decide
def sp_Folk_placeOf : SpT := fun as S I L Post => ∃ (p k : Nat) (t : Int32), as = [.ref 4, .int (nI p), .int t] ∧ S = S1 ∧ p < 8 ∧ I 5 p = nI k ∧ k < 6 ∧ Post (some (.int (whK (nI k) (cStart I p) (I 8 p) t))) S I L
set_option maxHeartbeats 4000000 in
set_option maxRecDepth 100000 in
theorem c_Folk_placeOf : Con mFolk_placeOf 3 0 0 sp_Folk_placeOf := by
  refine con_of_X rfl fun G as S I L Post hs => ?_
  obtain ⟨p, k, t, rfl, rfl, hp, hk, hk6, h1⟩ := hs
  refine ⟨1, Nat.le_of_ble_eq_true rfl, ?_⟩
  show X mFolk_placeOf G _ S1 I L 0 [.ref 4, .int (nI p), .int t, .null] [] Post
  refine x_aload_n dFolk_placeOf_0 rfl ?_
  refine x_iload_n dFolk_placeOf_1 rfl ?_
  -- at 2: .invokevirtual 47
  refine x_callV_1 c_Folk_startOf ok_Folk_startOf ml_Folk_47 dFolk_placeOf_2 rfl rfl rfl rfl rfl ?_
  refine ⟨p, rfl, rfl, hp, ?_⟩
  refine x_istoren_3 dFolk_placeOf_5 rfl rfl ?_
  refine x_aload_n dFolk_placeOf_6 rfl ?_
  refine x_iload_n dFolk_placeOf_7 rfl ?_
  refine x_iconst (v := 1) dFolk_placeOf_8 rfl ?_
  -- at 9: .invokevirtual 51
  refine x_callV_2 c_Folk_isA ok_Folk_isA ml_Folk_51 dFolk_placeOf_9 rfl rfl rfl rfl rfl ?_
  refine ⟨p, k, 1, rfl, rfl, hp, hk, hk6, by decide, fun q => ?_, fun q => ?_⟩
  · rw [whK, if_pos q] at h1
    refine x_if_ne (tgt := 17) dFolk_placeOf_12 (by decide) (fun _ => ?_) (fun h => absurd h (by decide))
    have tail : ¬ (nI k = 3 ∧ (t = 2 ∨ t = 3)) → X mFolk_placeOf G (3, 0, 0) S1 I L 39 [.ref 4, .int (nI p), .int t, .int (cStart I p)] [] Post := by
      intro hn
      rw [if_neg hn] at h1
      refine x_iload_n dFolk_placeOf_39 rfl ?_
      refine x_iload_n dFolk_placeOf_40 rfl ?_
      refine x_iconst (v := 1) dFolk_placeOf_41 rfl ?_
      refine x_aload_n dFolk_placeOf_42 rfl ?_
      refine x_getR fl_Folk_21 rfl dFolk_placeOf_43 rfl rfl rfl ?_
      refine x_iload_n dFolk_placeOf_46 rfl ?_
      refine x_ialdJ dFolk_placeOf_47 rfl rfl rfl (by omega) ?_
      -- at 48: .invokestatic 55
      refine x_mmax dFolk_placeOf_48 ml_Folk_55 st_max it_Math co_max rfl rfl ?_
      refine x_idiv dFolk_placeOf_51 (imax1 _) ?_
      refine x_iadd dFolk_placeOf_52 ?_
      refine x_bipush (v := 6) dFolk_placeOf_53 rfl ?_
      refine x_irem dFolk_placeOf_55 (by decide) ?_
      -- at 56: .ireturn
      refine x_ireturn dFolk_placeOf_56 rfl rfl ?_
      exact h1
    refine x_aload_n dFolk_placeOf_17 rfl ?_
    refine x_getR fl_Folk_9 rfl dFolk_placeOf_18 rfl rfl rfl ?_
    refine x_iload_n dFolk_placeOf_21 rfl ?_
    refine x_ialdJ dFolk_placeOf_22 rfl rfl rfl (by omega) ?_
    refine x_iconst (v := 3) dFolk_placeOf_23 rfl ?_
    -- at 24: .if_icmp .ne 15
    rw [hk]
    refine x_icmp_ne (tgt := 39) dFolk_placeOf_24 (by decide) (fun c1 => ?_) (fun c1 => ?_)
    · exact tail (fun z => c1 z.1)
    · refine x_iload_n dFolk_placeOf_27 rfl ?_
      refine x_iconst (v := 2) dFolk_placeOf_28 rfl ?_
      -- at 29: .if_icmp .eq 8
      refine x_icmp_eq (tgt := 37) dFolk_placeOf_29 (by decide) (fun c2 => ?_) (fun c2 => ?_)
      · refine x_iconst (v := 0) dFolk_placeOf_37 rfl ?_
        -- at 38: .ireturn
        refine x_ireturn dFolk_placeOf_38 rfl rfl ?_
        rw [if_pos ⟨c1, Or.inl c2⟩] at h1
        exact h1
      · refine x_iload_n dFolk_placeOf_32 rfl ?_
        refine x_iconst (v := 3) dFolk_placeOf_33 rfl ?_
        -- at 34: .if_icmp .ne 5
        refine x_icmp_ne (tgt := 39) dFolk_placeOf_34 (by decide) (fun c3 => ?_) (fun c3 => ?_)
        · exact tail (fun z => z.2.elim c2 c3)
        · refine x_iconst (v := 0) dFolk_placeOf_37 rfl ?_
          -- at 38: .ireturn
          refine x_ireturn dFolk_placeOf_38 rfl rfl ?_
          rw [if_pos ⟨c1, Or.inr c3⟩] at h1
          exact h1
  · rw [whK, if_neg q] at h1
    refine x_if_ne (tgt := 17) dFolk_placeOf_12 (by decide) (fun h => absurd (by decide) h) (fun _ => ?_)
    refine x_iload_n dFolk_placeOf_15 rfl ?_
    -- at 16: .ireturn
    refine x_ireturn dFolk_placeOf_16 rfl rfl ?_
    exact h1
end
section
-- 14.texts
/-! texts reckoned -/
def sp_Texts_giveNothing : SpT := fun as S I L Post => as = [.ref 30] ∧ S = S1 ∧ ∀ I' : IM, Fr [33] I I' → (∀ j, j < 6 → I' 33 j = 0) → Post none S I' L
set_option maxHeartbeats 4000000 in
set_option maxRecDepth 100000 in
theorem c_Texts_giveNothing : Con mTexts_giveNothing 2 0 0 sp_Texts_giveNothing := by
  refine con_of_X rfl fun G as S I L Post hs => ?_
  obtain ⟨rfl, rfl, h1⟩ := hs
  refine ⟨1, Nat.le_of_ble_eq_true rfl, ?_⟩
  show X mTexts_giveNothing G _ S1 I L 0 [.ref 30, .null] [] Post
  refine x_iconst (v := 0) dTexts_giveNothing_0 rfl ?_
  refine x_istoren_1 dTexts_giveNothing_1 rfl rfl ?_
  -- at 2: .iload_n 1
  have loop : ∀ (n i : Nat) (I' : IM), i + n = 6 → Fr [33] I I' → (∀ j, j < i → I' 33 j = 0) → X mTexts_giveNothing G (2, 0, 0) S1 I' L 2 [.ref 30, .int (nI i)] [] Post := by
    intro n
    induction n with
    | zero =>
      intro i I' hi hF hz
      obtain rfl : i = 6 := by omega
      refine x_iload_n dTexts_giveNothing_2 rfl ?_
      refine x_bipush (v := 6) dTexts_giveNothing_3 rfl ?_
      -- at 5: .if_icmp .ge 16
      refine x_icmp_ge (tgt := 21) dTexts_giveNothing_5 (by decide) (fun _ => ?_) (fun h => absurd (by decide) h)
      refine x_return dTexts_giveNothing_21 rfl ?_
      exact h1 I' hF hz
    | succ n ih =>
      intro i I' hi hF hz
      refine x_iload_n dTexts_giveNothing_2 rfl ?_
      refine x_bipush (v := 6) dTexts_giveNothing_3 rfl ?_
      -- at 5: .if_icmp .ge 16
      refine x_icmp_ge (tgt := 21) dTexts_giveNothing_5 (by decide) (fun h => absurd h (nI_ge (b := 6) (by omega) (by omega))) (fun _ => ?_)
      refine x_aload_n dTexts_giveNothing_8 rfl ?_
      refine x_getR fl_Texts_25 rfl dTexts_giveNothing_9 rfl rfl rfl ?_
      refine x_iload_n dTexts_giveNothing_12 rfl ?_
      refine x_iconst (v := 0) dTexts_giveNothing_13 rfl ?_
      refine x_iastJ dTexts_giveNothing_14 rfl rfl rfl (by omega) ?_
      refine x_iincp_1 dTexts_giveNothing_15 rfl rfl ?_
      refine x_goto (tgt := 2) dTexts_giveNothing_18 (by decide) ?_
      -- at 2: .iload_n 1
      rw [nI_1]
      refine ih (i + 1) _ (by omega) (hF.up (by decide) _ _) fun j hj => ?_
      rw [up2_s]
      by_cases h : j = i
      · simp [up1, h]
      · simp [up1, h]
        exact hz j (by omega)
  exact loop 6 0 I rfl Fr.rfl (fun j hj => absurd hj (Nat.not_lt_zero j))
/-- what a sign of the class does -/
def jnS (c l r : Int32) : Int32 := if c = 13 then b2i (l = 0) else if c = 19 then -l else two c l r
def sp_Texts_joined : SpT := fun as S I L Post => ∃ s l r : Int32, as = [.int s, .int l, .int r] ∧ (s = 7 ∨ s = 8 ∨ s = 9 ∨ s = 10 ∨ s = 42 ∨ s = 43 ∨ s = 45 ∨ s = 60 ∨ s = 61) ∧ Post (some (.int (jnS (enc (s + 20000)) l r))) S I L
set_option maxHeartbeats 4000000 in
set_option maxRecDepth 100000 in
theorem c_Texts_joined : Con mTexts_joined 2 0 0 sp_Texts_joined := by
  refine con_of_X rfl fun G as S I L Post hs => ?_
  obtain ⟨s, l, r, rfl, hs, h1⟩ := hs
  refine ⟨0, Nat.le_of_ble_eq_true rfl, ?_⟩
  show X mTexts_joined G _ S I L 0 [.int s, .int l, .int r] [] Post
  refine x_iload_n dTexts_joined_0 rfl ?_
  -- at 1: .lookupswitch 136 #[(8, 122), (9, 78), (10, 75), (42, 96), (43, 88), (45, 92), (60, 100), (61, 111)]
  rcases hs with rfl | rfl | rfl | rfl | rfl | rfl | rfl | rfl | rfl
  · refine x_lookup (tgt := 137) dTexts_joined_1 (by decide) rfl (by decide) ?_
    rw [show jnS (enc ((7 : Int32) + 20000)) l r = b2i (¬ l = 0 ∨ ¬ r = 0) by rw [show enc ((7 : Int32) + 20000) = 11 by decide]; rfl] at h1
    refine x_iload_n dTexts_joined_137 rfl ?_
    -- at 138: .ifCond .ne 7
    refine x_if_ne (tgt := 145) dTexts_joined_138 (by decide) (fun c1 => ?_) (fun c1 => ?_)
    · refine x_iconst (v := 1) dTexts_joined_145 rfl ?_
      refine x_goto (tgt := 150) dTexts_joined_146 (by decide) ?_
      -- at 150: .ireturn
      refine x_ireturn dTexts_joined_150 rfl rfl ?_
      rw [b2i, if_pos (Or.inl c1)] at h1
      exact h1
    · refine x_iload_n dTexts_joined_141 rfl ?_
      -- at 142: .ifCond .eq 7
      refine x_if_eq (tgt := 149) dTexts_joined_142 (by decide) (fun c2 => ?_) (fun c2 => ?_)
      · refine x_iconst (v := 0) dTexts_joined_149 rfl ?_
        -- at 150: .ireturn
        refine x_ireturn dTexts_joined_150 rfl rfl ?_
        rw [b2i, if_neg (fun z => z.elim (fun y => y c1) (fun y => y c2))] at h1
        exact h1
      · refine x_iconst (v := 1) dTexts_joined_145 rfl ?_
        refine x_goto (tgt := 150) dTexts_joined_146 (by decide) ?_
        -- at 150: .ireturn
        refine x_ireturn dTexts_joined_150 rfl rfl ?_
        rw [b2i, if_pos (Or.inr c2)] at h1
        exact h1
  · refine x_lookup (tgt := 123) dTexts_joined_1 (by decide) rfl (by decide) ?_
    rw [show jnS (enc ((8 : Int32) + 20000)) l r = b2i (¬ l = 0 ∧ ¬ r = 0) by rw [show enc ((8 : Int32) + 20000) = 12 by decide]; rfl] at h1
    refine x_iload_n dTexts_joined_123 rfl ?_
    -- at 124: .ifCond .eq 11
    refine x_if_eq (tgt := 135) dTexts_joined_124 (by decide) (fun c1 => ?_) (fun c1 => ?_)
    · refine x_iconst (v := 0) dTexts_joined_135 rfl ?_
      -- at 136: .ireturn
      refine x_ireturn dTexts_joined_136 rfl rfl ?_
      rw [b2i, if_neg (fun z => z.1 c1)] at h1
      exact h1
    · refine x_iload_n dTexts_joined_127 rfl ?_
      -- at 128: .ifCond .eq 7
      refine x_if_eq (tgt := 135) dTexts_joined_128 (by decide) (fun c2 => ?_) (fun c2 => ?_)
      · refine x_iconst (v := 0) dTexts_joined_135 rfl ?_
        -- at 136: .ireturn
        refine x_ireturn dTexts_joined_136 rfl rfl ?_
        rw [b2i, if_neg (fun z => z.2 c2)] at h1
        exact h1
      · refine x_iconst (v := 1) dTexts_joined_131 rfl ?_
        refine x_goto (tgt := 136) dTexts_joined_132 (by decide) ?_
        -- at 136: .ireturn
        refine x_ireturn dTexts_joined_136 rfl rfl ?_
        rw [b2i, if_pos ⟨c1, c2⟩] at h1
        exact h1
  · refine x_lookup (tgt := 79) dTexts_joined_1 (by decide) rfl (by decide) ?_
    rw [show jnS (enc ((9 : Int32) + 20000)) l r = b2i (l = 0) by rw [show enc ((9 : Int32) + 20000) = 13 by decide]; rfl] at h1
    refine x_iload_n dTexts_joined_79 rfl ?_
    -- at 80: .ifCond .ne 7
    refine x_if_ne (tgt := 87) dTexts_joined_80 (by decide) (fun c1 => ?_) (fun c1 => ?_)
    · refine x_iconst (v := 0) dTexts_joined_87 rfl ?_
      -- at 88: .ireturn
      refine x_ireturn dTexts_joined_88 rfl rfl ?_
      rw [b2i, if_neg c1] at h1
      exact h1
    · refine x_iconst (v := 1) dTexts_joined_83 rfl ?_
      refine x_goto (tgt := 88) dTexts_joined_84 (by decide) ?_
      -- at 88: .ireturn
      refine x_ireturn dTexts_joined_88 rfl rfl ?_
      rw [b2i, if_pos c1] at h1
      exact h1
  · refine x_lookup (tgt := 76) dTexts_joined_1 (by decide) rfl (by decide) ?_
    refine x_iload_n dTexts_joined_76 rfl ?_
    refine x_ineg dTexts_joined_77 ?_
    -- at 78: .ireturn
    refine x_ireturn dTexts_joined_78 rfl rfl ?_
    exact h1
  · refine x_lookup (tgt := 97) dTexts_joined_1 (by decide) rfl (by decide) ?_
    refine x_iload_n dTexts_joined_97 rfl ?_
    refine x_iload_n dTexts_joined_98 rfl ?_
    refine x_imul dTexts_joined_99 ?_
    -- at 100: .ireturn
    refine x_ireturn dTexts_joined_100 rfl rfl ?_
    exact h1
  · refine x_lookup (tgt := 89) dTexts_joined_1 (by decide) rfl (by decide) ?_
    refine x_iload_n dTexts_joined_89 rfl ?_
    refine x_iload_n dTexts_joined_90 rfl ?_
    refine x_iadd dTexts_joined_91 ?_
    -- at 92: .ireturn
    refine x_ireturn dTexts_joined_92 rfl rfl ?_
    exact h1
  · refine x_lookup (tgt := 93) dTexts_joined_1 (by decide) rfl (by decide) ?_
    refine x_iload_n dTexts_joined_93 rfl ?_
    refine x_iload_n dTexts_joined_94 rfl ?_
    refine x_isub dTexts_joined_95 ?_
    -- at 96: .ireturn
    refine x_ireturn dTexts_joined_96 rfl rfl ?_
    exact h1
  · refine x_lookup (tgt := 101) dTexts_joined_1 (by decide) rfl (by decide) ?_
    rw [show jnS (enc ((60 : Int32) + 20000)) l r = b2i (l < r) by rw [show enc ((60 : Int32) + 20000) = 14 by decide]; rfl] at h1
    refine x_iload_n dTexts_joined_101 rfl ?_
    refine x_iload_n dTexts_joined_102 rfl ?_
    -- at 103: .if_icmp .ge 7
    refine x_icmp_ge (tgt := 110) dTexts_joined_103 (by decide) (fun c1 => ?_) (fun c1 => ?_)
    · refine x_iconst (v := 0) dTexts_joined_110 rfl ?_
      -- at 111: .ireturn
      refine x_ireturn dTexts_joined_111 rfl rfl ?_
      rw [b2i, if_neg (Int32.not_lt.mpr c1)] at h1
      exact h1
    · refine x_iconst (v := 1) dTexts_joined_106 rfl ?_
      refine x_goto (tgt := 111) dTexts_joined_107 (by decide) ?_
      -- at 111: .ireturn
      refine x_ireturn dTexts_joined_111 rfl rfl ?_
      rw [b2i, if_pos (Int32.not_le.mp c1)] at h1
      exact h1
  · refine x_lookup (tgt := 112) dTexts_joined_1 (by decide) rfl (by decide) ?_
    rw [show jnS (enc ((61 : Int32) + 20000)) l r = b2i (l = r) by rw [show enc ((61 : Int32) + 20000) = 15 by decide]; rfl] at h1
    refine x_iload_n dTexts_joined_112 rfl ?_
    refine x_iload_n dTexts_joined_113 rfl ?_
    -- at 114: .if_icmp .ne 7
    refine x_icmp_ne (tgt := 121) dTexts_joined_114 (by decide) (fun c1 => ?_) (fun c1 => ?_)
    · refine x_iconst (v := 0) dTexts_joined_121 rfl ?_
      -- at 122: .ireturn
      refine x_ireturn dTexts_joined_122 rfl rfl ?_
      rw [b2i, if_neg c1] at h1
      exact h1
    · refine x_iconst (v := 1) dTexts_joined_117 rfl ?_
      refine x_goto (tgt := 122) dTexts_joined_118 (by decide) ?_
      -- at 122: .ireturn
      refine x_ireturn dTexts_joined_122 rfl rfl ?_
      rw [b2i, if_pos c1] at h1
      exact h1
end
section
-- 15.value
/-! a text's program on the class's stack -/
theorem nI_lit (x : Int32) (h0 : 0 ≤ x) : x = nI (cl x) := by
  have h := nI_of (x := x) (Int32.not_lt.mpr h0)
  obtain ⟨j, hj, e⟩ := h
  rw [e]
  show nI j = nI (nI j).toNatClampNeg
  rw [nI_clamp hj]
theorem rng_of {x M : Int32} {n : Nat} (hM : M = nI n) (hn : n < 2 ^ 31) (h0 : 0 ≤ x) (h1 : x < M) : ∃ k, k < n ∧ x = nI k := by
  obtain ⟨j, hj, e⟩ := nI_of (x := x) (Int32.not_lt.mpr h0)
  refine ⟨j, ?_, e⟩
  rw [e, hM] at h1
  exact (nI_ltI hj hn).mp h1
abbrev isOp (s : Int32) : Prop := s = 7 ∨ s = 8 ∨ s = 9 ∨ s = 10 ∨ s = 42 ∨ s = 43 ∨ s = 45 ∨ s = 60 ∨ s = 61
abbrev binC (c : Int32) : Prop := c = 11 ∨ c = 12 ∨ c = 14 ∨ c = 15 ∨ c = 16 ∨ c = 17 ∨ c = 18
theorem enc_cases (x : Int32) : (∃ n, n < 10000 ∧ x = nI n ∧ enc x = nI (n + 100000)) ∨ (∃ n, n < 6 ∧ x = nI (n + 10000) ∧ enc x = nI n) ∨ (x = 20009 ∧ enc x = 13) ∨ (x = 20010 ∧ enc x = 19) ∨ (¬ x < 20000 ∧ ¬ x = 20009 ∧ ¬ x = 20010 ∧ isOp (x - 20000) ∧ binC (enc x)) ∨ enc x = 999 := by
  by_cases h1 : 0 ≤ x ∧ x < 10000
  · obtain ⟨n, hn, e⟩ := rng_of (n := 10000) rfl (by omega) h1.1 h1.2
    refine Or.inl ⟨n, hn, e, ?_⟩
    rw [enc, if_pos h1, e]
    exact nI_add n 100000
  by_cases h2 : 10000 ≤ x ∧ x < 10006
  · obtain ⟨n, hn, e⟩ := rng_of (n := 10006) rfl (by omega) (Int32.le_trans (by decide) h2.1) h2.2
    have h3 : 10000 ≤ n := by
      have h4 := h2.1
      rw [e] at h4
      exact (nI_leI (a := 10000) (by omega) (by omega)).mp h4
    refine Or.inr (Or.inl ⟨n - 10000, by omega, by rw [e]; congr 1; omega, ?_⟩)
    rw [enc, if_neg h1, if_pos h2, e]
    exact pk_sub (b := 10000) h3
  rw [enc, if_neg h1, if_neg h2]
  by_cases a1 : x = 20007
  · subst a1; exact Or.inr (Or.inr (Or.inr (Or.inr (Or.inl (by decide)))))
  by_cases a2 : x = 20008
  · subst a2; exact Or.inr (Or.inr (Or.inr (Or.inr (Or.inl (by decide)))))
  by_cases a3 : x = 20009
  · subst a3; exact Or.inr (Or.inr (Or.inl (by decide)))
  by_cases a4 : x = 20010
  · subst a4; exact Or.inr (Or.inr (Or.inr (Or.inl (by decide))))
  by_cases a5 : x = 20060
  · subst a5; exact Or.inr (Or.inr (Or.inr (Or.inr (Or.inl (by decide)))))
  by_cases a6 : x = 20061
  · subst a6; exact Or.inr (Or.inr (Or.inr (Or.inr (Or.inl (by decide)))))
  by_cases a7 : x = 20043
  · subst a7; exact Or.inr (Or.inr (Or.inr (Or.inr (Or.inl (by decide)))))
  by_cases a8 : x = 20045
  · subst a8; exact Or.inr (Or.inr (Or.inr (Or.inr (Or.inl (by decide)))))
  by_cases a9 : x = 20042
  · subst a9; exact Or.inr (Or.inr (Or.inr (Or.inr (Or.inl (by decide)))))
  exact Or.inr (Or.inr (Or.inr (Or.inr (Or.inr (by simp [a1, a2, a3, a4, a5, a6, a7, a8, a9])))))
theorem stp_num (nm : Nat → Int32) (st : List Int32) {n : Nat} (hn : n < 10000) : stp nm (nI (n + 100000)) st = nI n :: st := by
  have h : (100000 : Int32) ≤ nI (n + 100000) := (nI_leI (a := 100000) (by omega) (by omega)).mpr (by omega)
  unfold stp
  rw [if_pos h]
  have h3 := pk_sub (a := n + 100000) (b := 100000) (by omega)
  rw [Nat.add_sub_cancel] at h3
  exact congrArg (· :: st) h3
theorem stp_nm (nm : Nat → Int32) (st : List Int32) {n : Nat} (hn : n < 6) : stp nm (nI n) st = nm n :: st := by
  have h : ¬ (100000 : Int32) ≤ nI n := fun q => by
    have := (nI_leI (a := 100000) (by omega) (by omega)).mp q
    omega
  have h2 : nI n < (11 : Int32) := (nI_ltI (b := 11) (by omega) (by omega)).mpr (by omega)
  unfold stp
  rw [if_neg h, if_pos h2]
  congr 1
  show nm (nI n).toNatClampNeg = _
  rw [nI_clamp (by omega)]
theorem wfR_num (t : List Int32) (h : Nat) {n : Nat} (hn : n < 10000) : wfR (nI (n + 100000) :: t) h = wfR t (h + 1) := by
  rw [wfR, if_pos (Or.inl ⟨(nI_leI (a := 100000) (by omega) (by omega)).mpr (by omega), (nI_ltI (b := 110000) (by omega) (by omega)).mpr (by omega)⟩)]
theorem wfR_nm (t : List Int32) (h : Nat) {n : Nat} (hn : n < 6) : wfR (nI n :: t) h = wfR t (h + 1) := by
  rw [wfR, if_pos (Or.inr ⟨nI_pos' (by omega), (nI_ltI (b := 6) (by omega) (by omega)).mpr (by omega)⟩)]
theorem wfR_un {c : Int32} {t : List Int32} {h : Nat} {o : Nat} (hc : c = 13 ∨ c = 19) (hw : wfR (c :: t) h = some o) : 1 ≤ h ∧ wfR t h = some o := by
  rw [wfR, if_neg (by rcases hc with rfl | rfl <;> decide), if_pos hc] at hw
  split at hw
  · exact ⟨by assumption, hw⟩
  · cases hw
theorem wfR_bin {c : Int32} {t : List Int32} {h : Nat} {o : Nat} (hc : binC c) (hw : wfR (c :: t) h = some o) : 2 ≤ h ∧ wfR t (h - 1) = some o := by
  rw [wfR, if_neg (by rcases hc with rfl | rfl | rfl | rfl | rfl | rfl | rfl <;> decide), if_neg (by rcases hc with rfl | rfl | rfl | rfl | rfl | rfl | rfl <;> decide), if_pos (by rcases hc with rfl | rfl | rfl | rfl | rfl | rfl | rfl <;> decide)] at hw
  split at hw
  · exact ⟨by assumption, hw⟩
  · cases hw
theorem wfR_999 (t : List Int32) (h o : Nat) : ¬ wfR (999 :: t) h = some o := by
  rw [wfR, if_neg (by decide), if_neg (by decide), if_neg (by decide)]
  exact fun q => by cases q
theorem stp_un (nm : Nat → Int32) {c y z : Int32} {t : List Int32} (hc : c = 13 ∨ c = 19) : stp nm c (y :: t) = jnS c y z :: t := by
  rcases hc with rfl | rfl <;> rfl
theorem stp_bin (nm : Nat → Int32) {c y x : Int32} {t : List Int32} (hc : binC c) : stp nm c (y :: x :: t) = jnS c x y :: t := by
  rcases hc with rfl | rfl | rfl | rfl | rfl | rfl | rfl <;> rfl
theorem imax1n {h : Nat} (h1 : 1 ≤ h) (h2 : h < 2 ^ 31) : imax 1 (nI h) = nI h := by
  unfold imax
  split
  · rfl
  · rename_i q
    have h3 : ¬ 1 < h := fun z => q ((nI_ltI (a := 1) (by omega) h2).mpr z)
    obtain rfl : h = 1 := by omega
    rfl
/-- the class's stack holds the numbers, the last on top -/
def Held (f : Nat → Int32) (st : List Int32) : Prop := ∀ h, h < st.length → f h = st.getD (st.length - 1 - h) 0
theorem Held.push {f : Nat → Int32} {st : List Int32} (h : Held f st) (x : Int32) : Held (up1 f st.length x) (x :: st) := by
  intro k hk
  rw [List.length_cons] at hk
  unfold up1
  by_cases e : k = st.length
  · subst e
    simp
  · rw [if_neg e, h k (by omega)]
    rw [List.length_cons, show st.length + 1 - 1 - k = (st.length - 1 - k) + 1 by omega]
    simp
theorem Held.top {f : Nat → Int32} {y : Int32} {t : List Int32} (h : Held f (y :: t)) : f t.length = y := by
  have := h t.length (by simp)
  simpa using this
theorem Held.pop {f : Nat → Int32} {y : Int32} {t : List Int32} (h : Held f (y :: t)) : Held f t := by
  intro k hk
  have := h k (by simp; omega)
  rw [List.length_cons, show t.length + 1 - 1 - k = (t.length - 1 - k) + 1 by omega] at this
  simpa using this
def sp_Texts_value : SpT := fun as S I L Post => ∃ (t j a : Nat) (cs : List Int32), as = [.ref 30, .int (nI t), .int (nI j)] ∧ S = S1 ∧ t < 6 ∧ j < 3 ∧ I 32 (t * 4 + j) = nI a ∧ I 32 (t * 4 + j + 1) = nI (a + cs.length) ∧ a + cs.length ≤ 160 ∧
  (∀ i, i < cs.length → enc (I 31 (t * 160 + a + i)) = cs.getD i 0) ∧ wfR cs 0 = some 1 ∧ ∀ I' : IM, Fr [34] I I' → Post (some (.int (valP (I 33) cs))) S I' L
set_option maxHeartbeats 4000000 in
set_option maxRecDepth 100000 in
theorem value_tail {G : WG} {I' : IM} {L : LM} {Post : PostT} {h : Nat} {i x : Int32} {a1 a2 a3 a4 a8 : Value} (hh : h < 160) (hx : isOp (x - 20000)) (k : X mTexts_value G (3, 0, 0) S1 (up2 I' 34 h (jnS (enc x) (I' 34 h) (I' 34 (h + 1)))) L 43 [.ref 30, a1, a2, a3, a4, .int (nI (h + 1)), .int (i + 1), .int x, a8] [] Post) :
    X mTexts_value G (3, 0, 0) S1 I' L 147 [.ref 30, a1, a2, a3, a4, .int (nI (h + 1)), .int i, .int x, a8] [] Post := by
  refine x_aload_n dTexts_value_147 rfl ?_
  refine x_getR fl_Texts_28 rfl dTexts_value_148 rfl rfl rfl ?_
  refine x_iload dTexts_value_151 rfl ?_
  refine x_iconst (v := 1) dTexts_value_153 rfl ?_
  refine x_isub dTexts_value_154 ?_
  -- at 155: .iload 7
  refine x_eqi (nI_pred h) ?_
  refine x_iload dTexts_value_155 rfl ?_
  refine x_sipush (v := 20000) dTexts_value_157 rfl ?_
  refine x_isub dTexts_value_160 ?_
  refine x_aload_n dTexts_value_161 rfl ?_
  refine x_getR fl_Texts_28 rfl dTexts_value_162 rfl rfl rfl ?_
  refine x_iload dTexts_value_165 rfl ?_
  refine x_iconst (v := 1) dTexts_value_167 rfl ?_
  refine x_isub dTexts_value_168 ?_
  refine x_ialdJ dTexts_value_169 rfl rfl (nI_pred h) (by omega) ?_
  refine x_aload_n dTexts_value_170 rfl ?_
  refine x_getR fl_Texts_28 rfl dTexts_value_171 rfl rfl rfl ?_
  refine x_iload dTexts_value_174 rfl ?_
  refine x_ialdJ dTexts_value_176 rfl rfl rfl (by omega) ?_
  -- at 177: .invokestatic 47
  refine x_callS_3 c_Texts_joined ok_Texts_joined ml_Texts_47 dTexts_value_177 rfl rfl ?_
  refine ⟨_, _, _, rfl, hx, ?_⟩
  rw [Int32.sub_add_cancel]
  refine x_iastJ dTexts_value_180 rfl rfl rfl (by omega) ?_
  refine x_iincp_6 dTexts_value_181 rfl rfl ?_
  refine x_goto (tgt := 43) dTexts_value_184 (by decide) ?_
  -- at 43: .iload 6
  exact k
set_option maxHeartbeats 4000000 in
set_option maxRecDepth 100000 in
theorem value_loop {G : WG} {I : IM} {L : LM} {Post : PostT} {t j e : Nat} {V : Int32} {av : Value} (ht : t < 6) (he : e ≤ t * 160 + 160) (hp : ∀ I' : IM, Fr [34] I I' → Post (some (.int V)) S1 I' L) :
    ∀ (rs : List Int32) (i : Nat) (st : List Int32) (I' : IM) (a7 a8 : Value), Fr [34] I I' → i + rs.length = e → t * 160 ≤ i → (∀ k, k < rs.length → enc (I 31 (i + k)) = rs.getD k 0) → wfR rs st.length = some 1 → t * 160 + st.length ≤ i → Held (I' 34) st → (runP (I 33) rs st).headD 0 = V →
    X mTexts_value G (3, 0, 0) S1 I' L 43 [.ref 30, .int (nI t), .int (nI j), av, .int (nI e), .int (nI st.length), .int (nI i), a7, a8] [] Post := by
  intro rs
  induction rs with
  | nil =>
    intro i st I' a7 a8 hF hi hti hc hw hst hH hV
    refine x_iload dTexts_value_43 rfl ?_
    refine x_iload dTexts_value_45 rfl ?_
    -- at 47: .if_icmp .ge 140
    obtain rfl : i = e := by simpa using hi
    refine x_icmp_ge (tgt := 187) dTexts_value_47 (by decide) (fun _ => ?_) (fun h => absurd (Int32.le_refl _) h)
    have h1 : st.length = 1 := by simpa [wfR] using hw
    refine x_aload_n dTexts_value_187 rfl ?_
    refine x_getR fl_Texts_28 rfl dTexts_value_188 rfl rfl rfl ?_
    refine x_iconst (v := 0) dTexts_value_191 rfl ?_
    -- at 192: .iaload
    refine x_ialdJ (j := 0) dTexts_value_192 rfl rfl rfl (by omega) ?_
    refine x_ireturn dTexts_value_193 rfl rfl ?_
    match st, h1 with
    | [y], _ =>
      rw [show I' 34 0 = y from hH.top, show y = V from hV]
      exact hp I' hF
  | cons c rs ih =>
    intro i st I' a7 a8 hF hi hti hc hw hst hH hV
    rw [List.length_cons] at hi
    have hc0 := hc 0 (by simp)
    have hcr : ∀ k, k < rs.length → enc (I 31 (i + 1 + k)) = rs.getD k 0 := fun k hk => by
      have := hc (k + 1) (by simp; omega)
      rw [show i + 1 + k = i + (k + 1) by omega, this]
      simp
    simp only [Nat.add_zero, List.getD_cons_zero] at hc0
    refine x_iload dTexts_value_43 rfl ?_
    refine x_iload dTexts_value_45 rfl ?_
    -- at 47: .if_icmp .ge 140
    refine x_icmp_ge (tgt := 187) dTexts_value_47 (by decide) (fun h => absurd h (nI_ge (b := e) (by omega) (by omega))) (fun _ => ?_)
    refine x_aload_n dTexts_value_50 rfl ?_
    refine x_getR fl_Texts_9 rfl dTexts_value_51 rfl rfl rfl ?_
    refine x_iload dTexts_value_54 rfl ?_
    refine x_ialdJ dTexts_value_56 rfl rfl rfl (by omega) ?_
    refine x_istore_7 dTexts_value_57 rfl rfl ?_
    -- at 59: .iload 7
    rw [hF 31 (by decide)]
    generalize hx : I 31 i = x at hc0 ⊢
    rcases enc_cases x with ⟨n, hn, e1, e2⟩ | ⟨n, hn, e1, e2⟩ | ⟨e1, e2⟩ | ⟨e1, e2⟩ | ⟨q1, q2, q3, q4, q5⟩ | e2
    · rw [e2] at hc0
      subst hc0
      rw [wfR_num _ _ hn] at hw
      rw [runP, stp_num _ _ hn] at hV
      subst e1
      refine x_iload dTexts_value_59 rfl ?_
      refine x_sipush (v := 20000) dTexts_value_61 rfl ?_
      -- at 64: .if_icmp .ge 40
      refine x_icmp_ge (tgt := 104) dTexts_value_64 (by decide) (fun h => absurd h (nI_ge (b := 20000) (by omega) (by omega))) (fun _ => ?_)
      refine x_aload_n dTexts_value_67 rfl ?_
      refine x_getR fl_Texts_28 rfl dTexts_value_68 rfl rfl rfl ?_
      refine x_iload dTexts_value_71 rfl ?_
      refine x_iload dTexts_value_73 rfl ?_
      refine x_sipush (v := 10000) dTexts_value_75 rfl ?_
      -- at 78: .if_icmp .ge 8
      refine x_icmp_ge (tgt := 86) dTexts_value_78 (by decide) (fun h => absurd h (nI_ge (b := 10000) (by omega) (by omega))) (fun _ => ?_)
      refine x_iload dTexts_value_81 rfl ?_
      refine x_goto (tgt := 97) dTexts_value_83 (by decide) ?_
      refine x_iastJ dTexts_value_97 rfl rfl rfl (by omega) ?_
      refine x_iincp_5 dTexts_value_98 rfl rfl ?_
      refine x_goto (tgt := 181) dTexts_value_101 (by decide) ?_
      refine x_iincp_6 dTexts_value_181 rfl rfl ?_
      refine x_goto (tgt := 43) dTexts_value_184 (by decide) ?_
      -- at 43: .iload 6
      rw [nI_1, nI_1]
      exact ih (i + 1) (nI n :: st) _ _ _ (hF.up (by decide) _ _) (by omega) (by omega) hcr hw (by simp; omega) (by rw [up2_s]; exact hH.push _) hV
    · rw [e2] at hc0
      subst hc0
      rw [wfR_nm _ _ hn] at hw
      rw [runP, stp_nm _ _ hn] at hV
      subst e1
      refine x_iload dTexts_value_59 rfl ?_
      refine x_sipush (v := 20000) dTexts_value_61 rfl ?_
      -- at 64: .if_icmp .ge 40
      refine x_icmp_ge (tgt := 104) dTexts_value_64 (by decide) (fun h => absurd h (nI_ge (b := 20000) (by omega) (by omega))) (fun _ => ?_)
      refine x_aload_n dTexts_value_67 rfl ?_
      refine x_getR fl_Texts_28 rfl dTexts_value_68 rfl rfl rfl ?_
      refine x_iload dTexts_value_71 rfl ?_
      refine x_iload dTexts_value_73 rfl ?_
      refine x_sipush (v := 10000) dTexts_value_75 rfl ?_
      -- at 78: .if_icmp .ge 8
      refine x_icmp_ge (tgt := 86) dTexts_value_78 (by decide) (fun _ => ?_) (fun h => absurd (nI_le (a := 10000) (by omega) (by omega)) h)
      refine x_aload_n dTexts_value_86 rfl ?_
      refine x_getR fl_Texts_25 rfl dTexts_value_87 rfl rfl rfl ?_
      refine x_iload dTexts_value_90 rfl ?_
      refine x_sipush (v := 10000) dTexts_value_92 rfl ?_
      refine x_isub dTexts_value_95 ?_
      -- at 96: .iaload
      refine x_ialdJ (j := n) dTexts_value_96 rfl rfl (pk_sub (b := 10000) (by omega)) (by omega) ?_
      rw [hF 33 (by decide)]
      refine x_iastJ dTexts_value_97 rfl rfl rfl (by omega) ?_
      refine x_iincp_5 dTexts_value_98 rfl rfl ?_
      refine x_goto (tgt := 181) dTexts_value_101 (by decide) ?_
      refine x_iincp_6 dTexts_value_181 rfl rfl ?_
      refine x_goto (tgt := 43) dTexts_value_184 (by decide) ?_
      -- at 43: .iload 6
      rw [nI_1, nI_1]
      exact ih (i + 1) (I 33 n :: st) _ _ _ (hF.up (by decide) _ _) (by omega) (by omega) hcr hw (by simp; omega) (by rw [up2_s]; exact hH.push _) hV
    · obtain ⟨w1, w2⟩ := wfR_un (Or.inl (hc0.symm.trans e2)) hw
      match st, w1, w2, hst, hH, hV with
      | y :: u, w1, w2, hst, hH, hV =>
        rw [List.length_cons] at hst w2 ⊢
        rw [runP, stp_un (z := I' 34 (u.length + 1)) _ (Or.inl (hc0.symm.trans e2))] at hV
        refine x_iload dTexts_value_59 rfl ?_
        refine x_sipush (v := 20000) dTexts_value_61 rfl ?_
        -- at 64: .if_icmp .ge 40
        refine x_icmp_ge (tgt := 104) dTexts_value_64 (by decide) (fun _ => ?_) (fun h => absurd (by rw [e1]; decide) h)
        refine x_iload dTexts_value_104 rfl ?_
        refine x_sipush (v := 20010) dTexts_value_106 rfl ?_
        -- at 109: .if_icmp .eq 11
        refine x_icmp_eq (tgt := 120) dTexts_value_109 (by decide) (fun h => absurd h (by rw [e1]; decide)) (fun _ => ?_)
        refine x_iload dTexts_value_112 rfl ?_
        refine x_sipush (v := 20009) dTexts_value_114 rfl ?_
        -- at 117: .if_icmp .ne 7
        refine x_icmp_ne (tgt := 124) dTexts_value_117 (by decide) (fun h => absurd e1 h) (fun _ => ?_)
        refine x_iconst (v := 1) dTexts_value_120 rfl ?_
        refine x_goto (tgt := 125) dTexts_value_121 (by decide) ?_
        refine x_istore_8 dTexts_value_125 rfl rfl ?_
        refine x_iconst (v := 1) dTexts_value_127 rfl ?_
        refine x_iload dTexts_value_128 rfl ?_
        -- at 130: .ifCond .eq 8
        refine x_if_eq (tgt := 138) dTexts_value_130 (by decide) (fun h => absurd h (by decide)) (fun _ => ?_)
        refine x_iload dTexts_value_133 rfl ?_
        refine x_goto (tgt := 142) dTexts_value_135 (by decide) ?_
        -- at 142: .invokestatic 41
        refine x_mmax dTexts_value_142 ml_Texts_41 st_max it_Math co_max rfl rfl ?_
        refine x_eqi (imax1n (h := u.length + 1) (by omega) (by omega)) ?_
        refine x_istore_5 dTexts_value_145 rfl rfl ?_
        -- at 147: .aload_n 0
        refine value_tail (by omega) (by rw [e1]; decide) ?_
        rw [nI_1, hH.top, hc0]
        exact ih (i + 1) (_ :: u) _ _ _ (hF.up (by decide) _ _) (by omega) (by omega) hcr w2 (by simp; omega) (by rw [up2_s]; exact hH.pop.push _) hV
    · obtain ⟨w1, w2⟩ := wfR_un (Or.inr (hc0.symm.trans e2)) hw
      match st, w1, w2, hst, hH, hV with
      | y :: u, w1, w2, hst, hH, hV =>
        rw [List.length_cons] at hst w2 ⊢
        rw [runP, stp_un (z := I' 34 (u.length + 1)) _ (Or.inr (hc0.symm.trans e2))] at hV
        refine x_iload dTexts_value_59 rfl ?_
        refine x_sipush (v := 20000) dTexts_value_61 rfl ?_
        -- at 64: .if_icmp .ge 40
        refine x_icmp_ge (tgt := 104) dTexts_value_64 (by decide) (fun _ => ?_) (fun h => absurd (by rw [e1]; decide) h)
        refine x_iload dTexts_value_104 rfl ?_
        refine x_sipush (v := 20010) dTexts_value_106 rfl ?_
        -- at 109: .if_icmp .eq 11
        refine x_icmp_eq (tgt := 120) dTexts_value_109 (by decide) (fun _ => ?_) (fun h => absurd e1 h)
        refine x_iconst (v := 1) dTexts_value_120 rfl ?_
        refine x_goto (tgt := 125) dTexts_value_121 (by decide) ?_
        refine x_istore_8 dTexts_value_125 rfl rfl ?_
        refine x_iconst (v := 1) dTexts_value_127 rfl ?_
        refine x_iload dTexts_value_128 rfl ?_
        -- at 130: .ifCond .eq 8
        refine x_if_eq (tgt := 138) dTexts_value_130 (by decide) (fun h => absurd h (by decide)) (fun _ => ?_)
        refine x_iload dTexts_value_133 rfl ?_
        refine x_goto (tgt := 142) dTexts_value_135 (by decide) ?_
        -- at 142: .invokestatic 41
        refine x_mmax dTexts_value_142 ml_Texts_41 st_max it_Math co_max rfl rfl ?_
        refine x_eqi (imax1n (h := u.length + 1) (by omega) (by omega)) ?_
        refine x_istore_5 dTexts_value_145 rfl rfl ?_
        -- at 147: .aload_n 0
        refine value_tail (by omega) (by rw [e1]; decide) ?_
        rw [nI_1, hH.top, hc0]
        exact ih (i + 1) (_ :: u) _ _ _ (hF.up (by decide) _ _) (by omega) (by omega) hcr w2 (by simp; omega) (by rw [up2_s]; exact hH.pop.push _) hV
    · rw [hc0] at q5
      obtain ⟨w1, w2⟩ := wfR_bin q5 hw
      match st, w1, w2, hst, hH, hV with
      | y :: z :: u, w1, w2, hst, hH, hV =>
        rw [List.length_cons, List.length_cons] at hst w2 ⊢
        rw [runP, stp_bin _ q5] at hV
        refine x_iload dTexts_value_59 rfl ?_
        refine x_sipush (v := 20000) dTexts_value_61 rfl ?_
        -- at 64: .if_icmp .ge 40
        refine x_icmp_ge (tgt := 104) dTexts_value_64 (by decide) (fun _ => ?_) (fun h => absurd (Int32.not_lt.mp q1) h)
        refine x_iload dTexts_value_104 rfl ?_
        refine x_sipush (v := 20010) dTexts_value_106 rfl ?_
        -- at 109: .if_icmp .eq 11
        refine x_icmp_eq (tgt := 120) dTexts_value_109 (by decide) (fun h => absurd h q3) (fun _ => ?_)
        refine x_iload dTexts_value_112 rfl ?_
        refine x_sipush (v := 20009) dTexts_value_114 rfl ?_
        -- at 117: .if_icmp .ne 7
        refine x_icmp_ne (tgt := 124) dTexts_value_117 (by decide) (fun _ => ?_) (fun h => absurd h q2)
        refine x_iconst (v := 0) dTexts_value_124 rfl ?_
        refine x_istore_8 dTexts_value_125 rfl rfl ?_
        refine x_iconst (v := 1) dTexts_value_127 rfl ?_
        refine x_iload dTexts_value_128 rfl ?_
        -- at 130: .ifCond .eq 8
        refine x_if_eq (tgt := 138) dTexts_value_130 (by decide) (fun _ => ?_) (fun h => absurd (by decide) h)
        refine x_iload dTexts_value_138 rfl ?_
        refine x_iconst (v := 1) dTexts_value_140 rfl ?_
        refine x_isub dTexts_value_141 ?_
        -- at 142: .invokestatic 41
        refine x_eqi (nI_pred (u.length + 1)) ?_
        refine x_mmax dTexts_value_142 ml_Texts_41 st_max it_Math co_max rfl rfl ?_
        refine x_eqi (imax1n (h := u.length + 1) (by omega) (by omega)) ?_
        refine x_istore_5 dTexts_value_145 rfl rfl ?_
        -- at 147: .aload_n 0
        refine value_tail (by omega) q4 ?_
        have hy : I' 34 (u.length + 1) = y := by simpa using hH.top
        rw [nI_1, hH.pop.top, hy, hc0]
        exact ih (i + 1) (_ :: u) _ _ _ (hF.up (by decide) _ _) (by omega) (by omega) hcr w2 (by simp; omega) (by rw [up2_s]; exact hH.pop.pop.push _) hV
    · rw [e2] at hc0
      subst hc0
      exact absurd hw (wfR_999 _ _ _)
set_option maxHeartbeats 4000000 in
set_option maxRecDepth 100000 in
theorem c_Texts_value : Con mTexts_value 3 0 0 sp_Texts_value := by
  refine con_of_X rfl fun G as S I L Post hs => ?_
  obtain ⟨t, j, a, cs, rfl, rfl, ht, hj, ha, hb, hab, hc, hw, h1⟩ := hs
  refine ⟨6, Nat.le_of_ble_eq_true rfl, ?_⟩
  show X mTexts_value G _ S1 I L 0 [.ref 30, .int (nI t), .int (nI j), .null, .null, .null, .null, .null, .null] [] Post
  refine x_iload_n dTexts_value_0 rfl ?_
  refine x_sipush (v := 160) dTexts_value_1 rfl ?_
  refine x_imul dTexts_value_4 ?_
  refine x_aload_n dTexts_value_5 rfl ?_
  refine x_getR fl_Texts_15 rfl dTexts_value_6 rfl rfl rfl ?_
  refine x_iload_n dTexts_value_9 rfl ?_
  refine x_iconst (v := 4) dTexts_value_10 rfl ?_
  refine x_imul dTexts_value_11 ?_
  refine x_iload_n dTexts_value_12 rfl ?_
  refine x_iadd dTexts_value_13 ?_
  refine x_ialdJ (j := t * 4 + j) dTexts_value_14 rfl rfl (by first | rfl | (simp only [← nI_add, ← pk_mul]; rfl)) (by omega) ?_
  -- at 15: .iadd
  rw [ha]
  refine x_iadd dTexts_value_15 ?_
  refine x_istoren_3 dTexts_value_16 rfl rfl ?_
  refine x_iload_n dTexts_value_17 rfl ?_
  refine x_sipush (v := 160) dTexts_value_18 rfl ?_
  refine x_imul dTexts_value_21 ?_
  refine x_aload_n dTexts_value_22 rfl ?_
  refine x_getR fl_Texts_15 rfl dTexts_value_23 rfl rfl rfl ?_
  refine x_iload_n dTexts_value_26 rfl ?_
  refine x_iconst (v := 4) dTexts_value_27 rfl ?_
  refine x_imul dTexts_value_28 ?_
  refine x_iload_n dTexts_value_29 rfl ?_
  refine x_iadd dTexts_value_30 ?_
  refine x_iconst (v := 1) dTexts_value_31 rfl ?_
  refine x_iadd dTexts_value_32 ?_
  refine x_ialdJ (j := t * 4 + j + 1) dTexts_value_33 rfl rfl (by first | rfl | (simp only [← nI_add, ← pk_mul]; rfl)) (by omega) ?_
  -- at 34: .iadd
  rw [hb]
  refine x_iadd dTexts_value_34 ?_
  refine x_istore_4 dTexts_value_35 rfl rfl ?_
  refine x_iconst (v := 0) dTexts_value_37 rfl ?_
  refine x_istore_5 dTexts_value_38 rfl rfl ?_
  refine x_iload_n dTexts_value_40 rfl ?_
  refine x_istore_6 dTexts_value_41 rfl rfl ?_
  -- at 43: .iload 6
  have e1 : nI t * 160 + nI a = nI (t * 160 + a) := by simp only [← nI_add, ← pk_mul]; rfl
  have e2 : nI t * 160 + nI (a + cs.length) = nI (t * 160 + a + cs.length) := by rw [Nat.add_assoc]; simp only [← nI_add, ← pk_mul]; rfl
  rw [e1, e2]
  exact value_loop ht (by omega) h1 cs (t * 160 + a) [] I _ _ Fr.rfl rfl (by omega) hc hw (by simp) (fun k hk => absurd hk (Nat.not_lt_zero k)) rfl
end
section
-- 16.bits
/-! bits (rows b_ pasted from the kit's laws, as they are given for pasting) -/
def bt (x : Int32) (i : Nat) : Bool := x.toBitVec.getLsbD i
theorem b_ext {x y : Int32} (h : ∀ i, i < 32 → bt x i = bt y i) : x = y := Int32.toBitVec_inj.mp (BitVec.eq_of_getLsbD_eq (fun i hi => h i hi))
theorem b_or (x y : Int32) (i : Nat) : bt (x ||| y) i = (bt x i || bt y i) := by unfold bt; rw [Int32.toBitVec_or, BitVec.getLsbD_or]
theorem b_and (x y : Int32) (i : Nat) : bt (x &&& y) i = (bt x i && bt y i) := by unfold bt; rw [Int32.toBitVec_and, BitVec.getLsbD_and]
theorem b_xor (x y : Int32) (i : Nat) : bt (x ^^^ y) i = (bt x i ^^ bt y i) := by unfold bt; rw [Int32.toBitVec_xor, BitVec.getLsbD_xor]
theorem b_big {x : Int32} {i : Nat} (h : 32 ≤ i) : bt x i = false := BitVec.getLsbD_of_ge _ _ h
theorem b_m1 : ∀ i, i < 32 → bt (-1) i = true := by decide +kernel
theorem b_0 (i : Nat) : bt 0 i = false := BitVec.getLsbD_zero
theorem s_l : ∀ n, n < 32 → ((nI n &&& 31).toBitVec.smod 32).toNat = n := by decide +kernel
theorem s_u : ∀ n, n < 32 → (((nI n).toUInt32 &&& Int32.toUInt32 31).toBitVec % 32).toNat = n := by decide +kernel
theorem b_shl (n : Nat) (hn : n < 32) (x : Int32) {i : Nat} (hi : i < 32) : bt (x <<< (nI n &&& 31)) i = (decide (n ≤ i) && bt x (i - n)) := by
  unfold bt
  rw [Int32.toBitVec_shiftLeft]
  show (x.toBitVec <<< ((nI n &&& 31).toBitVec.smod 32).toNat).getLsbD i = _
  rw [s_l n hn, BitVec.getLsbD_shiftLeft]
  rcases Nat.lt_or_ge i n with h | h
  · simp [h, Nat.not_le.mpr h]
  · simp [hi, h, Nat.not_lt.mpr h]
theorem b_ushr (n : Nat) (hn : n < 32) (x : Int32) (i : Nat) : bt ((x.toUInt32 >>> ((nI n).toUInt32 &&& Int32.toUInt32 31)).toInt32) i = bt x (n + i) := by
  show (x.toUInt32 >>> ((nI n).toUInt32 &&& Int32.toUInt32 31)).toBitVec.getLsbD i = x.toUInt32.toBitVec.getLsbD (n + i)
  rw [UInt32.toBitVec_shiftRight]
  show (x.toUInt32.toBitVec >>> (((nI n).toUInt32 &&& Int32.toUInt32 31).toBitVec % 32).toNat).getLsbD i = _
  rw [s_u n hn, BitVec.getLsbD_ushiftRight]
theorem b_sshr (n : Nat) (hn : n < 32) (x : Int32) {i : Nat} (hi : i < 32) : bt (x >>> (nI n &&& 31)) i = if n + i < 32 then bt x (n + i) else bt x 31 := by
  unfold bt
  rw [Int32.toBitVec_shiftRight]
  show (x.toBitVec.sshiftRight ((nI n &&& 31).toBitVec.smod 32).toNat).getLsbD i = _
  rw [s_l n hn, BitVec.getLsbD_sshiftRight, BitVec.msb_eq_getLsbD_last]
  simp [hi]
/-- a set as the bits of an int -/
def one (p : Nat) : Int32 := (1 : Int32) <<< (nI p &&& 31)
def bs (n : Nat) (f : Nat → Bool) : Int32 := match n with
  | 0 => 0
  | k + 1 => if f k then bs k f ||| one k else bs k f
def setB (x : Int32) (p : Nat) (b : Bool) : Int32 := if b then x ||| one p else x &&& (one p ^^^ (-1))
theorem bt_one {p i : Nat} (hp : p < 32) (hi : i < 32) : bt (one p) i = decide (i = p) := by
  have h : ∀ p, p < 32 → ∀ i, i < 32 → bt (one p) i = decide (i = p) := by decide +kernel
  exact h p hp i hi
theorem bt_bs (f : Nat → Bool) : ∀ (n : Nat), n ≤ 32 → ∀ i, i < 32 → bt (bs n f) i = (decide (i < n) && f i) := by
  intro n
  induction n with
  | zero => intro _ i _; simp [bs, b_0]
  | succ k ih =>
    intro hk i hi
    rw [bs]
    have h1 := ih (by omega) i hi
    by_cases e : i = k
    · subst e
      split
      · rw [b_or, h1, bt_one hi hi]
        simp_all
      · rw [h1]
        simp_all
    · have h2 : decide (i < k + 1) = decide (i < k) := by
        by_cases h3 : i < k
        · simp [h3]; omega
        · simp [h3]; omega
      split
      · rw [b_or, h1, bt_one (by omega) hi, h2]
        simp [e]
      · rw [h1, h2]
theorem bt_setB {x : Int32} {p i : Nat} {b : Bool} (hp : p < 32) (hi : i < 32) : bt (setB x p b) i = if i = p then b else bt x i := by
  unfold setB
  cases b
  · simp only [Bool.false_eq_true, if_false]
    rw [b_and, b_xor, bt_one hp hi, b_m1 i hi]
    by_cases e : i = p <;> simp [e]
  · simp only [if_true]
    rw [b_or, bt_one hp hi]
    by_cases e : i = p <;> simp [e]
theorem setB_next (f : Nat → Bool) {p : Nat} (hp : p < 32) (b : Bool) (hb : b = f p) : setB (bs p f) p b = bs (p + 1) f := by
  refine b_ext fun i hi => ?_
  rw [bt_setB hp hi, bt_bs f p (by omega) i hi, bt_bs f (p + 1) (by omega) i hi, hb]
  by_cases e : i = p
  · subst e; simp
  · rw [if_neg e]
    congr 1
    by_cases h3 : i < p
    · simp [h3]; omega
    · simp [h3]; omega
theorem setB_in (f : Nat → Bool) {n p : Nat} (hp : p < n) (hn : n ≤ 32) (b : Bool) : setB (bs n f) p b = bs n (fun i => if i = p then b else f i) := by
  refine b_ext fun i hi => ?_
  rw [bt_setB (by omega) hi, bt_bs f n hn i hi, bt_bs _ n hn i hi]
  by_cases e : i = p
  · subst e; simp [hp]
  · simp [e]
theorem bs_congr {f g : Nat → Bool} : ∀ (n : Nat), (∀ i, i < n → f i = g i) → bs n f = bs n g := by
  intro n
  induction n with
  | zero => intro _; rfl
  | succ k ih =>
    intro h
    rw [bs, bs, h k (by omega), ih (fun i hi => h i (by omega))]
theorem tst_bit {x : Int32} {p : Nat} (hp : p < 32) : (x >>> (nI p &&& 31)) &&& 1 = if bt x p then 1 else 0 := by
  refine b_ext fun i hi => ?_
  rw [b_and, b_sshr p hp x hi]
  have h1 : bt 1 i = decide (i = 0) := by
    have h : ∀ i, i < 32 → bt 1 i = decide (i = 0) := by decide +kernel
    exact h i hi
  rw [h1]
  by_cases e : i = 0
  · subst e
    simp [hp]
    cases bt x p <;> decide
  · simp [e]
    cases bt x p
    · simp [b_0]
    · simp [h1, e]
end
section
-- 17.view
/-! what is heard and owed, over rows by numbers (as the state has them, but of all rows, and as one has moved now) -/
def cV (I : IM) : IM := fun a => match a with
  | 0 => I 2 | 1 => I 3 | 2 => I 5 | 3 => I 6 | 4 => I 7 | 5 => I 8 | 6 => I 9 | 7 => I 10 | 8 => I 11
  | 9 => I 12 | 10 => I 14 | 11 => I 15 | 12 => I 16 | 13 => I 17
  | 14 => I 19 | 15 => I 20 | 16 => I 21 | 17 => I 22 | _ => fun _ => 0
def bnd (x m : Int32) : Int32 := imax 0 (imin x m)
def startV (V : IM) (p : Nat) : Int32 := if V 9 p = -1 then V 3 p else V 9 p
def whereV (V : IM) (p : Nat) (t : Int32) : Int32 := whK (V 2 p) (startV V p) (V 5 p) t
def farV (V : IM) (s p : Nat) : Int32 := V 0 (cl (whereV V p (V 16 s)) * 6 + cl (V 15 s))
def nm6 (a b c d e f : Int32) : Nat → Int32 := fun j => match j with
  | 0 => a | 1 => b | 2 => c | 3 => d | 4 => e | 5 => f | _ => 0
def hearV (V : IM) (P : Nat → List Int32) (s p : Nat) : Int32 := hrK (V 2 p) (V 5 p) (bnd (valP (nm6 (V 17 s) (farV V s p) (V 4 p) 0 0 (V 1 (cl (V 16 s)))) (P 0)) 100) (V 17 s)
def PerV (V : IM) (p : Nat) : Prop := rng (V 2 p) 6 ∧ rng (V 3 p) 6 ∧ rng (V 5 p) 10 ∧ rng1 (V 9 p) 6
def SayV (V : IM) (s : Nat) : Prop := rng (V 14 s) 8 ∧ rng (V 15 s) 6 ∧ rng (V 16 s) 6
/-- the class holds the three programs of a text -/
def TxtC (I : IM) (P : Nat → List Int32) (t : Nat) : Prop := t < 6 ∧ ∀ j, j < 3 → ∃ a, I 32 (t * 4 + j) = nI a ∧ I 32 (t * 4 + j + 1) = nI (a + (P j).length) ∧ a + (P j).length ≤ 160 ∧ (∀ i, i < (P j).length → enc (I 31 (t * 160 + a + i)) = (P j).getD i 0) ∧ wfR (P j) 0 = some 1
theorem TxtC.fr {I I' : IM} {P : Nat → List Int32} {t : Nat} (h : TxtC I P t) (h1 : I' 32 = I 32) (h2 : I' 31 = I 31) : TxtC I' P t := by
  unfold TxtC
  rw [h1, h2]
  exact h
theorem runP_congr {nm nm' : Nat → Int32} (hn : ∀ j, j < 6 → nm j = nm' j) : ∀ (l st : List Int32) (h o : Nat), wfR l h = some o → runP nm l st = runP nm' l st := by
  intro l
  induction l with
  | nil => intro st h o _; rfl
  | cons c t ih =>
    intro st h o hw
    have e : stp nm c st = stp nm' c st := by
      unfold stp
      by_cases h1 : 100000 ≤ c
      · simp [h1]
      · simp only [h1, if_false]
        by_cases h2 : c < 11
        · simp only [h2, if_true]
          have h3 : 0 ≤ c ∧ c < 6 := by
            unfold wfR at hw
            by_cases h4 : (100000 ≤ c ∧ c < 110000) ∨ (0 ≤ c ∧ c < 6)
            · exact h4.elim (fun z => absurd z.1 h1) id
            · rw [if_neg h4] at hw
              by_cases h5 : c = 13 ∨ c = 19
              · rcases h5 with rfl | rfl <;> exact absurd h2 (by decide)
              · rw [if_neg h5] at hw
                by_cases h6 : c = 11 ∨ c = 12 ∨ (14 ≤ c ∧ c ≤ 18)
                · rcases h6 with rfl | rfl | h6
                  · exact absurd h2 (by decide)
                  · exact absurd h2 (by decide)
                  · exact absurd (Int32.lt_of_lt_of_le h2 (by decide : (11 : Int32) ≤ 14)) (Int32.not_lt.mpr h6.1)
                · rw [if_neg h6] at hw
                  cases hw
          obtain ⟨k, hk, ek⟩ := rng_of (n := 6) rfl (by omega) h3.1 h3.2
          have e2 : cl c = k := by
            rw [ek]
            exact nI_clamp (by omega)
          rw [e2, hn k hk]
        · simp only [h2, if_false]
    rw [runP, runP, e]
    unfold wfR at hw
    split at hw
    · exact ih _ _ _ hw
    · split at hw
      · split at hw
        · exact ih _ _ _ hw
        · cases hw
      · split at hw
        · split at hw
          · exact ih _ _ _ hw
          · cases hw
        · cases hw
theorem valP_congr {nm nm' : Nat → Int32} {l : List Int32} {h o : Nat} (hn : ∀ j, j < 6 → nm j = nm' j) (hw : wfR l h = some o) : valP nm l = valP nm' l := by
  unfold valP
  rw [runP_congr hn l [] h o hw]
theorem where_rng {V : IM} {p m : Nat} (h : PerV V p) (hm : m < 6) : ∃ w, w < 6 ∧ whereV V p (nI m) = nI w := by
  obtain ⟨⟨k, hk, ek⟩, ⟨ho, hho, eho⟩, ⟨mo, hmo, emo⟩, hmv⟩ := h
  have hst : ∃ b, b < 6 ∧ startV V p = nI b := by
    unfold startV
    split
    · exact ⟨ho, hho, eho⟩
    · rename_i q
      rcases hmv with e | ⟨b, hb, e⟩
      · exact absurd e q
      · exact ⟨b, hb, e⟩
  obtain ⟨b, hb, eb⟩ := hst
  unfold whereV whK
  rw [eb]
  split
  · split
    · exact ⟨0, by omega, rfl⟩
    · have hd : ∃ d, 1 ≤ d ∧ d < 11 ∧ imax 1 (V 5 p) = nI d := by
        rw [emo]
        by_cases h1 : 1 ≤ mo
        · exact ⟨mo, h1, by omega, imax1n h1 (by omega)⟩
        · obtain rfl : mo = 0 := by omega
          exact ⟨1, by omega, by omega, rfl⟩
      obtain ⟨d, hd1, hd2, ed⟩ := hd
      rw [ed, pk_div (by omega) (by omega) (by omega), nI_add]
      exact ⟨(b + m / d) % 6, Nat.mod_lt _ (by omega), pk_rem (d := 6) (by have : m / d ≤ m := Nat.div_le_self _ _; omega) (by omega) (by omega)⟩
  · exact ⟨b, hb, rfl⟩
theorem cl_nI {k : Nat} (h : k < 2 ^ 31) : cl (nI k) = k := nI_clamp h
end
section
-- 18.listen
/-! who hears how well: the class -/
def sp_Ledger_setClear : SpT := fun as S I L Post => ∃ (s p : Nat) (v : Int32) (b : Bool), as = [.ref 35, .int (nI s), .int (nI p), .int v] ∧ S = S1 ∧ s < 11 ∧ ((v = 1 ∧ b = true) ∨ (v = 0 ∧ b = false)) ∧ Post none S1 (up2 I 37 s (setB (I 37 s) p b)) L
set_option maxHeartbeats 4000000 in
set_option maxRecDepth 100000 in
theorem c_Ledger_setClear : Con mLedger_setClear 2 0 0 sp_Ledger_setClear := by
  refine con_of_X rfl fun G as S I L Post hs => ?_
  obtain ⟨s, p, v, b, rfl, rfl, hs, hb, h1⟩ := hs
  refine ⟨0, Nat.le_of_ble_eq_true rfl, ?_⟩
  show X mLedger_setClear G _ S1 I L 0 [.ref 35, .int (nI s), .int (nI p), .int v] [] Post
  rcases hb with ⟨rfl, rfl⟩ | ⟨rfl, rfl⟩
  · refine x_aload_n dLedger_setClear_0 rfl ?_
    refine x_getR fl_Ledger_19 rfl dLedger_setClear_1 rfl rfl rfl ?_
    refine x_iload_n dLedger_setClear_4 rfl ?_
    refine x_iload_n dLedger_setClear_5 rfl ?_
    -- at 6: .ifCond .eq 16
    refine x_if_eq (tgt := 22) dLedger_setClear_6 (by decide) (fun h => absurd h (by decide)) (fun _ => ?_)
    refine x_aload_n dLedger_setClear_9 rfl ?_
    refine x_getR fl_Ledger_19 rfl dLedger_setClear_10 rfl rfl rfl ?_
    refine x_iload_n dLedger_setClear_13 rfl ?_
    refine x_ialdJ dLedger_setClear_14 rfl rfl rfl (by omega) ?_
    refine x_iconst (v := 1) dLedger_setClear_15 rfl ?_
    refine x_iload_n dLedger_setClear_16 rfl ?_
    refine x_ishl dLedger_setClear_17 ?_
    refine x_ior dLedger_setClear_18 ?_
    refine x_goto (tgt := 34) dLedger_setClear_19 (by decide) ?_
    refine x_iastJ dLedger_setClear_34 rfl rfl rfl (by omega) ?_
    -- at 35: .return_
    refine x_return dLedger_setClear_35 rfl ?_
    exact h1
  · refine x_aload_n dLedger_setClear_0 rfl ?_
    refine x_getR fl_Ledger_19 rfl dLedger_setClear_1 rfl rfl rfl ?_
    refine x_iload_n dLedger_setClear_4 rfl ?_
    refine x_iload_n dLedger_setClear_5 rfl ?_
    -- at 6: .ifCond .eq 16
    refine x_if_eq (tgt := 22) dLedger_setClear_6 (by decide) (fun _ => ?_) (fun h => absurd (by decide) h)
    refine x_aload_n dLedger_setClear_22 rfl ?_
    refine x_getR fl_Ledger_19 rfl dLedger_setClear_23 rfl rfl rfl ?_
    refine x_iload_n dLedger_setClear_26 rfl ?_
    refine x_ialdJ dLedger_setClear_27 rfl rfl rfl (by omega) ?_
    refine x_iconst (v := 1) dLedger_setClear_28 rfl ?_
    refine x_iload_n dLedger_setClear_29 rfl ?_
    refine x_ishl dLedger_setClear_30 ?_
    refine x_iconst (v := -1) dLedger_setClear_31 rfl ?_
    refine x_ixor dLedger_setClear_32 ?_
    refine x_iand dLedger_setClear_33 ?_
    refine x_iastJ dLedger_setClear_34 rfl rfl rfl (by omega) ?_
    -- at 35: .return_
    refine x_return dLedger_setClear_35 rfl ?_
    exact h1
def sp_Ledger_listenOne : SpT := fun as S I L Post => ∃ (s p t : Nat) (P : Nat → List Int32), as = [.ref 35, .int (nI s), .int (nI p)] ∧ S = S1 ∧ s < 11 ∧ p < 8 ∧ SayV (cV I) s ∧ PerV (cV I) p ∧ I 35 5 = nI t ∧ TxtC I P t ∧
  ∀ I' : IM, Fr [33, 34, 36, 37] I I' → I' 36 = up1 (I 36) (s * 8 + p) (hearV (cV I) P s p) → I' 37 = up1 (I 37) s (setB (I 37 s) p (decide (50 ≤ hearV (cV I) P s p))) → Post none S1 I' L
set_option maxHeartbeats 4000000 in
set_option maxRecDepth 100000 in
theorem c_Ledger_listenOne : Con mLedger_listenOne 4 0 0 sp_Ledger_listenOne := by
  refine con_of_X rfl fun G as S I L Post hs => ?_
  obtain ⟨s, p, t, P, rfl, rfl, hs, hp, ⟨hq, ⟨u, hu, eu⟩, ⟨m, hm, em⟩⟩, hper, ht, hT, h1⟩ := hs
  have eu : I 20 s = nI u := eu
  have em : I 21 s = nI m := em
  obtain ⟨w, hw, ew⟩ := where_rng hper hm
  obtain ⟨k, hk, ek⟩ := hper.1
  have ek : I 5 p = nI k := ek
  refine ⟨3, Nat.le_of_ble_eq_true rfl, ?_⟩
  show X mLedger_listenOne G _ S1 I L 0 [.ref 35, .int (nI s), .int (nI p), .null, .null, .null] [] Post
  refine x_aload_n dLedger_listenOne_0 rfl ?_
  refine x_getR fl_Ledger_55 rfl dLedger_listenOne_1 rfl rfl rfl ?_
  refine x_getR fl_Ledger_85 rfl dLedger_listenOne_4 rfl rfl rfl ?_
  refine x_iload_n dLedger_listenOne_7 rfl ?_
  refine x_ialdJ dLedger_listenOne_8 rfl rfl rfl (by omega) ?_
  -- at 9: .istore_n 3
  rw [em]
  refine x_istoren_3 dLedger_listenOne_9 rfl rfl ?_
  refine x_aload_n dLedger_listenOne_10 rfl ?_
  refine x_getR fl_Ledger_59 rfl dLedger_listenOne_11 rfl rfl rfl ?_
  -- at 14: .invokevirtual 88
  refine x_callV_0 c_Texts_giveNothing ok_Texts_giveNothing ml_Ledger_88 dLedger_listenOne_14 rfl rfl rfl rfl rfl ?_
  refine ⟨rfl, rfl, fun I1 hF1 hz => ?_⟩
  refine x_aload_n dLedger_listenOne_17 rfl ?_
  refine x_getR fl_Ledger_59 rfl dLedger_listenOne_18 rfl rfl rfl ?_
  refine x_getR fl_Ledger_93 rfl dLedger_listenOne_21 rfl rfl rfl ?_
  refine x_iconst (v := 0) dLedger_listenOne_24 rfl ?_
  refine x_aload_n dLedger_listenOne_25 rfl ?_
  refine x_getR fl_Ledger_55 rfl dLedger_listenOne_26 rfl rfl rfl ?_
  refine x_getR fl_Ledger_96 rfl dLedger_listenOne_29 rfl rfl rfl ?_
  refine x_iload_n dLedger_listenOne_32 rfl ?_
  -- at 33: .iaload
  refine x_ialdJ dLedger_listenOne_33 rfl rfl rfl (by omega) ?_
  -- at 34: .iastore
  rw [hF1 22 (by decide)]
  refine x_iastJ (j := 0) dLedger_listenOne_34 rfl rfl (by first | rfl | (simp only [← nI_add, ← pk_mul]; rfl)) (by omega) ?_
  -- at 35: .aload_n 0
  have f5 := hF1 5 (by decide)
  have f6 := hF1 6 (by decide)
  have f12 := hF1 12 (by decide)
  have f8 := hF1 8 (by decide)
  have f7 := hF1 7 (by decide)
  have f2 := hF1 2 (by decide)
  have f3 := hF1 3 (by decide)
  have f20 := hF1 20 (by decide)
  have f22 := hF1 22 (by decide)
  have f35 := hF1 35 (by decide)
  have f36 := hF1 36 (by decide)
  have f37 := hF1 37 (by decide)
  refine x_aload_n dLedger_listenOne_35 rfl ?_
  refine x_getR fl_Ledger_59 rfl dLedger_listenOne_36 rfl rfl rfl ?_
  refine x_getR fl_Ledger_93 rfl dLedger_listenOne_39 rfl rfl rfl ?_
  refine x_iconst (v := 1) dLedger_listenOne_42 rfl ?_
  refine x_aload_n dLedger_listenOne_43 rfl ?_
  refine x_getR fl_Ledger_43 rfl dLedger_listenOne_44 rfl rfl rfl ?_
  refine x_aload_n dLedger_listenOne_47 rfl ?_
  refine x_getR fl_Ledger_47 rfl dLedger_listenOne_48 rfl rfl rfl ?_
  refine x_iload_n dLedger_listenOne_51 rfl ?_
  refine x_iload_n dLedger_listenOne_52 rfl ?_
  -- at 53: .invokevirtual 99
  refine x_callV_2 c_Folk_placeOf ok_Folk_placeOf ml_Ledger_99 dLedger_listenOne_53 rfl rfl rfl rfl rfl ?_
  refine ⟨p, k, nI m, rfl, rfl, hp, ?_, hk, ?_⟩
  · simp only [up2_n, up2_s, ne_eq, Nat.reduceEqDiff, not_false_eq_true, f5]
    exact ek
  refine x_eqi (y := nI w) (by rw [← ew]; unfold cStart whereV startV; simp only [up2_n, up2_s, ne_eq, Nat.reduceEqDiff, not_false_eq_true, f5, f6, f12, f8, cV]; rw [ek]) ?_
  refine x_aload_n dLedger_listenOne_56 rfl ?_
  refine x_getR fl_Ledger_55 rfl dLedger_listenOne_57 rfl rfl rfl ?_
  refine x_getR fl_Ledger_103 rfl dLedger_listenOne_60 rfl rfl rfl ?_
  refine x_iload_n dLedger_listenOne_63 rfl ?_
  refine x_ialdJ dLedger_listenOne_64 rfl rfl rfl (by omega) ?_
  -- at 65: .invokevirtual 106
  simp only [up2_n, up2_s, ne_eq, Nat.reduceEqDiff, not_false_eq_true, f20, eu]
  refine x_callV_2 c_Town_between ok_Town_between ml_Ledger_106 dLedger_listenOne_65 rfl rfl rfl rfl rfl ?_
  refine ⟨w, u, rfl, rfl, hw, hu, ?_⟩
  simp only [up2_n, up2_s, ne_eq, Nat.reduceEqDiff, not_false_eq_true, f2]
  refine x_iastJ (j := 1) dLedger_listenOne_68 rfl rfl (by first | rfl | (simp only [← nI_add, ← pk_mul]; rfl)) (by omega) ?_
  -- at 69: .aload_n 0
  refine x_aload_n dLedger_listenOne_69 rfl ?_
  refine x_getR fl_Ledger_59 rfl dLedger_listenOne_70 rfl rfl rfl ?_
  refine x_getR fl_Ledger_93 rfl dLedger_listenOne_73 rfl rfl rfl ?_
  refine x_iconst (v := 2) dLedger_listenOne_76 rfl ?_
  refine x_aload_n dLedger_listenOne_77 rfl ?_
  refine x_getR fl_Ledger_47 rfl dLedger_listenOne_78 rfl rfl rfl ?_
  refine x_getR fl_Ledger_111 rfl dLedger_listenOne_81 rfl rfl rfl ?_
  refine x_iload_n dLedger_listenOne_84 rfl ?_
  refine x_ialdJ dLedger_listenOne_85 rfl rfl rfl (by omega) ?_
  -- at 86: .iastore
  simp only [up2_n, up2_s, ne_eq, Nat.reduceEqDiff, not_false_eq_true, f7]
  refine x_iastJ (j := 2) dLedger_listenOne_86 rfl rfl (by first | rfl | (simp only [← nI_add, ← pk_mul]; rfl)) (by omega) ?_
  -- at 87: .aload_n 0
  refine x_aload_n dLedger_listenOne_87 rfl ?_
  refine x_getR fl_Ledger_59 rfl dLedger_listenOne_88 rfl rfl rfl ?_
  refine x_getR fl_Ledger_93 rfl dLedger_listenOne_91 rfl rfl rfl ?_
  refine x_iconst (v := 5) dLedger_listenOne_94 rfl ?_
  refine x_aload_n dLedger_listenOne_95 rfl ?_
  refine x_getR fl_Ledger_43 rfl dLedger_listenOne_96 rfl rfl rfl ?_
  refine x_getR fl_Ledger_114 rfl dLedger_listenOne_99 rfl rfl rfl ?_
  refine x_iload_n dLedger_listenOne_102 rfl ?_
  refine x_ialdJ dLedger_listenOne_103 rfl rfl rfl (by omega) ?_
  -- at 104: .iastore
  simp only [up2_n, up2_s, ne_eq, Nat.reduceEqDiff, not_false_eq_true, f3]
  refine x_iastJ (j := 5) dLedger_listenOne_104 rfl rfl (by first | rfl | (simp only [← nI_add, ← pk_mul]; rfl)) (by omega) ?_
  -- at 105: .aload_n 0
  refine x_aload_n dLedger_listenOne_105 rfl ?_
  refine x_getR fl_Ledger_59 rfl dLedger_listenOne_106 rfl rfl rfl ?_
  refine x_aload_n dLedger_listenOne_109 rfl ?_
  refine x_getI fl_Ledger_9 rfl dLedger_listenOne_110 rfl rfl ?_
  refine x_iconst (v := 0) dLedger_listenOne_113 rfl ?_
  -- at 114: .invokevirtual 117
  simp only [up2_n, up2_s, ne_eq, Nat.reduceEqDiff, not_false_eq_true, f35]
  rw [ht]
  have hT2 := hT.fr (I' := up2 (up2 (up2 (up2 I1 33 0 (I 22 s)) 33 1 (I 2 (w * 6 + u))) 33 2 (I 7 p)) 33 5 (I 3 m)) (by simp only [up2_n, up2_s, ne_eq, Nat.reduceEqDiff, not_false_eq_true, hF1 32 (by decide)]) (by simp only [up2_n, up2_s, ne_eq, Nat.reduceEqDiff, not_false_eq_true, hF1 31 (by decide)])
  obtain ⟨a, ha, hb, hab, hc, hwf⟩ := hT2.2 0 (by omega)
  have eV : valP (up2 (up2 (up2 (up2 I1 33 0 (I 22 s)) 33 1 (I 2 (w * 6 + u))) 33 2 (I 7 p)) 33 5 (I 3 m) 33) (P 0) = valP (nm6 (cV I 17 s) (farV (cV I) s p) (cV I 4 p) 0 0 (cV I 1 (cl (cV I 16 s)))) (P 0) := by
    refine valP_congr (h := 0) (o := 1) (fun j hj => ?_) hwf
    simp only [up2_n, up2_s, ne_eq, Nat.reduceEqDiff, not_false_eq_true]
    have e16 : cV I 16 s = nI m := em
    have e15 : cV I 15 s = nI u := eu
    have efar : farV (cV I) s p = I 2 (w * 6 + u) := by
      unfold farV
      rw [e16, e15, ew, cl_nI (by omega), cl_nI (by omega)]
      rfl
    rw [e16, cl_nI (by omega), efar]
    rcases (show j = 0 ∨ j = 1 ∨ j = 2 ∨ j = 3 ∨ j = 4 ∨ j = 5 by omega) with rfl | rfl | rfl | rfl | rfl | rfl <;> simp [up1, nm6, cV, hz]
  refine x_callV_2 c_Texts_value ok_Texts_value ml_Ledger_117 dLedger_listenOne_114 rfl rfl rfl rfl rfl ?_
  refine ⟨t, 0, a, P 0, rfl, rfl, hT.1, by omega, ha, hb, hab, hc, hwf, fun I2 hF2 => ?_⟩
  rw [eV]
  refine x_bipush (v := 100) dLedger_listenOne_117 rfl ?_
  -- at 119: .invokestatic 120
  refine x_callSN_2 c_W_bounded ok_W_bounded nw_Ledger_120 dLedger_listenOne_119 rfl rfl ?_
  refine ⟨_, _, rfl, ?_⟩
  refine x_istore_4 dLedger_listenOne_122 rfl rfl ?_
  refine x_aload_n dLedger_listenOne_124 rfl ?_
  refine x_getR fl_Ledger_47 rfl dLedger_listenOne_125 rfl rfl rfl ?_
  refine x_iload_n dLedger_listenOne_128 rfl ?_
  refine x_iload dLedger_listenOne_129 rfl ?_
  refine x_aload_n dLedger_listenOne_131 rfl ?_
  refine x_getR fl_Ledger_55 rfl dLedger_listenOne_132 rfl rfl rfl ?_
  refine x_getR fl_Ledger_96 rfl dLedger_listenOne_135 rfl rfl rfl ?_
  refine x_iload_n dLedger_listenOne_138 rfl ?_
  refine x_ialdJ dLedger_listenOne_139 rfl rfl rfl (by omega) ?_
  -- at 140: .invokevirtual 123
  have g22 : I2 22 s = I 22 s := by rw [hF2 22 (by decide)]; simp only [up2_n, up2_s, ne_eq, Nat.reduceEqDiff, not_false_eq_true, f22]
  rw [g22]
  refine x_callV_3 c_Folk_hearingOf ok_Folk_hearingOf ml_Ledger_123 dLedger_listenOne_140 rfl rfl rfl rfl rfl ?_
  refine ⟨p, _, _, rfl, rfl, hp, ?_⟩
  have g5 : I2 5 p = I 5 p := by rw [hF2 5 (by decide)]; simp only [up2_n, up2_s, ne_eq, Nat.reduceEqDiff, not_false_eq_true, f5]
  have g8 : I2 8 p = I 8 p := by rw [hF2 8 (by decide)]; simp only [up2_n, up2_s, ne_eq, Nat.reduceEqDiff, not_false_eq_true, f8]
  rw [g5, g8]
  refine x_eqi (y := hearV (cV I) P s p) rfl ?_
  generalize hH : hearV (cV I) P s p = hv at h1 ⊢
  refine x_istore_5 dLedger_listenOne_143 rfl rfl ?_
  refine x_aload_n dLedger_listenOne_145 rfl ?_
  refine x_getR fl_Ledger_15 rfl dLedger_listenOne_146 rfl rfl rfl ?_
  refine x_iload_n dLedger_listenOne_149 rfl ?_
  refine x_bipush (v := 8) dLedger_listenOne_150 rfl ?_
  refine x_imul dLedger_listenOne_152 ?_
  refine x_iload_n dLedger_listenOne_153 rfl ?_
  refine x_iadd dLedger_listenOne_154 ?_
  refine x_iload dLedger_listenOne_155 rfl ?_
  refine x_iastJ (j := s * 8 + p) dLedger_listenOne_157 rfl rfl (by first | rfl | (simp only [← nI_add, ← pk_mul]; rfl)) (by omega) ?_
  refine x_aload_n dLedger_listenOne_158 rfl ?_
  refine x_iload_n dLedger_listenOne_159 rfl ?_
  refine x_iload_n dLedger_listenOne_160 rfl ?_
  refine x_iload dLedger_listenOne_161 rfl ?_
  refine x_bipush (v := 50) dLedger_listenOne_163 rfl ?_
  -- at 165: .if_icmp .lt 7
  have fin : ∀ (v : Int32) (b : Bool), ((v = 1 ∧ b = true) ∨ (v = 0 ∧ b = false)) → b = decide (50 ≤ hv) → X mLedger_listenOne G (4, 0, 0) S1 (up2 I2 36 (s * 8 + p) hv) L 173 [.ref 35, .int (nI s), .int (nI p), .int (nI m), .int (bnd (valP (nm6 (cV I 17 s) (farV (cV I) s p) (cV I 4 p) 0 0 (cV I 1 (cl (cV I 16 s)))) (P 0)) 100), .int hv] [.int v, .int (nI p), .int (nI s), .ref 35] Post := by
    intro v b hvb hb
    refine x_callV_3 c_Ledger_setClear ok_Ledger_setClear ml_Ledger_127 dLedger_listenOne_173 rfl rfl rfl rfl rfl ?_
    refine ⟨s, p, v, b, rfl, rfl, hs, hvb, ?_⟩
    refine x_return dLedger_listenOne_176 rfl ?_
    refine h1 _ ?_ ?_ ?_
    · intro i hi
      simp only [List.mem_cons, List.not_mem_nil, or_false, not_or] at hi
      rw [up2_n _ _ _ (by omega), up2_n _ _ _ (by omega), hF2 i (by simp; omega), up2_n _ _ _ (by omega), up2_n _ _ _ (by omega), up2_n _ _ _ (by omega), up2_n _ _ _ (by omega), hF1 i (by simp; omega)]
    · simp only [up2_n, up2_s, ne_eq, Nat.reduceEqDiff, not_false_eq_true]
      rw [hF2 36 (by decide)]
      simp only [up2_n, up2_s, ne_eq, Nat.reduceEqDiff, not_false_eq_true, f36]
    · simp only [up2_n, up2_s, ne_eq, Nat.reduceEqDiff, not_false_eq_true]
      rw [hF2 37 (by decide)]
      simp only [up2_n, up2_s, ne_eq, Nat.reduceEqDiff, not_false_eq_true, f37]
      rw [hb]
  refine x_icmp_lt (tgt := 172) dLedger_listenOne_165 (by decide) (fun c1 => ?_) (fun c1 => ?_)
  · refine x_iconst (v := 0) dLedger_listenOne_172 rfl ?_
    -- at 173: .invokevirtual 127
    exact fin 0 false (Or.inr ⟨rfl, rfl⟩) (by simpa using c1)
  · refine x_iconst (v := 1) dLedger_listenOne_168 rfl ?_
    refine x_goto (tgt := 173) dLedger_listenOne_169 (by decide) ?_
    -- at 173: .invokevirtual 127
    exact fin 1 true (Or.inl ⟨rfl, rfl⟩) (by simpa using c1)
end
section
-- 19.listen2
theorem cV_fr {I I' : IM} (h : Fr cScr I I') : cV I' = cV I := by
  have e : ∀ k, k ∉ cScr → I' k = I k := h
  funext a
  unfold cV
  rw [e 2 (by decide), e 3 (by decide), e 5 (by decide), e 6 (by decide), e 7 (by decide), e 8 (by decide), e 9 (by decide), e 10 (by decide), e 11 (by decide), e 12 (by decide), e 14 (by decide), e 15 (by decide), e 16 (by decide), e 17 (by decide), e 19 (by decide), e 20 (by decide), e 21 (by decide), e 22 (by decide)]
def clF (V : IM) (P : Nat → List Int32) (s : Nat) : Nat → Bool := fun p => decide (50 ≤ hearV V P s p)
abbrev lScr : List Nat := [33, 34, 36, 37]
/-- what listening rests on -/
def LisOk (I : IM) (P : Nat → List Int32) (n : Nat) : Prop := I 4 8 = nI n ∧ n ≤ 8 ∧ (∀ p, p < n → PerV (cV I) p) ∧ ∃ t, I 35 5 = nI t ∧ TxtC I P t
theorem LisOk.fr {I I' : IM} {P : Nat → List Int32} {n : Nat} (h : LisOk I P n) (hF : Fr [33, 34, 36, 37, 38, 39, 40, 41, 42, 43, 44] I I') : LisOk I' P n := by
  obtain ⟨h1, h2, h3, t, h4, h5⟩ := h
  have e : cV I' = cV I := cV_fr (hF.wk (by decide))
  refine ⟨by rw [hF 4 (by decide)]; exact h1, h2, by rw [e]; exact h3, t, by rw [hF 35 (by decide)]; exact h4, h5.fr (hF _ (by decide)) (hF _ (by decide))⟩
/-- a SAYING was listened to by all -/
def HrdRow (V : IM) (P : Nat → List Int32) (n s : Nat) (I' : IM) : Prop := (∀ p, p < n → I' 36 (s * 8 + p) = hearV V P s p) ∧ I' 37 s = bs n (clF V P s)
def sp_Ledger_listenTo : SpT := fun as S I L Post => ∃ (s n : Nat) (P : Nat → List Int32), as = [.ref 35, .int (nI s)] ∧ S = S1 ∧ s < 11 ∧ SayV (cV I) s ∧ LisOk I P n ∧
  ∀ I' : IM, Fr lScr I I' → HrdRow (cV I) P n s I' → (∀ i, (i < s * 8 ∨ s * 8 + n ≤ i) → I' 36 i = I 36 i) → (∀ i, i ≠ s → I' 37 i = I 37 i) → Post none S1 I' L
set_option maxHeartbeats 4000000 in
set_option maxRecDepth 100000 in
theorem c_Ledger_listenTo : Con mLedger_listenTo 5 0 0 sp_Ledger_listenTo := by
  refine con_of_X rfl fun G as S I L Post hs => ?_
  obtain ⟨s, n, P, rfl, rfl, hs, hsv, hok, h1⟩ := hs
  refine ⟨1, Nat.le_of_ble_eq_true rfl, ?_⟩
  show X mLedger_listenTo G _ S1 I L 0 [.ref 35, .int (nI s), .null] [] Post
  refine x_aload_n dLedger_listenTo_0 rfl ?_
  refine x_getR fl_Ledger_19 rfl dLedger_listenTo_1 rfl rfl rfl ?_
  refine x_iload_n dLedger_listenTo_4 rfl ?_
  refine x_iconst (v := 0) dLedger_listenTo_5 rfl ?_
  refine x_iastJ dLedger_listenTo_6 rfl rfl rfl (by omega) ?_
  refine x_iconst (v := 0) dLedger_listenTo_7 rfl ?_
  refine x_istoren_2 dLedger_listenTo_8 rfl rfl ?_
  -- at 9: .iload_n 2
  have loop : ∀ (k i : Nat) (I' : IM), i + k = n → Fr lScr I I' → (∀ p, p < i → I' 36 (s * 8 + p) = hearV (cV I) P s p) → I' 37 s = bs i (clF (cV I) P s) → (∀ j, (j < s * 8 ∨ s * 8 + n ≤ j) → I' 36 j = I 36 j) → (∀ j, j ≠ s → I' 37 j = I 37 j) →
      X mLedger_listenTo G (5, 0, 0) S1 I' L 9 [.ref 35, .int (nI s), .int (nI i)] [] Post := by
    have hn8 := hok.2.1
    intro k
    induction k with
    | zero =>
      intro i I' hi hF hh hcl hho hco
      obtain rfl : i = n := by omega
      refine x_iload_n dLedger_listenTo_9 rfl ?_
      refine x_aload_n dLedger_listenTo_10 rfl ?_
      refine x_getR fl_Ledger_47 rfl dLedger_listenTo_11 rfl rfl rfl ?_
      refine x_getI fl_Ledger_82 rfl dLedger_listenTo_14 rfl rfl ?_
      -- at 17: .if_icmp .ge 15
      rw [hF 4 (by decide), hok.1]
      refine x_icmp_ge (tgt := 32) dLedger_listenTo_17 (by decide) (fun _ => ?_) (fun h => absurd (Int32.le_refl _) h)
      refine x_return dLedger_listenTo_32 rfl ?_
      exact h1 I' hF ⟨hh, hcl⟩ hho hco
    | succ k ih =>
      intro i I' hi hF hh hcl hho hco
      have hok' : LisOk I' P n := hok.fr (hF.wk (by decide))
      have eV : cV I' = cV I := cV_fr (hF.wk (by decide))
      refine x_iload_n dLedger_listenTo_9 rfl ?_
      refine x_aload_n dLedger_listenTo_10 rfl ?_
      refine x_getR fl_Ledger_47 rfl dLedger_listenTo_11 rfl rfl rfl ?_
      refine x_getI fl_Ledger_82 rfl dLedger_listenTo_14 rfl rfl ?_
      -- at 17: .if_icmp .ge 15
      rw [hF 4 (by decide), hok.1]
      refine x_icmp_ge (tgt := 32) dLedger_listenTo_17 (by decide) (fun h => absurd h (nI_ge (b := n) (by omega) (by omega))) (fun _ => ?_)
      refine x_aload_n dLedger_listenTo_20 rfl ?_
      refine x_iload_n dLedger_listenTo_21 rfl ?_
      refine x_iload_n dLedger_listenTo_22 rfl ?_
      -- at 23: .invokevirtual 78
      refine x_callV_2 c_Ledger_listenOne ok_Ledger_listenOne ml_Ledger_78 dLedger_listenTo_23 rfl rfl rfl rfl rfl ?_
      obtain ⟨t, ht, hT⟩ := hok'.2.2.2
      refine ⟨s, i, t, P, rfl, rfl, hs, by omega, by rw [eV]; exact hsv, hok'.2.2.1 i (by omega), ht, hT, fun I2 hF2 e36 e37 => ?_⟩
      rw [eV] at e36 e37
      refine x_iincp_2 dLedger_listenTo_26 rfl rfl ?_
      refine x_goto (tgt := 9) dLedger_listenTo_29 (by decide) ?_
      -- at 9: .iload_n 2
      rw [nI_1]
      refine ih (i + 1) I2 (by omega) (hF.tr hF2) (fun p hp => ?_) ?_ (fun j hj => ?_) (fun j hj => ?_)
      · rw [e36]
        by_cases e : p = i
        · subst e; simp [up1]
        · rw [up1, if_neg (by omega)]
          exact hh p (by omega)
      · rw [e37, up1, if_pos rfl, hcl]
        exact setB_next _ (by omega) _ rfl
      · rw [e36, up1, if_neg (by omega)]
        exact hho j hj
      · rw [e37, up1, if_neg hj]
        exact hco j hj
  refine loop n 0 _ (by omega) (Fr.rfl.up (by decide) _ _) (fun p hp => absurd hp (Nat.not_lt_zero p)) ?_ (fun j _ => ?_) (fun j hj => ?_)
  · simp only [up2_n, up2_s, ne_eq, Nat.reduceEqDiff, not_false_eq_true]
    simp [up1, bs]
  · simp only [up2_n, up2_s, ne_eq, Nat.reduceEqDiff, not_false_eq_true]
  · simp only [up2_n, up2_s, ne_eq, Nat.reduceEqDiff, not_false_eq_true]
    simp [up1, hj]
/-- the SAYINGS of the first m rows were listened to -/
def Hrd (V : IM) (P : Nat → List Int32) (n m : Nat) (I' : IM) : Prop := ∀ s, s < m → HrdRow V P n s I'
/-- PEOPLE that listening rests on -/
def PplOk (I : IM) (n : Nat) : Prop := I 4 8 = nI n ∧ n ≤ 8 ∧ ∀ p, p < n → PerV (cV I) p
theorem PplOk.lis {I : IM} {P : Nat → List Int32} {n t : Nat} (h : PplOk I n) (hT : TxtC I P t) : LisOk (up2 I 35 5 (nI t)) P n := by
  refine ⟨by simp only [up2_n, up2_s, ne_eq, Nat.reduceEqDiff, not_false_eq_true]; exact h.1, h.2.1, ?_, t, by rw [up2_s]; rfl, hT.fr (by simp only [up2_n, up2_s, ne_eq, Nat.reduceEqDiff, not_false_eq_true]) (by simp only [up2_n, up2_s, ne_eq, Nat.reduceEqDiff, not_false_eq_true])⟩
  rw [cV_fr (Fr.rfl.up (by decide) _ _)]
  exact h.2.2
theorem PplOk.lis2 {I : IM} {P : Nat → List Int32} {n t : Nat} (h : PplOk I n) (ht : I 35 5 = nI t) (hT : TxtC I P t) : LisOk I P n := ⟨h.1, h.2.1, h.2.2, t, ht, hT⟩
theorem PplOk.fr {I I' : IM} {n : Nat} (h : PplOk I n) (hF : Fr cScr I I') : PplOk I' n := by
  unfold PplOk
  rw [cV_fr hF, hF 4 (by decide)]
  exact h
def sp_Ledger_listen : SpT := fun as S I L Post => ∃ (t m n : Nat) (P : Nat → List Int32), as = [.ref 35, .int (nI t)] ∧ S = S1 ∧ I 18 4 = nI m ∧ m ≤ 10 ∧ (∀ s, s < m → SayV (cV I) s) ∧ PplOk I n ∧ TxtC I P t ∧
  ∀ I' : IM, Fr [33, 34, 35, 36, 37] I I' → I' 35 5 = nI t → Hrd (cV I) P n m I' → Post none S1 I' L
set_option maxHeartbeats 4000000 in
set_option maxRecDepth 100000 in
theorem c_Ledger_listen : Con mLedger_listen 6 0 0 sp_Ledger_listen := by
  refine con_of_X rfl fun G as S I L Post hs => ?_
  obtain ⟨t, m, n, P, rfl, rfl, hm, hm10, hsv, hpp, hT, h1⟩ := hs
  have hok := hpp.lis hT
  refine ⟨1, Nat.le_of_ble_eq_true rfl, ?_⟩
  show X mLedger_listen G _ S1 I L 0 [.ref 35, .int (nI t), .null] [] Post
  refine x_aload_n dLedger_listen_0 rfl ?_
  refine x_iload_n dLedger_listen_1 rfl ?_
  refine x_putI fl_Ledger_9 rfl dLedger_listen_2 (by decide) rfl rfl rfl rfl ?_
  refine x_iconst (v := 0) dLedger_listen_5 rfl ?_
  refine x_istoren_2 dLedger_listen_6 rfl rfl ?_
  -- at 7: .iload_n 2
  have eI : cV (up2 I 35 5 (nI t)) = cV I := cV_fr (Fr.rfl.up (by decide) _ _)
  have loop : ∀ (k i : Nat) (I' : IM), i + k = m → Fr lScr (up2 I 35 5 (nI t)) I' → Hrd (cV I) P n i I' →
      X mLedger_listen G (6, 0, 0) S1 I' L 7 [.ref 35, .int (nI t), .int (nI i)] [] Post := by
    intro k
    induction k with
    | zero =>
      intro i I' hi hF hh
      obtain rfl : i = m := by omega
      refine x_iload_n dLedger_listen_7 rfl ?_
      refine x_aload_n dLedger_listen_8 rfl ?_
      refine x_getR fl_Ledger_55 rfl dLedger_listen_9 rfl rfl rfl ?_
      refine x_getI fl_Ledger_70 rfl dLedger_listen_12 rfl rfl ?_
      -- at 15: .if_icmp .ge 14
      rw [hF 18 (by decide)]
      simp only [up2_n, up2_s, ne_eq, Nat.reduceEqDiff, not_false_eq_true, hm]
      refine x_icmp_ge (tgt := 29) dLedger_listen_15 (by decide) (fun _ => ?_) (fun h => absurd (Int32.le_refl _) h)
      refine x_return dLedger_listen_29 rfl ?_
      refine h1 I' (fun j hj => ?_) ?_ hh
      · simp only [List.mem_cons, List.not_mem_nil, or_false, not_or] at hj
        rw [hF j (by simp; omega), up2_n _ _ _ (by omega)]
      · rw [hF 35 (by decide), up2_s]
        rfl
    | succ k ih =>
      intro i I' hi hF hh
      have hok' : LisOk I' P n := hok.fr (hF.wk (by decide))
      have eV : cV I' = cV I := (cV_fr (hF.wk (by decide))).trans eI
      refine x_iload_n dLedger_listen_7 rfl ?_
      refine x_aload_n dLedger_listen_8 rfl ?_
      refine x_getR fl_Ledger_55 rfl dLedger_listen_9 rfl rfl rfl ?_
      refine x_getI fl_Ledger_70 rfl dLedger_listen_12 rfl rfl ?_
      -- at 15: .if_icmp .ge 14
      rw [hF 18 (by decide)]
      simp only [up2_n, up2_s, ne_eq, Nat.reduceEqDiff, not_false_eq_true, hm]
      refine x_icmp_ge (tgt := 29) dLedger_listen_15 (by decide) (fun h => absurd h (nI_ge (b := m) (by omega) (by omega))) (fun _ => ?_)
      refine x_aload_n dLedger_listen_18 rfl ?_
      refine x_iload_n dLedger_listen_19 rfl ?_
      -- at 20: .invokevirtual 75
      refine x_callV_1 c_Ledger_listenTo ok_Ledger_listenTo ml_Ledger_75 dLedger_listen_20 rfl rfl rfl rfl rfl ?_
      refine ⟨i, n, P, rfl, rfl, by omega, by rw [eV]; exact hsv i (by omega), hok', fun I2 hF2 hr hho hco => ?_⟩
      rw [eV] at hr
      have hn8 := hok'.2.1
      refine x_iincp_2 dLedger_listen_23 rfl rfl ?_
      refine x_goto (tgt := 7) dLedger_listen_26 (by decide) ?_
      -- at 7: .iload_n 2
      rw [nI_1]
      refine ih (i + 1) I2 (by omega) (hF.tr hF2) (fun s hs => ?_)
      by_cases e : s = i
      · subst e; exact hr
      · obtain ⟨r1, r2⟩ := hh s (by omega)
        refine ⟨fun p hp => ?_, ?_⟩
        · rw [hho _ (by omega)]
          exact r1 p hp
        · rw [hco s e]
          exact r2
  exact loop m 0 _ (by omega) Fr.rfl (fun s hs => absurd hs (Nat.not_lt_zero s))
end
section
-- 20.bitcount
/-! how many bits: the JDK's bitCount over sets of eight -/
theorem x_ldcw {M : MI} {G : WG} {r : Nat × Nat × Nat} {S : Shp} {I : IM} {L : LM} {pc : Nat} {loc rest : List Value} {Post : PostT} {i : Nat} {v : Int32} (hd : decode (mcc M) pc = .ok (.ldc_w i, 3)) (hw : Cond.constant (my M).cls i v ∈ lwT) (k : X M G r S I L (pc + 3) loc (.int v :: rest) Post) : X M G r S I L pc loc rest Post := by
  intro p l e R s m args below meth c Q B H locs cells slots ls hc hs hR hS hL
  exact lv_ldcw B.1.1 B.1.2.1 B.1.2.2.2.1 (B.1.2.2.2.2.1 _ hw) hd (k p l e R s m args below meth c Q B H locs cells slots ls hc hs hR hS hL)
def onesR (x : Int32) (k : Nat) : Int32 := match k with
  | 0 => 0
  | j + 1 => onesR x j + ((x >>> (nI j &&& 31)) &&& 1)
def ush (x y : Int32) : Int32 := (x.toUInt32 >>> (y.toUInt32 &&& Int32.toUInt32 31)).toInt32
def bcE (x : Int32) : Int32 :=
  let a := x - (ush x 1 &&& 1431655765)
  let b := (a &&& 858993459) + (ush a 2 &&& 858993459)
  let c := (b + ush b 4) &&& 252645135
  let d := c + ush c 8
  (d + ush d 16) &&& 63
theorem bcE_256 : ∀ c, c < 256 → bcE (nI c) = onesR (nI c) 8 := by decide +kernel
def sp_Integer_bitCount : SpT := fun as S I L Post => ∃ c : Nat, as = [.int (nI c)] ∧ c < 256 ∧ Post (some (.int (onesR (nI c) 8))) S I L
set_option maxHeartbeats 4000000 in
set_option maxRecDepth 100000 in
theorem c_Integer_bitCount : Con mInteger_bitCount 2 0 0 sp_Integer_bitCount := by
  refine con_of_X rfl fun G as S I L Post hs => ?_
  obtain ⟨c, rfl, hc, h1⟩ := hs
  refine ⟨0, Nat.le_of_ble_eq_true rfl, ?_⟩
  show X mInteger_bitCount G _ S I L 0 [.int (nI c)] [] Post
  rw [← bcE_256 c hc] at h1
  refine x_iload_n dInteger_bitCount_0 rfl ?_
  refine x_iload_n dInteger_bitCount_1 rfl ?_
  refine x_iconst (v := 1) dInteger_bitCount_2 rfl ?_
  refine x_iushr dInteger_bitCount_3 ?_
  refine x_ldcw dInteger_bitCount_4 cn_Integer_265 ?_
  refine x_iand dInteger_bitCount_7 ?_
  refine x_isub dInteger_bitCount_8 ?_
  refine x_istoren_0 dInteger_bitCount_9 rfl rfl ?_
  refine x_iload_n dInteger_bitCount_10 rfl ?_
  refine x_ldcw dInteger_bitCount_11 cn_Integer_266 ?_
  refine x_iand dInteger_bitCount_14 ?_
  refine x_iload_n dInteger_bitCount_15 rfl ?_
  refine x_iconst (v := 2) dInteger_bitCount_16 rfl ?_
  refine x_iushr dInteger_bitCount_17 ?_
  refine x_ldcw dInteger_bitCount_18 cn_Integer_266 ?_
  refine x_iand dInteger_bitCount_21 ?_
  refine x_iadd dInteger_bitCount_22 ?_
  refine x_istoren_0 dInteger_bitCount_23 rfl rfl ?_
  refine x_iload_n dInteger_bitCount_24 rfl ?_
  refine x_iload_n dInteger_bitCount_25 rfl ?_
  refine x_iconst (v := 4) dInteger_bitCount_26 rfl ?_
  refine x_iushr dInteger_bitCount_27 ?_
  refine x_iadd dInteger_bitCount_28 ?_
  refine x_ldcw dInteger_bitCount_29 cn_Integer_267 ?_
  refine x_iand dInteger_bitCount_32 ?_
  refine x_istoren_0 dInteger_bitCount_33 rfl rfl ?_
  refine x_iload_n dInteger_bitCount_34 rfl ?_
  refine x_iload_n dInteger_bitCount_35 rfl ?_
  refine x_bipush (v := 8) dInteger_bitCount_36 rfl ?_
  refine x_iushr dInteger_bitCount_38 ?_
  refine x_iadd dInteger_bitCount_39 ?_
  refine x_istoren_0 dInteger_bitCount_40 rfl rfl ?_
  refine x_iload_n dInteger_bitCount_41 rfl ?_
  refine x_iload_n dInteger_bitCount_42 rfl ?_
  refine x_bipush (v := 16) dInteger_bitCount_43 rfl ?_
  refine x_iushr dInteger_bitCount_45 ?_
  refine x_iadd dInteger_bitCount_46 ?_
  refine x_istoren_0 dInteger_bitCount_47 rfl rfl ?_
  refine x_iload_n dInteger_bitCount_48 rfl ?_
  refine x_bipush (v := 63) dInteger_bitCount_49 rfl ?_
  refine x_iand dInteger_bitCount_51 ?_
  -- at 52: .ireturn
  refine x_ireturn dInteger_bitCount_52 rfl rfl ?_
  exact h1
theorem bs_nat (f : Nat → Bool) {n : Nat} (hn : n ≤ 8) : ∃ c, c < 256 ∧ bs n f = nI c := by
  refine ⟨(bs n f).toBitVec.toNat % 2 ^ 8, Nat.mod_lt _ (by decide), ?_⟩
  have h := pk_and (bs n f) (m := 255) 8 (by decide)
  rw [← h]
  refine b_ext fun i hi => ?_
  have h2 : ∀ i, i < 32 → bt 255 i = decide (i < 8) := by decide +kernel
  rw [b_and, h2 i hi, bt_bs f n (by omega) i hi]
  by_cases e : i < n
  · have : i < 8 := by omega
    simp [e, this]
  · simp [e]
end
section
-- 21.share
/-! what one owes by a saying: the class -/
def canV (V : IM) (p q : Nat) : Bool := decide ((V 6 p >>> (V 10 q &&& 31)) &&& 1 = 1)
def shareV (V : IM) (P : Nat → List Int32) (c : Int32) (s p : Nat) : Int32 :=
  if bt c p = true ∧ ¬ V 2 p = 4 then bnd (valP (nm6 (V 17 s) 0 0 (V 11 (cl (V 14 s))) (onesR c 8) (if canV V p (cl (V 14 s)) then 1 else 0)) (P 1)) 99 else 0
def sp_Ledger_shareOf : SpT := fun as S I L Post => ∃ (s p t c : Nat) (P : Nat → List Int32), as = [.ref 35, .int (nI s), .int (nI p)] ∧ S = S1 ∧ s < 11 ∧ p < 8 ∧ SayV (cV I) s ∧ I 37 s = nI c ∧ c < 256 ∧ I 35 5 = nI t ∧ TxtC I P t ∧
  ∀ I' : IM, Fr [33, 34] I I' → Post (some (.int (shareV (cV I) P (I 37 s) s p))) S1 I' L
set_option maxHeartbeats 4000000 in
set_option maxRecDepth 100000 in
theorem c_Ledger_shareOf : Con mLedger_shareOf 4 0 0 sp_Ledger_shareOf := by
  refine con_of_X rfl fun G as S I L Post hs => ?_
  obtain ⟨s, p, t, c, P, rfl, rfl, hs, hp, ⟨⟨q, hq, eq⟩, -, -⟩, ec, hc, ht, hT, h1⟩ := hs
  have eq : I 19 s = nI q := eq
  have eq2 : cl (cV I 14 s) = q := by
    rw [show cV I 14 s = nI q from eq]
    exact cl_nI (by omega)
  refine ⟨1, Nat.le_of_ble_eq_true rfl, ?_⟩
  show X mLedger_shareOf G _ S1 I L 0 [.ref 35, .int (nI s), .int (nI p), .null] [] Post
  have none0 : ¬ (bt (I 37 s) p = true ∧ ¬ cV I 2 p = 4) → X mLedger_shareOf G (4, 0, 0) S1 I L 24 [.ref 35, .int (nI s), .int (nI p), .null] [] Post := by
    intro hn
    refine x_iconst (v := 0) dLedger_shareOf_24 rfl ?_
    -- at 25: .ireturn
    refine x_ireturn dLedger_shareOf_25 rfl rfl ?_
    have := h1 I Fr.rfl
    rw [shareV, if_neg hn] at this
    exact this
  refine x_aload_n dLedger_shareOf_0 rfl ?_
  refine x_getR fl_Ledger_19 rfl dLedger_shareOf_1 rfl rfl rfl ?_
  refine x_iload_n dLedger_shareOf_4 rfl ?_
  refine x_ialdJ dLedger_shareOf_5 rfl rfl rfl (by omega) ?_
  refine x_iload_n dLedger_shareOf_6 rfl ?_
  refine x_ishr dLedger_shareOf_7 ?_
  refine x_iconst (v := 1) dLedger_shareOf_8 rfl ?_
  refine x_iand dLedger_shareOf_9 ?_
  -- at 10: .ifCond .eq 14
  refine x_eqi (tst_bit (by omega)) ?_
  by_cases hb : bt (I 37 s) p = true
  · rw [if_pos hb]
    refine x_if_eq (tgt := 24) dLedger_shareOf_10 (by decide) (fun h => absurd h (by decide)) (fun _ => ?_)
    refine x_aload_n dLedger_shareOf_13 rfl ?_
    refine x_getR fl_Ledger_47 rfl dLedger_shareOf_14 rfl rfl rfl ?_
    refine x_iload_n dLedger_shareOf_17 rfl ?_
    -- at 18: .invokevirtual 140
    refine x_callV_1 c_Folk_isBound ok_Folk_isBound ml_Ledger_140 dLedger_shareOf_18 rfl rfl rfl rfl rfl ?_
    refine ⟨p, rfl, rfl, hp, fun hk => ?_, fun hk => ?_⟩
    · refine x_if_ne (tgt := 26) dLedger_shareOf_21 (by decide) (fun _ => ?_) (fun h => absurd h (by decide))
      refine x_aload_n dLedger_shareOf_26 rfl ?_
      refine x_getR fl_Ledger_55 rfl dLedger_shareOf_27 rfl rfl rfl ?_
      refine x_getR fl_Ledger_144 rfl dLedger_shareOf_30 rfl rfl rfl ?_
      refine x_iload_n dLedger_shareOf_33 rfl ?_
      refine x_ialdJ dLedger_shareOf_34 rfl rfl rfl (by omega) ?_
      -- at 35: .istore_n 3
      rw [eq]
      refine x_istoren_3 dLedger_shareOf_35 rfl rfl ?_
      refine x_aload_n dLedger_shareOf_36 rfl ?_
      refine x_getR fl_Ledger_59 rfl dLedger_shareOf_37 rfl rfl rfl ?_
      -- at 40: .invokevirtual 88
      refine x_callV_0 c_Texts_giveNothing ok_Texts_giveNothing ml_Ledger_88 dLedger_shareOf_40 rfl rfl rfl rfl rfl ?_
      refine ⟨rfl, rfl, fun I1 hF1 hz => ?_⟩
      have f22 := hF1 22 (by decide)
      have f15 := hF1 15 (by decide)
      have f14 := hF1 14 (by decide)
      have f37 := hF1 37 (by decide)
      have f35 := hF1 35 (by decide)
      have f9 := hF1 9 (by decide)
      refine x_aload_n dLedger_shareOf_43 rfl ?_
      refine x_getR fl_Ledger_59 rfl dLedger_shareOf_44 rfl rfl rfl ?_
      refine x_getR fl_Ledger_93 rfl dLedger_shareOf_47 rfl rfl rfl ?_
      refine x_iconst (v := 0) dLedger_shareOf_50 rfl ?_
      refine x_aload_n dLedger_shareOf_51 rfl ?_
      refine x_getR fl_Ledger_55 rfl dLedger_shareOf_52 rfl rfl rfl ?_
      refine x_getR fl_Ledger_96 rfl dLedger_shareOf_55 rfl rfl rfl ?_
      refine x_iload_n dLedger_shareOf_58 rfl ?_
      refine x_ialdJ dLedger_shareOf_59 rfl rfl rfl (by omega) ?_
      -- at 60: .iastore
      simp only [up2_n, up2_s, ne_eq, Nat.reduceEqDiff, not_false_eq_true, f22]
      refine x_iastJ (j := 0) dLedger_shareOf_60 rfl rfl (by first | rfl | (simp only [← nI_add, ← pk_mul]; rfl)) (by omega) ?_
      -- at 61: .aload_n 0
      refine x_aload_n dLedger_shareOf_61 rfl ?_
      refine x_getR fl_Ledger_59 rfl dLedger_shareOf_62 rfl rfl rfl ?_
      refine x_getR fl_Ledger_93 rfl dLedger_shareOf_65 rfl rfl rfl ?_
      refine x_iconst (v := 3) dLedger_shareOf_68 rfl ?_
      refine x_aload_n dLedger_shareOf_69 rfl ?_
      refine x_getR fl_Ledger_51 rfl dLedger_shareOf_70 rfl rfl rfl ?_
      refine x_getR fl_Ledger_147 rfl dLedger_shareOf_73 rfl rfl rfl ?_
      refine x_iload_n dLedger_shareOf_76 rfl ?_
      refine x_ialdJ dLedger_shareOf_77 rfl rfl rfl (by omega) ?_
      -- at 78: .iastore
      simp only [up2_n, up2_s, ne_eq, Nat.reduceEqDiff, not_false_eq_true, f15]
      refine x_iastJ (j := 3) dLedger_shareOf_78 rfl rfl (by first | rfl | (simp only [← nI_add, ← pk_mul]; rfl)) (by omega) ?_
      -- at 79: .aload_n 0
      refine x_aload_n dLedger_shareOf_79 rfl ?_
      refine x_getR fl_Ledger_59 rfl dLedger_shareOf_80 rfl rfl rfl ?_
      refine x_getR fl_Ledger_93 rfl dLedger_shareOf_83 rfl rfl rfl ?_
      refine x_iconst (v := 4) dLedger_shareOf_86 rfl ?_
      refine x_aload_n dLedger_shareOf_87 rfl ?_
      refine x_getR fl_Ledger_19 rfl dLedger_shareOf_88 rfl rfl rfl ?_
      refine x_iload_n dLedger_shareOf_91 rfl ?_
      refine x_ialdJ dLedger_shareOf_92 rfl rfl rfl (by omega) ?_
      -- at 93: .invokestatic 152
      simp only [up2_n, up2_s, ne_eq, Nat.reduceEqDiff, not_false_eq_true, f37]
      rw [ec]
      refine x_callS_1 c_Integer_bitCount ok_Integer_bitCount ml_Ledger_152 dLedger_shareOf_93 rfl rfl ?_
      refine ⟨c, rfl, hc, ?_⟩
      rw [← ec]
      refine x_iastJ (j := 4) dLedger_shareOf_96 rfl rfl (by first | rfl | (simp only [← nI_add, ← pk_mul]; rfl)) (by omega) ?_
      -- at 97: .aload_n 0
      refine x_aload_n dLedger_shareOf_97 rfl ?_
      refine x_getR fl_Ledger_59 rfl dLedger_shareOf_98 rfl rfl rfl ?_
      refine x_getR fl_Ledger_93 rfl dLedger_shareOf_101 rfl rfl rfl ?_
      refine x_iconst (v := 5) dLedger_shareOf_104 rfl ?_
      refine x_aload_n dLedger_shareOf_105 rfl ?_
      refine x_getR fl_Ledger_47 rfl dLedger_shareOf_106 rfl rfl rfl ?_
      refine x_iload_n dLedger_shareOf_109 rfl ?_
      refine x_aload_n dLedger_shareOf_110 rfl ?_
      refine x_getR fl_Ledger_51 rfl dLedger_shareOf_111 rfl rfl rfl ?_
      refine x_getR fl_Ledger_158 rfl dLedger_shareOf_114 rfl rfl rfl ?_
      refine x_iload_n dLedger_shareOf_117 rfl ?_
      refine x_ialdJ dLedger_shareOf_118 rfl rfl rfl (by omega) ?_
      -- at 119: .invokevirtual 161
      simp only [up2_n, up2_s, ne_eq, Nat.reduceEqDiff, not_false_eq_true, f14]
      have fin : ∀ (v : Int32), v = (if canV (cV I) p q then 1 else 0) → X mLedger_shareOf G (4, 0, 0) S1 (up2 (up2 (up2 I1 33 0 (I 22 s)) 33 3 (I 15 q)) 33 4 (onesR (I 37 s) 8)) L 130 [.ref 35, .int (nI s), .int (nI p), .int (nI q)] [.int v, .int 5, .ref 33] Post := by
        intro v hv
        refine x_iastJ (j := 5) dLedger_shareOf_130 rfl rfl (by first | rfl | (simp only [← nI_add, ← pk_mul]; rfl)) (by omega) ?_
        -- at 131: .aload_n 0
        refine x_aload_n dLedger_shareOf_131 rfl ?_
        refine x_getR fl_Ledger_59 rfl dLedger_shareOf_132 rfl rfl rfl ?_
        refine x_aload_n dLedger_shareOf_135 rfl ?_
        refine x_getI fl_Ledger_9 rfl dLedger_shareOf_136 rfl rfl ?_
        refine x_iconst (v := 1) dLedger_shareOf_139 rfl ?_
        -- at 140: .invokevirtual 117
        simp only [up2_n, up2_s, ne_eq, Nat.reduceEqDiff, not_false_eq_true, f35]
        rw [ht]
        have hT2 := hT.fr (I' := up2 (up2 (up2 (up2 I1 33 0 (I 22 s)) 33 3 (I 15 q)) 33 4 (onesR (I 37 s) 8)) 33 5 v) (by simp only [up2_n, up2_s, ne_eq, Nat.reduceEqDiff, not_false_eq_true, hF1 32 (by decide)]) (by simp only [up2_n, up2_s, ne_eq, Nat.reduceEqDiff, not_false_eq_true, hF1 31 (by decide)])
        obtain ⟨a, ha, hb2, hab, hc2, hwf⟩ := hT2.2 1 (by omega)
        refine x_callV_2 c_Texts_value ok_Texts_value ml_Ledger_117 dLedger_shareOf_140 rfl rfl rfl rfl rfl ?_
        refine ⟨t, 1, a, P 1, rfl, rfl, hT.1, by omega, ha, hb2, hab, hc2, hwf, fun I2 hF2 => ?_⟩
        have eV : valP (up2 (up2 (up2 (up2 I1 33 0 (I 22 s)) 33 3 (I 15 q)) 33 4 (onesR (I 37 s) 8)) 33 5 v 33) (P 1) = valP (nm6 (cV I 17 s) 0 0 (cV I 11 q) (onesR (I 37 s) 8) (if canV (cV I) p q then 1 else 0)) (P 1) := by
          refine valP_congr (h := 0) (o := 1) (fun j hj => ?_) hwf
          simp only [up2_n, up2_s, ne_eq, Nat.reduceEqDiff, not_false_eq_true]
          rcases (show j = 0 ∨ j = 1 ∨ j = 2 ∨ j = 3 ∨ j = 4 ∨ j = 5 by omega) with rfl | rfl | rfl | rfl | rfl | rfl <;> simp [up1, nm6, cV, hz, hv]
        rw [eV]
        refine x_bipush (v := 99) dLedger_shareOf_143 rfl ?_
        -- at 145: .invokestatic 120
        refine x_callSN_2 c_W_bounded ok_W_bounded nw_Ledger_120 dLedger_shareOf_145 rfl rfl ?_
        refine ⟨_, _, rfl, ?_⟩
        refine x_ireturn dLedger_shareOf_148 rfl rfl ?_
        have := h1 I2 (fun i hi => by
          simp only [List.mem_cons, List.not_mem_nil, or_false, not_or] at hi
          rw [hF2 i (by simp; omega), up2_n _ _ _ (by omega), up2_n _ _ _ (by omega), up2_n _ _ _ (by omega), up2_n _ _ _ (by omega), hF1 i (by simp; omega)])
        rw [shareV, if_pos ⟨hb, hk⟩, eq2] at this
        exact this
      refine x_callV_2 c_Folk_canDo ok_Folk_canDo ml_Ledger_161 dLedger_shareOf_119 rfl rfl rfl rfl rfl ?_
      refine ⟨p, I 14 q, rfl, rfl, hp, fun hd => ?_, fun hd => ?_⟩
      · refine x_if_eq (tgt := 129) dLedger_shareOf_122 (by decide) (fun h => absurd h (by decide)) (fun _ => ?_)
        refine x_iconst (v := 1) dLedger_shareOf_125 rfl ?_
        refine x_goto (tgt := 130) dLedger_shareOf_126 (by decide) ?_
        -- at 130: .iastore
        refine fin 1 ?_
        simp only [up2_n, up2_s, ne_eq, Nat.reduceEqDiff, not_false_eq_true, f9] at hd
        rw [if_pos (by simpa [canV, cV] using hd)]
      · refine x_if_eq (tgt := 129) dLedger_shareOf_122 (by decide) (fun _ => ?_) (fun h => absurd (by decide) h)
        refine x_iconst (v := 0) dLedger_shareOf_129 rfl ?_
        -- at 130: .iastore
        refine fin 0 ?_
        simp only [up2_n, up2_s, ne_eq, Nat.reduceEqDiff, not_false_eq_true, f9] at hd
        rw [if_neg (by simpa [canV, cV] using hd)]
    · refine x_if_ne (tgt := 26) dLedger_shareOf_21 (by decide) (fun h => absurd (by decide) h) (fun _ => ?_)
      exact none0 (fun z => hk z.2)
  · rw [if_neg hb]
    refine x_if_eq (tgt := 24) dLedger_shareOf_10 (by decide) (fun _ => ?_) (fun h => absurd (by decide) h)
    exact none0 (fun z => hb z.1)
abbrev uScr : List Nat := [33, 34]
/-- what is due by a SAYING, its row in the class -/
def DueRow (V : IM) (P : Nat → List Int32) (n : Nat) (c : Int32) (s : Nat) (I' : IM) : Prop := ∀ p, p < n → I' 38 (s * 8 + p) = shareV V P c s p
def sp_Ledger_bindBy : SpT := fun as S I L Post => ∃ (s n c : Nat) (P : Nat → List Int32), as = [.ref 35, .int (nI s)] ∧ S = S1 ∧ s < 11 ∧ SayV (cV I) s ∧ I 37 s = nI c ∧ c < 256 ∧ LisOk I P n ∧
  ∀ I' : IM, Fr [33, 34, 38] I I' → DueRow (cV I) P n (I 37 s) s I' → (∀ i, (i < s * 8 ∨ s * 8 + n ≤ i) → I' 38 i = I 38 i) → Post none S1 I' L
set_option maxHeartbeats 4000000 in
set_option maxRecDepth 100000 in
theorem c_Ledger_bindBy : Con mLedger_bindBy 5 0 0 sp_Ledger_bindBy := by
  refine con_of_X rfl fun G as S I L Post hs => ?_
  obtain ⟨s, n, c, P, rfl, rfl, hs, hsv, ec, hc, hok, h1⟩ := hs
  have hn8 := hok.2.1
  refine ⟨1, Nat.le_of_ble_eq_true rfl, ?_⟩
  show X mLedger_bindBy G _ S1 I L 0 [.ref 35, .int (nI s), .null] [] Post
  refine x_iconst (v := 0) dLedger_bindBy_0 rfl ?_
  refine x_istoren_2 dLedger_bindBy_1 rfl rfl ?_
  -- at 2: .iload_n 2
  have loop : ∀ (k i : Nat) (I' : IM), i + k = n → Fr [33, 34, 38] I I' → (∀ p, p < i → I' 38 (s * 8 + p) = shareV (cV I) P (I 37 s) s p) → (∀ j, (j < s * 8 ∨ s * 8 + n ≤ j) → I' 38 j = I 38 j) →
      X mLedger_bindBy G (5, 0, 0) S1 I' L 2 [.ref 35, .int (nI s), .int (nI i)] [] Post := by
    intro k
    induction k with
    | zero =>
      intro i I' hi hF hh ho
      obtain rfl : i = n := by omega
      refine x_iload_n dLedger_bindBy_2 rfl ?_
      refine x_aload_n dLedger_bindBy_3 rfl ?_
      refine x_getR fl_Ledger_47 rfl dLedger_bindBy_4 rfl rfl rfl ?_
      refine x_getI fl_Ledger_82 rfl dLedger_bindBy_7 rfl rfl ?_
      -- at 10: .if_icmp .ge 26
      rw [hF 4 (by decide), hok.1]
      refine x_icmp_ge (tgt := 36) dLedger_bindBy_10 (by decide) (fun _ => ?_) (fun h => absurd (Int32.le_refl _) h)
      refine x_return dLedger_bindBy_36 rfl ?_
      exact h1 I' hF hh ho
    | succ k ih =>
      intro i I' hi hF hh ho
      have hok' : LisOk I' P n := hok.fr (hF.wk (by decide))
      have eV : cV I' = cV I := cV_fr (hF.wk (by decide))
      have e37 : I' 37 s = I 37 s := by rw [hF 37 (by decide)]
      refine x_iload_n dLedger_bindBy_2 rfl ?_
      refine x_aload_n dLedger_bindBy_3 rfl ?_
      refine x_getR fl_Ledger_47 rfl dLedger_bindBy_4 rfl rfl rfl ?_
      refine x_getI fl_Ledger_82 rfl dLedger_bindBy_7 rfl rfl ?_
      -- at 10: .if_icmp .ge 26
      rw [hF 4 (by decide), hok.1]
      refine x_icmp_ge (tgt := 36) dLedger_bindBy_10 (by decide) (fun h => absurd h (nI_ge (b := n) (by omega) (by omega))) (fun _ => ?_)
      refine x_aload_n dLedger_bindBy_13 rfl ?_
      refine x_getR fl_Ledger_22 rfl dLedger_bindBy_14 rfl rfl rfl ?_
      refine x_iload_n dLedger_bindBy_17 rfl ?_
      refine x_bipush (v := 8) dLedger_bindBy_18 rfl ?_
      refine x_imul dLedger_bindBy_20 ?_
      refine x_iload_n dLedger_bindBy_21 rfl ?_
      refine x_iadd dLedger_bindBy_22 ?_
      refine x_aload_n dLedger_bindBy_23 rfl ?_
      refine x_iload_n dLedger_bindBy_24 rfl ?_
      refine x_iload_n dLedger_bindBy_25 rfl ?_
      -- at 26: .invokevirtual 137
      obtain ⟨t, ht, hT⟩ := hok'.2.2.2
      refine x_callV_2 c_Ledger_shareOf ok_Ledger_shareOf ml_Ledger_137 dLedger_bindBy_26 rfl rfl rfl rfl rfl ?_
      refine ⟨s, i, t, c, P, rfl, rfl, hs, by omega, by rw [eV]; exact hsv, e37.trans ec, hc, ht, hT, fun I2 hF2 => ?_⟩
      rw [eV, e37]
      refine x_iastJ (j := s * 8 + i) dLedger_bindBy_29 rfl rfl (by first | rfl | (simp only [← nI_add, ← pk_mul]; rfl)) (by omega) ?_
      refine x_iincp_2 dLedger_bindBy_30 rfl rfl ?_
      refine x_goto (tgt := 2) dLedger_bindBy_33 (by decide) ?_
      -- at 2: .iload_n 2
      rw [nI_1]
      refine ih (i + 1) _ (by omega) ((hF.tr (hF2.wk (by decide))).up (by decide) _ _) (fun p hp => ?_) (fun j hj => ?_)
      · simp only [up2_n, up2_s, ne_eq, Nat.reduceEqDiff, not_false_eq_true]
        by_cases e : p = i
        · subst e; simp [up1]
        · rw [up1, if_neg (by omega), hF2 38 (by decide)]
          exact hh p (by omega)
      · simp only [up2_n, up2_s, ne_eq, Nat.reduceEqDiff, not_false_eq_true]
        rw [up1, if_neg (by omega), hF2 38 (by decide)]
        exact ho j hj
  exact loop n 0 I (by omega) Fr.rfl (fun p hp => absurd hp (Nat.not_lt_zero p)) (fun j _ => rfl)
end
section
-- 22.settle
/-! what is owed in all: the class -/
def maxR (V : IM) (D : Nat → Int32) (w : Int32) (m : Nat) : Nat → Int32 := match m with
  | 0 => fun _ => 0
  | k + 1 => if nI k = w then maxR V D w k else up1 (maxR V D w k) (cl (V 14 k)) (imax (maxR V D w k (cl (V 14 k))) (D k))
def strS (V : IM) (j : Nat) (o : (Nat → Int32) × Int32) : (Nat → Int32) × Int32 :=
  if V 13 j = -1 then o else
    let l := imin (o.1 j) (o.1 (cl (V 13 j)))
    let o1 := up1 o.1 j (o.1 j - l)
    (up1 o1 (cl (V 13 j)) (o1 (cl (V 13 j)) - l), o.2 + l)
def strR (V : IM) (o : Nat → Int32) (j : Nat) : (Nat → Int32) × Int32 := match j with
  | 0 => (o, 0)
  | k + 1 => strS V k (strR V o k)
/-- the row, what is left of ROOM, BEYOND -/
def cutS (j : Nat) (o : (Nat → Int32) × Int32 × Int32) : (Nat → Int32) × Int32 × Int32 :=
  let more := imax 0 (o.1 j - o.2.1)
  (up1 o.1 j (o.1 j - more), o.2.1 - (o.1 j - more), o.2.2 + more)
def cutR (room : Int32) (o : Nat → Int32) (j : Nat) : (Nat → Int32) × Int32 × Int32 := match j with
  | 0 => (o, room, 0)
  | k + 1 => cutS k (cutR room o k)
def rowOf (I : IM) (p : Nat) : Nat → Int32 := fun q => I 39 (p * 8 + q)
def eq8 (f g : Nat → Int32) : Prop := ∀ q, q < 8 → f q = g q
/-- PROMISES' rows that striking out rests on -/
def VowOk (I : IM) (nq : Nat) : Prop := I 13 4 = nI nq ∧ nq ≤ 8 ∧ ∀ j, j < nq → rng1 (I 17 j) 8
theorem VowOk.fr {I I' : IM} {nq : Nat} (h : VowOk I nq) (h1 : I' 13 = I 13) (h2 : I' 17 = I 17) : VowOk I' nq := by
  unfold VowOk
  rw [h1, h2]
  exact h
/-- a step of a row keeps what agrees below 8 -/
theorem up1_8 {f g : Nat → Int32} (h : eq8 f g) (j : Nat) {x y : Int32} (hx : x = y) : eq8 (up1 f j x) (up1 g j y) := by
  intro q hq
  unfold up1
  split
  · exact hx
  · exact h q hq
theorem up1_sh (f : Nat → Int32) (p j : Nat) (x : Int32) : (fun q => up1 f (p * 8 + j) x (p * 8 + q)) = up1 (fun q => f (p * 8 + q)) j x := by
  funext q
  unfold up1
  by_cases e : q = j
  · subst e; simp
  · rw [if_neg e, if_neg (by omega)]
/-- rows of others stay -/
def Oth (I I' : IM) (p : Nat) : Prop := ∀ i, (i < p * 8 ∨ p * 8 + 8 ≤ i) → I' 39 i = I 39 i
def sp_Ledger_strikeOut : SpT := fun as S I L Post => ∃ (p nq : Nat) (O : Nat → Int32), as = [.ref 35, .int (nI p)] ∧ S = S1 ∧ p < 8 ∧ VowOk I nq ∧ eq8 (rowOf I p) O ∧
  ∀ I' : IM, Fr [39, 41] I I' → eq8 (rowOf I' p) (strR (cV I) O nq).1 → Oth I I' p → I' 41 = up1 (I 41) p (strR (cV I) O nq).2 → Post none S1 I' L
set_option maxHeartbeats 4000000 in
set_option maxRecDepth 100000 in
theorem c_Ledger_strikeOut : Con mLedger_strikeOut 3 0 0 sp_Ledger_strikeOut := by
  refine con_of_X rfl fun G as S I L Post hs => ?_
  obtain ⟨p, nq, O, rfl, rfl, hp, hv, hO, h1⟩ := hs
  refine ⟨4, Nat.le_of_ble_eq_true rfl, ?_⟩
  show X mLedger_strikeOut G _ S1 I L 0 [.ref 35, .int (nI p), .null, .null, .null, .null] [] Post
  refine x_aload_n dLedger_strikeOut_0 rfl ?_
  refine x_getR fl_Ledger_31 rfl dLedger_strikeOut_1 rfl rfl rfl ?_
  refine x_iload_n dLedger_strikeOut_4 rfl ?_
  refine x_iconst (v := 0) dLedger_strikeOut_5 rfl ?_
  refine x_iastJ dLedger_strikeOut_6 rfl rfl rfl (by omega) ?_
  refine x_iconst (v := 0) dLedger_strikeOut_7 rfl ?_
  refine x_istoren_2 dLedger_strikeOut_8 rfl rfl ?_
  -- at 9: .iload_n 2
  have loop : ∀ (k i : Nat) (I' : IM) (a3 a4 a5 : Value), i + k = nq → (cat1at [a3] 1 = true) → (cat1at [a4] 1 = true) → (cat1at [a5] 1 = true) → Fr [39, 41] I I' → eq8 (rowOf I' p) (strR (cV I) O i).1 → Oth I I' p → I' 41 = up1 (I 41) p (strR (cV I) O i).2 →
      X mLedger_strikeOut G (3, 0, 0) S1 I' L 9 [.ref 35, .int (nI p), .int (nI i), a3, a4, a5] [] Post := by
    intro k
    induction k with
    | zero =>
      intro i I' a3 a4 a5 hi q3 q4 q5 hF hr ho hst
      obtain rfl : i = nq := by omega
      refine x_iload_n dLedger_strikeOut_9 rfl ?_
      refine x_aload_n dLedger_strikeOut_10 rfl ?_
      refine x_getR fl_Ledger_51 rfl dLedger_strikeOut_11 rfl rfl rfl ?_
      refine x_getI fl_Ledger_180 rfl dLedger_strikeOut_14 rfl rfl ?_
      -- at 17: .if_icmp .ge 97
      rw [hF 13 (by decide), hv.1]
      refine x_icmp_ge (tgt := 114) dLedger_strikeOut_17 (by decide) (fun _ => ?_) (fun h => absurd (Int32.le_refl _) h)
      refine x_return dLedger_strikeOut_114 rfl ?_
      exact h1 I' hF hr ho hst
    | succ k ih =>
      intro i I' a3 a4 a5 hi q3 q4 q5 hF hr ho hst
      have hn8 := hv.2.1
      refine x_iload_n dLedger_strikeOut_9 rfl ?_
      refine x_aload_n dLedger_strikeOut_10 rfl ?_
      refine x_getR fl_Ledger_51 rfl dLedger_strikeOut_11 rfl rfl rfl ?_
      refine x_getI fl_Ledger_180 rfl dLedger_strikeOut_14 rfl rfl ?_
      -- at 17: .if_icmp .ge 97
      rw [hF 13 (by decide), hv.1]
      refine x_icmp_ge (tgt := 114) dLedger_strikeOut_17 (by decide) (fun h => absurd h (nI_ge (b := nq) (by omega) (by omega))) (fun _ => ?_)
      refine x_aload_n dLedger_strikeOut_20 rfl ?_
      refine x_getR fl_Ledger_51 rfl dLedger_strikeOut_21 rfl rfl rfl ?_
      refine x_getR fl_Ledger_181 rfl dLedger_strikeOut_24 rfl rfl rfl ?_
      refine x_iload_n dLedger_strikeOut_27 rfl ?_
      refine x_ialdJ dLedger_strikeOut_28 rfl rfl rfl (by omega) ?_
      refine x_iconst (v := -1) dLedger_strikeOut_29 rfl ?_
      -- at 30: .if_icmp .eq 78
      have e17 := hF 17 (by decide)
      rw [e17]
      rcases hv.2.2 i (by omega) with e | ⟨c, hc, e⟩
      · rw [e]
        refine x_icmp_eq (tgt := 108) dLedger_strikeOut_30 (by decide) (fun _ => ?_) (fun h => absurd rfl h)
        refine x_iincp_2 dLedger_strikeOut_108 rfl rfl ?_
        refine x_goto (tgt := 9) dLedger_strikeOut_111 (by decide) ?_
        -- at 9: .iload_n 2
        rw [nI_1]
        have hs : strR (cV I) O (i + 1) = strR (cV I) O i := by
          rw [strR, strS, if_pos (show cV I 13 i = -1 from e)]
        refine ih (i + 1) I' a3 a4 a5 (by omega) q3 q4 q5 hF ?_ ho ?_ <;> rw [hs] <;> assumption
      · rw [e]
        have hne : ¬ nI c = -1 := fun z => by
          have := nI_pos' (n := c) (by omega)
          rw [z] at this
          exact absurd this (by decide)
        refine x_icmp_eq (tgt := 108) dLedger_strikeOut_30 (by decide) (fun h => absurd h hne) (fun _ => ?_)
        have hs : strR (cV I) O (i + 1) = strS (cV I) i (strR (cV I) O i) := rfl
        have ec : cl (cV I 13 i) = c := by rw [show cV I 13 i = nI c from e]; exact cl_nI (by omega)
        rw [strS, if_neg (by rw [show cV I 13 i = nI c from e]; exact hne), ec] at hs
        generalize strR (cV I) O i = st at hr hst hs
        refine x_iload_n dLedger_strikeOut_33 rfl ?_
        refine x_bipush (v := 8) dLedger_strikeOut_34 rfl ?_
        refine x_imul dLedger_strikeOut_36 ?_
        refine x_iload_n dLedger_strikeOut_37 rfl ?_
        refine x_iadd dLedger_strikeOut_38 ?_
        refine x_istoren_3 dLedger_strikeOut_39 rfl rfl ?_
        refine x_iload_n dLedger_strikeOut_40 rfl ?_
        refine x_bipush (v := 8) dLedger_strikeOut_41 rfl ?_
        -- at 43: .imul
        refine x_imul dLedger_strikeOut_43 ?_
        refine x_aload_n dLedger_strikeOut_44 rfl ?_
        refine x_getR fl_Ledger_51 rfl dLedger_strikeOut_45 rfl rfl rfl ?_
        refine x_getR fl_Ledger_181 rfl dLedger_strikeOut_48 rfl rfl rfl ?_
        refine x_iload_n dLedger_strikeOut_51 rfl ?_
        refine x_ialdJ dLedger_strikeOut_52 rfl rfl rfl (by omega) ?_
        -- at 53: .iadd
        rw [e17, e]
        refine x_iadd dLedger_strikeOut_53 ?_
        refine x_istore_4 dLedger_strikeOut_54 rfl rfl ?_
        -- at 56: .aload_n 0
        refine x_aload_n dLedger_strikeOut_56 rfl ?_
        refine x_getR fl_Ledger_25 rfl dLedger_strikeOut_57 rfl rfl rfl ?_
        refine x_iload_n dLedger_strikeOut_60 rfl ?_
        refine x_ialdJ (j := p * 8 + i) dLedger_strikeOut_61 rfl rfl (by first | rfl | (simp only [← nI_add, ← pk_mul]; rfl)) (by omega) ?_
        -- at 62: .aload_n 0
        refine x_aload_n dLedger_strikeOut_62 rfl ?_
        refine x_getR fl_Ledger_25 rfl dLedger_strikeOut_63 rfl rfl rfl ?_
        refine x_iload dLedger_strikeOut_66 rfl ?_
        refine x_ialdJ (j := p * 8 + c) dLedger_strikeOut_68 rfl rfl (by first | rfl | (simp only [← nI_add, ← pk_mul]; rfl)) (by omega) ?_
        -- at 69: .invokestatic 184
        have r1 : I' 39 (p * 8 + i) = st.1 i := hr i (by omega)
        have r2 : I' 39 (p * 8 + c) = st.1 c := hr c hc
        rw [r1, r2]
        refine x_mmin dLedger_strikeOut_69 ml_Ledger_184 st_min it_Math co_min rfl rfl ?_
        refine x_eqi (y := imin (st.1 i) (st.1 c)) rfl ?_
        dsimp only at hs
        generalize imin (st.1 i) (st.1 c) = l at hs ⊢
        refine x_istore_5 dLedger_strikeOut_72 rfl rfl ?_
        refine x_aload_n dLedger_strikeOut_74 rfl ?_
        refine x_getR fl_Ledger_25 rfl dLedger_strikeOut_75 rfl rfl rfl ?_
        refine x_iload_n dLedger_strikeOut_78 rfl ?_
        refine x_dup2 dLedger_strikeOut_79 rfl rfl ?_
        refine x_ialdJ (j := p * 8 + i) dLedger_strikeOut_80 rfl rfl (by first | rfl | (simp only [← nI_add, ← pk_mul]; rfl)) (by omega) ?_
        -- at 81: .iload 5
        rw [r1]
        refine x_iload dLedger_strikeOut_81 rfl ?_
        refine x_isub dLedger_strikeOut_83 ?_
        refine x_iastJ (j := p * 8 + i) dLedger_strikeOut_84 rfl rfl (by first | rfl | (simp only [← nI_add, ← pk_mul]; rfl)) (by omega) ?_
        -- at 85: .aload_n 0
        refine x_aload_n dLedger_strikeOut_85 rfl ?_
        refine x_getR fl_Ledger_25 rfl dLedger_strikeOut_86 rfl rfl rfl ?_
        refine x_iload dLedger_strikeOut_89 rfl ?_
        refine x_dup2 dLedger_strikeOut_91 rfl rfl ?_
        refine x_ialdJ (j := p * 8 + c) dLedger_strikeOut_92 rfl rfl (by first | rfl | (simp only [← nI_add, ← pk_mul]; rfl)) (by omega) ?_
        -- at 93: .iload 5
        refine x_iload dLedger_strikeOut_93 rfl ?_
        refine x_isub dLedger_strikeOut_95 ?_
        refine x_iastJ (j := p * 8 + c) dLedger_strikeOut_96 rfl rfl (by first | rfl | (simp only [← nI_add, ← pk_mul]; rfl)) (by omega) ?_
        -- at 97: .aload_n 0
        refine x_aload_n dLedger_strikeOut_97 rfl ?_
        refine x_getR fl_Ledger_31 rfl dLedger_strikeOut_98 rfl rfl rfl ?_
        refine x_iload_n dLedger_strikeOut_101 rfl ?_
        refine x_dup2 dLedger_strikeOut_102 rfl rfl ?_
        refine x_ialdJ dLedger_strikeOut_103 rfl rfl rfl (by omega) ?_
        -- at 104: .iload 5
        simp only [up2_n, up2_s, ne_eq, Nat.reduceEqDiff, not_false_eq_true, hst]
        refine x_iload dLedger_strikeOut_104 rfl ?_
        refine x_iadd dLedger_strikeOut_106 ?_
        refine x_iastJ dLedger_strikeOut_107 rfl rfl rfl (by omega) ?_
        refine x_iincp_2 dLedger_strikeOut_108 rfl rfl ?_
        refine x_goto (tgt := 9) dLedger_strikeOut_111 (by decide) ?_
        -- at 9: .iload_n 2
        rw [nI_1]
        refine ih (i + 1) _ _ _ _ (by omega) rfl rfl rfl (((hF.up (by decide) _ _).up (by decide) _ _).up (by decide) _ _) ?_ ?_ ?_
        · rw [hs]
          show eq8 (fun q => _) _
          unfold rowOf
          simp only [up2_n, up2_s, ne_eq, Nat.reduceEqDiff, not_false_eq_true]
          rw [up1_sh, up1_sh]
          have r3 : up1 (fun q => I' 39 (p * 8 + q)) i (st.1 i - l) c = up1 st.1 i (st.1 i - l) c := up1_8 hr i rfl c hc
          have r4 : up1 (I' 39) (p * 8 + i) (st.1 i - l) (p * 8 + c) = up1 st.1 i (st.1 i - l) c := by
            rw [← r3, ← up1_sh]
          rw [r4]
          exact up1_8 (up1_8 hr i rfl) c rfl
        · intro j hj
          simp only [up2_n, up2_s, ne_eq, Nat.reduceEqDiff, not_false_eq_true]
          rw [up1, if_neg (by omega), up1, if_neg (by omega)]
          exact ho j hj
        · simp only [up2_n, up2_s, ne_eq, Nat.reduceEqDiff, not_false_eq_true]
          rw [hs, hst]
          funext j
          by_cases z : j = p
          · subst z; simp [up1]
          · simp [up1, z]
  refine loop nq 0 _ _ _ _ (by omega) rfl rfl rfl (Fr.rfl.up (by decide) _ _) ?_ ?_ ?_
  · show eq8 (fun q => _) _
    unfold rowOf
    simp only [up2_n, up2_s, ne_eq, Nat.reduceEqDiff, not_false_eq_true]
    exact hO
  · intro j hj
    simp only [up2_n, up2_s, ne_eq, Nat.reduceEqDiff, not_false_eq_true]
  · simp only [up2_n, up2_s, ne_eq, Nat.reduceEqDiff, not_false_eq_true]
    rfl
end
section
-- 23.settle2
def sp_Ledger_cutToRoom : SpT := fun as S I L Post => ∃ (p nq : Nat) (O : Nat → Int32), as = [.ref 35, .int (nI p)] ∧ S = S1 ∧ p < 8 ∧ VowOk I nq ∧ eq8 (rowOf I p) O ∧
  ∀ I' : IM, Fr [39, 40, 42] I I' → eq8 (rowOf I' p) (cutR (I 11 p) O nq).1 → Oth I I' p → I' 42 = up1 (I 42) p (cutR (I 11 p) O nq).2.2 → I' 40 = up1 (I 40) p (I 11 p - (cutR (I 11 p) O nq).2.1) → Post none S1 I' L
set_option maxHeartbeats 4000000 in
set_option maxRecDepth 100000 in
theorem c_Ledger_cutToRoom : Con mLedger_cutToRoom 3 0 0 sp_Ledger_cutToRoom := by
  refine con_of_X rfl fun G as S I L Post hs => ?_
  obtain ⟨p, nq, O, rfl, rfl, hp, hv, hO, h1⟩ := hs
  refine ⟨4, Nat.le_of_ble_eq_true rfl, ?_⟩
  show X mLedger_cutToRoom G _ S1 I L 0 [.ref 35, .int (nI p), .null, .null, .null, .null] [] Post
  refine x_aload_n dLedger_cutToRoom_0 rfl ?_
  refine x_getR fl_Ledger_47 rfl dLedger_cutToRoom_1 rfl rfl rfl ?_
  refine x_getR fl_Ledger_187 rfl dLedger_cutToRoom_4 rfl rfl rfl ?_
  refine x_iload_n dLedger_cutToRoom_7 rfl ?_
  refine x_ialdJ dLedger_cutToRoom_8 rfl rfl rfl (by omega) ?_
  refine x_istoren_2 dLedger_cutToRoom_9 rfl rfl ?_
  refine x_aload_n dLedger_cutToRoom_10 rfl ?_
  refine x_getR fl_Ledger_34 rfl dLedger_cutToRoom_11 rfl rfl rfl ?_
  refine x_iload_n dLedger_cutToRoom_14 rfl ?_
  refine x_iconst (v := 0) dLedger_cutToRoom_15 rfl ?_
  refine x_iastJ dLedger_cutToRoom_16 rfl rfl rfl (by omega) ?_
  refine x_iconst (v := 0) dLedger_cutToRoom_17 rfl ?_
  refine x_istoren_3 dLedger_cutToRoom_18 rfl rfl ?_
  -- at 19: .iload_n 3
  have loop : ∀ (k i : Nat) (I' : IM) (lf : Int32) (a4 a5 : Value), i + k = nq → Fr [39, 42] I I' → eq8 (rowOf I' p) (cutR (I 11 p) O i).1 → lf = (cutR (I 11 p) O i).2.1 → Oth I I' p → I' 42 = up1 (I 42) p (cutR (I 11 p) O i).2.2 →
      X mLedger_cutToRoom G (3, 0, 0) S1 I' L 19 [.ref 35, .int (nI p), .int lf, .int (nI i), a4, a5] [] Post := by
    intro k
    induction k with
    | zero =>
      intro i I' lf a4 a5 hi hF hr hl ho hb
      obtain rfl : i = nq := by omega
      refine x_iload_n dLedger_cutToRoom_19 rfl ?_
      refine x_aload_n dLedger_cutToRoom_20 rfl ?_
      refine x_getR fl_Ledger_51 rfl dLedger_cutToRoom_21 rfl rfl rfl ?_
      refine x_getI fl_Ledger_180 rfl dLedger_cutToRoom_24 rfl rfl ?_
      -- at 27: .if_icmp .ge 65
      rw [hF 13 (by decide), hv.1]
      refine x_icmp_ge (tgt := 92) dLedger_cutToRoom_27 (by decide) (fun _ => ?_) (fun h => absurd (Int32.le_refl _) h)
      refine x_aload_n dLedger_cutToRoom_92 rfl ?_
      refine x_getR fl_Ledger_28 rfl dLedger_cutToRoom_93 rfl rfl rfl ?_
      refine x_iload_n dLedger_cutToRoom_96 rfl ?_
      refine x_aload_n dLedger_cutToRoom_97 rfl ?_
      refine x_getR fl_Ledger_47 rfl dLedger_cutToRoom_98 rfl rfl rfl ?_
      refine x_getR fl_Ledger_187 rfl dLedger_cutToRoom_101 rfl rfl rfl ?_
      refine x_iload_n dLedger_cutToRoom_104 rfl ?_
      refine x_ialdJ dLedger_cutToRoom_105 rfl rfl rfl (by omega) ?_
      -- at 106: .iload_n 2
      rw [hF 11 (by decide)]
      refine x_iload_n dLedger_cutToRoom_106 rfl ?_
      refine x_isub dLedger_cutToRoom_107 ?_
      refine x_iastJ dLedger_cutToRoom_108 rfl rfl rfl (by omega) ?_
      -- at 109: .return_
      refine x_return dLedger_cutToRoom_109 rfl ?_
      refine h1 _ ((hF.wk (by decide)).up (by decide) _ _) ?_ ?_ ?_ ?_
      · show eq8 (fun q => _) _
        unfold rowOf
        simp only [up2_n, up2_s, ne_eq, Nat.reduceEqDiff, not_false_eq_true]
        exact hr
      · intro j hj
        simp only [up2_n, up2_s, ne_eq, Nat.reduceEqDiff, not_false_eq_true]
        exact ho j hj
      · simp only [up2_n, up2_s, ne_eq, Nat.reduceEqDiff, not_false_eq_true]
        exact hb
      · simp only [up2_n, up2_s, ne_eq, Nat.reduceEqDiff, not_false_eq_true]
        rw [hF 40 (by decide), hl]
    | succ k ih =>
      intro i I' lf a4 a5 hi hF hr hl ho hb
      have hn8 := hv.2.1
      refine x_iload_n dLedger_cutToRoom_19 rfl ?_
      refine x_aload_n dLedger_cutToRoom_20 rfl ?_
      refine x_getR fl_Ledger_51 rfl dLedger_cutToRoom_21 rfl rfl rfl ?_
      refine x_getI fl_Ledger_180 rfl dLedger_cutToRoom_24 rfl rfl ?_
      -- at 27: .if_icmp .ge 65
      rw [hF 13 (by decide), hv.1]
      refine x_icmp_ge (tgt := 92) dLedger_cutToRoom_27 (by decide) (fun h => absurd h (nI_ge (b := nq) (by omega) (by omega))) (fun _ => ?_)
      have hs : cutR (I 11 p) O (i + 1) = cutS i (cutR (I 11 p) O i) := rfl
      rw [cutS] at hs
      generalize cutR (I 11 p) O i = st at hr hl hb hs
      refine x_iload_n dLedger_cutToRoom_30 rfl ?_
      refine x_bipush (v := 8) dLedger_cutToRoom_31 rfl ?_
      refine x_imul dLedger_cutToRoom_33 ?_
      refine x_iload_n dLedger_cutToRoom_34 rfl ?_
      refine x_iadd dLedger_cutToRoom_35 ?_
      refine x_istore_4 dLedger_cutToRoom_36 rfl rfl ?_
      refine x_iconst (v := 0) dLedger_cutToRoom_38 rfl ?_
      refine x_aload_n dLedger_cutToRoom_39 rfl ?_
      refine x_getR fl_Ledger_25 rfl dLedger_cutToRoom_40 rfl rfl rfl ?_
      refine x_iload dLedger_cutToRoom_43 rfl ?_
      refine x_ialdJ (j := p * 8 + i) dLedger_cutToRoom_45 rfl rfl (by first | rfl | (simp only [← nI_add, ← pk_mul]; rfl)) (by omega) ?_
      refine x_iload_n dLedger_cutToRoom_46 rfl ?_
      refine x_isub dLedger_cutToRoom_47 ?_
      -- at 48: .invokestatic 169
      have r1 : I' 39 (p * 8 + i) = st.1 i := hr i (by omega)
      rw [r1]
      refine x_mmax dLedger_cutToRoom_48 ml_Ledger_169 st_max it_Math co_max rfl rfl ?_
      refine x_eqi (y := imax 0 (st.1 i - lf)) rfl ?_
      rw [← hl] at hs
      generalize imax 0 (st.1 i - lf) = mo at hs ⊢
      refine x_istore_5 dLedger_cutToRoom_51 rfl rfl ?_
      refine x_aload_n dLedger_cutToRoom_53 rfl ?_
      refine x_getR fl_Ledger_25 rfl dLedger_cutToRoom_54 rfl rfl rfl ?_
      refine x_iload dLedger_cutToRoom_57 rfl ?_
      refine x_dup2 dLedger_cutToRoom_59 rfl rfl ?_
      refine x_ialdJ (j := p * 8 + i) dLedger_cutToRoom_60 rfl rfl (by first | rfl | (simp only [← nI_add, ← pk_mul]; rfl)) (by omega) ?_
      -- at 61: .iload 5
      rw [r1]
      refine x_iload dLedger_cutToRoom_61 rfl ?_
      refine x_isub dLedger_cutToRoom_63 ?_
      refine x_iastJ (j := p * 8 + i) dLedger_cutToRoom_64 rfl rfl (by first | rfl | (simp only [← nI_add, ← pk_mul]; rfl)) (by omega) ?_
      refine x_iload_n dLedger_cutToRoom_65 rfl ?_
      refine x_aload_n dLedger_cutToRoom_66 rfl ?_
      refine x_getR fl_Ledger_25 rfl dLedger_cutToRoom_67 rfl rfl rfl ?_
      refine x_iload dLedger_cutToRoom_70 rfl ?_
      refine x_ialdJ (j := p * 8 + i) dLedger_cutToRoom_72 rfl rfl (by first | rfl | (simp only [← nI_add, ← pk_mul]; rfl)) (by omega) ?_
      -- at 73: .isub
      simp only [up2_n, up2_s, ne_eq, Nat.reduceEqDiff, not_false_eq_true, up1, if_true]
      refine x_isub dLedger_cutToRoom_73 ?_
      refine x_istoren_2 dLedger_cutToRoom_74 rfl rfl ?_
      refine x_aload_n dLedger_cutToRoom_75 rfl ?_
      refine x_getR fl_Ledger_34 rfl dLedger_cutToRoom_76 rfl rfl rfl ?_
      refine x_iload_n dLedger_cutToRoom_79 rfl ?_
      refine x_dup2 dLedger_cutToRoom_80 rfl rfl ?_
      refine x_ialdJ dLedger_cutToRoom_81 rfl rfl rfl (by omega) ?_
      -- at 82: .iload 5
      simp only [up2_n, up2_s, ne_eq, Nat.reduceEqDiff, not_false_eq_true, hb]
      refine x_iload dLedger_cutToRoom_82 rfl ?_
      refine x_iadd dLedger_cutToRoom_84 ?_
      refine x_iastJ dLedger_cutToRoom_85 rfl rfl rfl (by omega) ?_
      refine x_iincp_3 dLedger_cutToRoom_86 rfl rfl ?_
      refine x_goto (tgt := 19) dLedger_cutToRoom_89 (by decide) ?_
      -- at 19: .iload_n 3
      rw [nI_1]
      refine ih (i + 1) _ _ _ _ (by omega) ((hF.up (by decide) _ _).up (by decide) _ _) ?_ ?_ ?_ ?_
      · rw [hs]
        show eq8 (fun q => _) _
        unfold rowOf
        simp only [up2_n, up2_s, ne_eq, Nat.reduceEqDiff, not_false_eq_true]
        rw [up1_sh]
        exact up1_8 hr i rfl
      · rw [hs]
      · intro j hj
        simp only [up2_n, up2_s, ne_eq, Nat.reduceEqDiff, not_false_eq_true]
        rw [up1, if_neg (by omega)]
        exact ho j hj
      · simp only [up2_n, up2_s, ne_eq, Nat.reduceEqDiff, not_false_eq_true]
        rw [hs, hb]
        funext j
        by_cases z : j = p
        · subst z; simp [up1]
        · simp [up1, z]
  refine loop nq 0 _ _ _ _ (by omega) (Fr.rfl.up (by decide) _ _) ?_ rfl ?_ ?_
  · show eq8 (fun q => _) _
    unfold rowOf
    simp only [up2_n, up2_s, ne_eq, Nat.reduceEqDiff, not_false_eq_true]
    exact hO
  · intro j hj
    simp only [up2_n, up2_s, ne_eq, Nat.reduceEqDiff, not_false_eq_true]
  · simp only [up2_n, up2_s, ne_eq, Nat.reduceEqDiff, not_false_eq_true]
    rfl
/-- what one has at last: the row, struck, BEYOND, in all -/
def fin1 (V : IM) (D : Nat → Int32) (nq : Nat) (w : Int32) (m p : Nat) : (Nat → Int32) × Int32 × Int32 :=
  cutR (V 8 p) (strR V (maxR V D w m) nq).1 nq
def str1 (V : IM) (D : Nat → Int32) (nq : Nat) (w : Int32) (m : Nat) : Int32 := (strR V (maxR V D w m) nq).2
def tot1 (V : IM) (D : Nat → Int32) (nq : Nat) (w : Int32) (m p : Nat) : Int32 := V 8 p - (fin1 V D nq w m p).2.1
def Owes1 (V : IM) (D : Nat → Int32) (nq : Nat) (w : Int32) (m p : Nat) (I' : IM) : Prop :=
  eq8 (rowOf I' p) (fin1 V D nq w m p).1 ∧ I' 41 p = str1 V D nq w m ∧ I' 42 p = (fin1 V D nq w m p).2.2 ∧ I' 40 p = tot1 V D nq w m p
abbrev sScr : List Nat := [39, 40, 41, 42]
/-- others' rows and numbers stay -/
def Oth4 (I I' : IM) (p : Nat) : Prop := Oth I I' p ∧ ∀ i, i ≠ p → I' 40 i = I 40 i ∧ I' 41 i = I 41 i ∧ I' 42 i = I 42 i
theorem maxR_congr {V : IM} {D D' : Nat → Int32} {w : Int32} : ∀ m : Nat, (∀ s, s < m → D s = D' s) → maxR V D w m = maxR V D' w m := by
  intro m
  induction m with
  | zero => intro _; rfl
  | succ k ih =>
    intro h
    rw [maxR, maxR, ih (fun s hs => h s (by omega)), h k (by omega)]
def sp_Ledger_settleOne : SpT := fun as S I L Post => ∃ (p m nq : Nat) (w : Int32) (D : Nat → Int32), as = [.ref 35, .int (nI p), .int (nI m), .int w] ∧ S = S1 ∧ p < 8 ∧ m ≤ 11 ∧ (∀ s, s < m → rng (I 19 s) 8) ∧ VowOk I nq ∧ (∀ s, s < m → I 38 (s * 8 + p) = D s) ∧
  ∀ I' : IM, Fr sScr I I' → Owes1 (cV I) D nq w m p I' → Oth4 I I' p → Post none S1 I' L
set_option maxHeartbeats 4000000 in
set_option maxRecDepth 100000 in
theorem c_Ledger_settleOne : Con mLedger_settleOne 4 0 0 sp_Ledger_settleOne := by
  refine con_of_X rfl fun G as S I L Post hs => ?_
  obtain ⟨p, m, nq, w, D, rfl, rfl, hp, hm, hsv, hv, hD, h1⟩ := hs
  refine ⟨2, Nat.le_of_ble_eq_true rfl, ?_⟩
  show X mLedger_settleOne G _ S1 I L 0 [.ref 35, .int (nI p), .int (nI m), .int w, .null, .null] [] Post
  refine x_iconst (v := 0) dLedger_settleOne_0 rfl ?_
  refine x_istore_4 dLedger_settleOne_1 rfl rfl ?_
  -- at 3: .iload 4
  have loop2 : ∀ (k i : Nat) (I' : IM) (a5 : Value), i + k = m → Fr [39] I I' → eq8 (rowOf I' p) (maxR (cV I) D w i) → Oth I I' p →
      X mLedger_settleOne G (4, 0, 0) S1 I' L 32 [.ref 35, .int (nI p), .int (nI m), .int w, .int (nI i), a5] [] Post := by
    intro k
    induction k with
    | zero =>
      intro i I' a5 hi hF hr ho
      obtain rfl : i = m := by omega
      refine x_iload dLedger_settleOne_32 rfl ?_
      refine x_iload_n dLedger_settleOne_34 rfl ?_
      -- at 35: .if_icmp .ge 61
      refine x_icmp_ge (tgt := 96) dLedger_settleOne_35 (by decide) (fun _ => ?_) (fun h => absurd (Int32.le_refl _) h)
      have eV : cV I' = cV I := cV_fr (hF.wk (by decide))
      refine x_aload_n dLedger_settleOne_96 rfl ?_
      refine x_iload_n dLedger_settleOne_97 rfl ?_
      -- at 98: .invokevirtual 174
      refine x_callV_1 c_Ledger_strikeOut ok_Ledger_strikeOut ml_Ledger_174 dLedger_settleOne_98 rfl rfl rfl rfl rfl ?_
      refine ⟨p, nq, _, rfl, rfl, hp, hv.fr (hF _ (by decide)) (hF _ (by decide)), hr, fun I2 hF2 hr2 ho2 hs2 => ?_⟩
      rw [eV] at hr2 hs2
      refine x_aload_n dLedger_settleOne_101 rfl ?_
      refine x_iload_n dLedger_settleOne_102 rfl ?_
      -- at 103: .invokevirtual 177
      have e8 : I2 11 p = cV I 8 p := by rw [hF2 11 (by decide), hF 11 (by decide)]; rfl
      refine x_callV_1 c_Ledger_cutToRoom ok_Ledger_cutToRoom ml_Ledger_177 dLedger_settleOne_103 rfl rfl rfl rfl rfl ?_
      refine ⟨p, nq, _, rfl, rfl, hp, hv.fr ((hF2 _ (by decide)).trans (hF _ (by decide))) ((hF2 _ (by decide)).trans (hF _ (by decide))), hr2, fun I3 hF3 hr3 ho3 hb3 ht3 => ?_⟩
      rw [e8] at hr3 hb3 ht3
      refine x_return dLedger_settleOne_106 rfl ?_
      refine h1 I3 (((hF.wk (by decide)).tr (hF2.wk (by decide))).tr (hF3.wk (by decide))) ⟨hr3, ?_, ?_, ?_⟩ ⟨fun j hj => ?_, fun j hj => ⟨?_, ?_, ?_⟩⟩
      · rw [hF3 41 (by decide), hs2]
        simp [up1, str1]
      · rw [hb3]
        simp [up1, fin1]
      · rw [ht3]
        simp [up1, tot1, fin1]
      · rw [ho3 j hj, ho2 j hj, ho j hj]
      · rw [ht3, up1, if_neg hj, hF2 40 (by decide), hF 40 (by decide)]
      · rw [hF3 41 (by decide), hs2, up1, if_neg hj, hF 41 (by decide)]
      · rw [hb3, up1, if_neg hj, hF2 42 (by decide), hF 42 (by decide)]
    | succ k ih =>
      intro i I' a5 hi hF hr ho
      refine x_iload dLedger_settleOne_32 rfl ?_
      refine x_iload_n dLedger_settleOne_34 rfl ?_
      -- at 35: .if_icmp .ge 61
      refine x_icmp_ge (tgt := 96) dLedger_settleOne_35 (by decide) (fun h => absurd h (nI_ge (b := m) (by omega) (by omega))) (fun _ => ?_)
      refine x_iload_n dLedger_settleOne_38 rfl ?_
      refine x_bipush (v := 8) dLedger_settleOne_39 rfl ?_
      refine x_imul dLedger_settleOne_41 ?_
      refine x_aload_n dLedger_settleOne_42 rfl ?_
      refine x_getR fl_Ledger_55 rfl dLedger_settleOne_43 rfl rfl rfl ?_
      refine x_getR fl_Ledger_144 rfl dLedger_settleOne_46 rfl rfl rfl ?_
      refine x_iload dLedger_settleOne_49 rfl ?_
      refine x_ialdJ dLedger_settleOne_51 rfl rfl rfl (by omega) ?_
      -- at 52: .iadd
      obtain ⟨q, hq, eq⟩ := hsv i (by omega)
      have eq2 : cl (cV I 14 i) = q := by rw [show cV I 14 i = nI q from eq]; exact cl_nI (by omega)
      rw [hF 19 (by decide), eq]
      refine x_iadd dLedger_settleOne_52 ?_
      refine x_istore_5 dLedger_settleOne_53 rfl rfl ?_
      refine x_iload dLedger_settleOne_55 rfl ?_
      refine x_iload_n dLedger_settleOne_57 rfl ?_
      -- at 58: .if_icmp .eq 32
      have hs : maxR (cV I) D w (i + 1) = if nI i = w then maxR (cV I) D w i else up1 (maxR (cV I) D w i) q (imax (maxR (cV I) D w i q) (D i)) := by rw [maxR, eq2]
      refine x_icmp_eq (tgt := 90) dLedger_settleOne_58 (by decide) (fun c1 => ?_) (fun c1 => ?_)
      · rw [if_pos c1] at hs
        refine x_iincp_4 dLedger_settleOne_90 rfl rfl ?_
        refine x_goto (tgt := 32) dLedger_settleOne_93 (by decide) ?_
        -- at 32: .iload 4
        rw [nI_1]
        exact ih (i + 1) I' _ (by omega) hF (by rw [hs]; exact hr) ho
      · rw [if_neg c1] at hs
        refine x_aload_n dLedger_settleOne_61 rfl ?_
        refine x_getR fl_Ledger_25 rfl dLedger_settleOne_62 rfl rfl rfl ?_
        refine x_iload dLedger_settleOne_65 rfl ?_
        refine x_aload_n dLedger_settleOne_67 rfl ?_
        refine x_getR fl_Ledger_25 rfl dLedger_settleOne_68 rfl rfl rfl ?_
        refine x_iload dLedger_settleOne_71 rfl ?_
        refine x_ialdJ (j := p * 8 + q) dLedger_settleOne_73 rfl rfl (by first | rfl | (simp only [← nI_add, ← pk_mul]; rfl)) (by omega) ?_
        refine x_aload_n dLedger_settleOne_74 rfl ?_
        refine x_getR fl_Ledger_22 rfl dLedger_settleOne_75 rfl rfl rfl ?_
        refine x_iload dLedger_settleOne_78 rfl ?_
        refine x_bipush (v := 8) dLedger_settleOne_80 rfl ?_
        refine x_imul dLedger_settleOne_82 ?_
        refine x_iload_n dLedger_settleOne_83 rfl ?_
        refine x_iadd dLedger_settleOne_84 ?_
        refine x_ialdJ (j := i * 8 + p) dLedger_settleOne_85 rfl rfl (by first | rfl | (simp only [← nI_add, ← pk_mul]; rfl)) (by omega) ?_
        -- at 86: .invokestatic 169
        have r1 : I' 39 (p * 8 + q) = maxR (cV I) D w i q := hr q hq
        have r2 : I' 38 (i * 8 + p) = D i := by rw [hF 38 (by decide)]; exact hD i (by omega)
        rw [r1, r2]
        refine x_mmax dLedger_settleOne_86 ml_Ledger_169 st_max it_Math co_max rfl rfl ?_
        refine x_eqi (y := imax (maxR (cV I) D w i q) (D i)) rfl ?_
        refine x_iastJ (j := p * 8 + q) dLedger_settleOne_89 rfl rfl (by first | rfl | (simp only [← nI_add, ← pk_mul]; rfl)) (by omega) ?_
        refine x_iincp_4 dLedger_settleOne_90 rfl rfl ?_
        refine x_goto (tgt := 32) dLedger_settleOne_93 (by decide) ?_
        -- at 32: .iload 4
        rw [nI_1]
        refine ih (i + 1) _ _ (by omega) (hF.up (by decide) _ _) ?_ ?_
        · rw [hs]
          show eq8 (fun q => _) _
          unfold rowOf
          simp only [up2_n, up2_s, ne_eq, Nat.reduceEqDiff, not_false_eq_true]
          rw [up1_sh]
          exact up1_8 hr q rfl
        · intro j hj
          simp only [up2_n, up2_s, ne_eq, Nat.reduceEqDiff, not_false_eq_true]
          rw [up1, if_neg (by omega)]
          exact ho j hj
  have loop1 : ∀ (k i : Nat) (I' : IM), i + k = 8 → Fr [39] I I' → (∀ q, q < i → I' 39 (p * 8 + q) = 0) → Oth I I' p →
      X mLedger_settleOne G (4, 0, 0) S1 I' L 3 [.ref 35, .int (nI p), .int (nI m), .int w, .int (nI i), .null] [] Post := by
    intro k
    induction k with
    | zero =>
      intro i I' hi hF hz ho
      obtain rfl : i = 8 := by omega
      refine x_iload dLedger_settleOne_3 rfl ?_
      refine x_bipush (v := 8) dLedger_settleOne_5 rfl ?_
      -- at 7: .if_icmp .ge 22
      refine x_icmp_ge (tgt := 29) dLedger_settleOne_7 (by decide) (fun _ => ?_) (fun h => absurd (by decide) h)
      refine x_iconst (v := 0) dLedger_settleOne_29 rfl ?_
      refine x_istore_4 dLedger_settleOne_30 rfl rfl ?_
      -- at 32: .iload 4
      exact loop2 m 0 I' .null (by omega) hF (fun q hq => hz q hq) ho
    | succ k ih =>
      intro i I' hi hF hz ho
      refine x_iload dLedger_settleOne_3 rfl ?_
      refine x_bipush (v := 8) dLedger_settleOne_5 rfl ?_
      -- at 7: .if_icmp .ge 22
      refine x_icmp_ge (tgt := 29) dLedger_settleOne_7 (by decide) (fun h => absurd h (nI_ge (b := 8) (by omega) (by omega))) (fun _ => ?_)
      refine x_aload_n dLedger_settleOne_10 rfl ?_
      refine x_getR fl_Ledger_25 rfl dLedger_settleOne_11 rfl rfl rfl ?_
      refine x_iload_n dLedger_settleOne_14 rfl ?_
      refine x_bipush (v := 8) dLedger_settleOne_15 rfl ?_
      refine x_imul dLedger_settleOne_17 ?_
      refine x_iload dLedger_settleOne_18 rfl ?_
      refine x_iadd dLedger_settleOne_20 ?_
      refine x_iconst (v := 0) dLedger_settleOne_21 rfl ?_
      refine x_iastJ (j := p * 8 + i) dLedger_settleOne_22 rfl rfl (by first | rfl | (simp only [← nI_add, ← pk_mul]; rfl)) (by omega) ?_
      refine x_iincp_4 dLedger_settleOne_23 rfl rfl ?_
      refine x_goto (tgt := 3) dLedger_settleOne_26 (by decide) ?_
      -- at 3: .iload 4
      rw [nI_1]
      refine ih (i + 1) _ (by omega) (hF.up (by decide) _ _) (fun q hq => ?_) (fun j hj => ?_)
      · simp only [up2_n, up2_s, ne_eq, Nat.reduceEqDiff, not_false_eq_true]
        by_cases e : q = i
        · subst e; simp [up1]
        · rw [up1, if_neg (by omega)]
          exact hz q (by omega)
      · simp only [up2_n, up2_s, ne_eq, Nat.reduceEqDiff, not_false_eq_true]
        rw [up1, if_neg (by omega)]
        exact ho j hj
  exact loop1 8 0 I (by omega) Fr.rfl (fun q hq => absurd hq (Nat.not_lt_zero q)) (fun j _ => rfl)
/-- all are settled -/
def OwesN (V : IM) (D : Nat → Nat → Int32) (n nq : Nat) (w : Int32) (m : Nat) (I' : IM) : Prop := ∀ p, p < n → Owes1 V (D p) nq w m p I'
def sp_Ledger_settle : SpT := fun as S I L Post => ∃ (m n nq : Nat) (w : Int32) (D : Nat → Nat → Int32), as = [.ref 35, .int (nI m), .int w] ∧ S = S1 ∧ I 4 8 = nI n ∧ n ≤ 8 ∧ m ≤ 11 ∧ (∀ s, s < m → rng (I 19 s) 8) ∧ VowOk I nq ∧ (∀ p, p < n → ∀ s, s < m → I 38 (s * 8 + p) = D p s) ∧
  ∀ I' : IM, Fr sScr I I' → OwesN (cV I) D n nq w m I' → Post none S1 I' L
theorem Owes1.keep {V : IM} {D : Nat → Int32} {nq : Nat} {w : Int32} {m p p2 : Nat} {I I' : IM} (h : Owes1 V D nq w m p I) (ho : Oth4 I I' p2) (hne : p ≠ p2) : Owes1 V D nq w m p I' := by
  obtain ⟨h1, h2, h3, h4⟩ := h
  obtain ⟨o1, o2⟩ := ho
  obtain ⟨a1, a2, a3⟩ := o2 p hne
  refine ⟨fun q hq => ?_, a2.trans h2, a3.trans h3, a1.trans h4⟩
  rw [← h1 q hq]
  exact o1 _ (by omega)
set_option maxHeartbeats 4000000 in
set_option maxRecDepth 100000 in
theorem c_Ledger_settle : Con mLedger_settle 5 0 0 sp_Ledger_settle := by
  refine con_of_X rfl fun G as S I L Post hs => ?_
  obtain ⟨m, n, nq, w, D, rfl, rfl, hn, hn8, hm, hsv, hv, hD, h1⟩ := hs
  refine ⟨1, Nat.le_of_ble_eq_true rfl, ?_⟩
  show X mLedger_settle G _ S1 I L 0 [.ref 35, .int (nI m), .int w, .null] [] Post
  refine x_iconst (v := 0) dLedger_settle_0 rfl ?_
  refine x_istoren_3 dLedger_settle_1 rfl rfl ?_
  -- at 2: .iload_n 3
  have loop : ∀ (k i : Nat) (I' : IM), i + k = n → Fr sScr I I' → OwesN (cV I) D i nq w m I' →
      X mLedger_settle G (5, 0, 0) S1 I' L 2 [.ref 35, .int (nI m), .int w, .int (nI i)] [] Post := by
    intro k
    induction k with
    | zero =>
      intro i I' hi hF ho
      obtain rfl : i = n := by omega
      refine x_iload_n dLedger_settle_2 rfl ?_
      refine x_aload_n dLedger_settle_3 rfl ?_
      refine x_getR fl_Ledger_47 rfl dLedger_settle_4 rfl rfl rfl ?_
      refine x_getI fl_Ledger_82 rfl dLedger_settle_7 rfl rfl ?_
      -- at 10: .if_icmp .ge 16
      rw [hF 4 (by decide), hn]
      refine x_icmp_ge (tgt := 26) dLedger_settle_10 (by decide) (fun _ => ?_) (fun h => absurd (Int32.le_refl _) h)
      refine x_return dLedger_settle_26 rfl ?_
      exact h1 I' hF ho
    | succ k ih =>
      intro i I' hi hF ho
      refine x_iload_n dLedger_settle_2 rfl ?_
      refine x_aload_n dLedger_settle_3 rfl ?_
      refine x_getR fl_Ledger_47 rfl dLedger_settle_4 rfl rfl rfl ?_
      refine x_getI fl_Ledger_82 rfl dLedger_settle_7 rfl rfl ?_
      -- at 10: .if_icmp .ge 16
      rw [hF 4 (by decide), hn]
      refine x_icmp_ge (tgt := 26) dLedger_settle_10 (by decide) (fun h => absurd h (nI_ge (b := n) (by omega) (by omega))) (fun _ => ?_)
      refine x_aload_n dLedger_settle_13 rfl ?_
      refine x_iload_n dLedger_settle_14 rfl ?_
      refine x_iload_n dLedger_settle_15 rfl ?_
      refine x_iload_n dLedger_settle_16 rfl ?_
      -- at 17: .invokevirtual 165
      have eV : cV I' = cV I := cV_fr (hF.wk (by decide))
      refine x_callV_3 c_Ledger_settleOne ok_Ledger_settleOne ml_Ledger_165 dLedger_settle_17 rfl rfl rfl rfl rfl ?_
      refine ⟨i, m, nq, w, D i, rfl, rfl, by omega, hm, by rw [hF 19 (by decide)]; exact hsv, hv.fr (hF _ (by decide)) (hF _ (by decide)), by rw [hF 38 (by decide)]; exact hD i (by omega), fun I2 hF2 hw2 ho2 => ?_⟩
      rw [eV] at hw2
      refine x_iincp_3 dLedger_settle_20 rfl rfl ?_
      refine x_goto (tgt := 2) dLedger_settle_23 (by decide) ?_
      -- at 2: .iload_n 3
      rw [nI_1]
      refine ih (i + 1) I2 (by omega) (hF.tr hF2) (fun p hp => ?_)
      by_cases e : p = i
      · subst e; exact hw2
      · exact (ho p (by omega)).keep ho2 e
  exact loop n 0 I (by omega) Fr.rfl (fun p hp => absurd hp (Nat.not_lt_zero p))
end
section
-- 24.kept
/-! what is done, kept, at what pain: the class -/
def doneA (V : IM) (R : Nat → Nat → Int32) (q n : Nat) : Int32 := match n with
  | 0 => 0
  | p + 1 => if canV V p q then doneA V R q p + R p q else doneA V R q p
def doneV (V : IM) (n : Nat) (R : Nat → Nat → Int32) (q : Nat) : Int32 := imin (doneA V R q n) (V 11 q)
def keepsV (V : IM) (n : Nat) (R : Nat → Nat → Int32) (q : Nat) : Bool := decide (doneV V n R q = V 11 q)
def keptV (V : IM) (n nq : Nat) (R : Nat → Nat → Int32) : Int32 := bs nq (keepsV V n R)
def worthV (V : IM) (n : Nat) (R : Nat → Nat → Int32) (nq : Nat) : Int32 := match nq with
  | 0 => 0
  | q + 1 => if keepsV V n R q then worthV V n R q + V 12 q else worthV V n R q
def painV (V : IM) (P : Nat → List Int32) (T : Nat → Int32) (p : Nat) : Int32 := bnd (valP (nm6 0 0 (V 4 p) (T p) 0 (V 7 p)) (P 2)) 9999
def painA (V : IM) (P : Nat → List Int32) (T : Nat → Int32) (n : Nat) : Int32 := match n with
  | 0 => 0
  | p + 1 => painA V P T p + painV V P T p
def fullV (V : IM) (T : Nat → Int32) (n : Nat) : Int32 := bs n (fun p => decide (T p = V 8 p))
/-- rows of what is owed -/
def Rows (I : IM) (n : Nat) (R : Nat → Nat → Int32) : Prop := I 4 8 = nI n ∧ n ≤ 8 ∧ ∀ p, p < n → eq8 (rowOf I p) (R p)
theorem Rows.fr {I I' : IM} {n : Nat} {R : Nat → Nat → Int32} (h : Rows I n R) (h1 : I' 4 = I 4) (h2 : I' 39 = I 39) : Rows I' n R := by
  unfold Rows rowOf
  rw [h1, h2]
  exact h
def sp_Ledger_doneOf : SpT := fun as S I L Post => ∃ (q n : Nat) (R : Nat → Nat → Int32), as = [.ref 35, .int (nI q)] ∧ S = S1 ∧ q < 8 ∧ Rows I n R ∧ Post (some (.int (doneV (cV I) n R q))) S1 I L
set_option maxHeartbeats 4000000 in
set_option maxRecDepth 100000 in
theorem c_Ledger_doneOf : Con mLedger_doneOf 3 0 0 sp_Ledger_doneOf := by
  refine con_of_X rfl fun G as S I L Post hs => ?_
  obtain ⟨q, n, R, rfl, rfl, hq, hr, h1⟩ := hs
  have hn8 := hr.2.1
  refine ⟨2, Nat.le_of_ble_eq_true rfl, ?_⟩
  show X mLedger_doneOf G _ S1 I L 0 [.ref 35, .int (nI q), .null, .null] [] Post
  refine x_iconst (v := 0) dLedger_doneOf_0 rfl ?_
  refine x_istoren_2 dLedger_doneOf_1 rfl rfl ?_
  refine x_iconst (v := 0) dLedger_doneOf_2 rfl ?_
  refine x_istoren_3 dLedger_doneOf_3 rfl rfl ?_
  -- at 4: .iload_n 3
  have loop : ∀ (k i : Nat) (acc : Int32), i + k = n → acc = doneA (cV I) R q i → X mLedger_doneOf G (3, 0, 0) S1 I L 4 [.ref 35, .int (nI q), .int acc, .int (nI i)] [] Post := by
    intro k
    induction k with
    | zero =>
      intro i acc hi ha
      obtain rfl : i = n := by omega
      refine x_iload_n dLedger_doneOf_4 rfl ?_
      refine x_aload_n dLedger_doneOf_5 rfl ?_
      refine x_getR fl_Ledger_47 rfl dLedger_doneOf_6 rfl rfl rfl ?_
      refine x_getI fl_Ledger_82 rfl dLedger_doneOf_9 rfl rfl ?_
      -- at 12: .if_icmp .ge 43
      rw [hr.1]
      refine x_icmp_ge (tgt := 55) dLedger_doneOf_12 (by decide) (fun _ => ?_) (fun h => absurd (Int32.le_refl _) h)
      refine x_iload_n dLedger_doneOf_55 rfl ?_
      refine x_aload_n dLedger_doneOf_56 rfl ?_
      refine x_getR fl_Ledger_51 rfl dLedger_doneOf_57 rfl rfl rfl ?_
      refine x_getR fl_Ledger_147 rfl dLedger_doneOf_60 rfl rfl rfl ?_
      refine x_iload_n dLedger_doneOf_63 rfl ?_
      refine x_ialdJ dLedger_doneOf_64 rfl rfl rfl (by omega) ?_
      -- at 65: .invokestatic 184
      refine x_mmin dLedger_doneOf_65 ml_Ledger_184 st_min it_Math co_min rfl rfl ?_
      refine x_ireturn dLedger_doneOf_68 rfl rfl ?_
      rw [ha]
      exact h1
    | succ k ih =>
      intro i acc hi ha
      refine x_iload_n dLedger_doneOf_4 rfl ?_
      refine x_aload_n dLedger_doneOf_5 rfl ?_
      refine x_getR fl_Ledger_47 rfl dLedger_doneOf_6 rfl rfl rfl ?_
      refine x_getI fl_Ledger_82 rfl dLedger_doneOf_9 rfl rfl ?_
      -- at 12: .if_icmp .ge 43
      rw [hr.1]
      refine x_icmp_ge (tgt := 55) dLedger_doneOf_12 (by decide) (fun h => absurd h (nI_ge (b := n) (by omega) (by omega))) (fun _ => ?_)
      refine x_aload_n dLedger_doneOf_15 rfl ?_
      refine x_getR fl_Ledger_47 rfl dLedger_doneOf_16 rfl rfl rfl ?_
      refine x_iload_n dLedger_doneOf_19 rfl ?_
      refine x_aload_n dLedger_doneOf_20 rfl ?_
      refine x_getR fl_Ledger_51 rfl dLedger_doneOf_21 rfl rfl rfl ?_
      refine x_getR fl_Ledger_158 rfl dLedger_doneOf_24 rfl rfl rfl ?_
      refine x_iload_n dLedger_doneOf_27 rfl ?_
      refine x_ialdJ dLedger_doneOf_28 rfl rfl rfl (by omega) ?_
      -- at 29: .invokevirtual 161
      refine x_callV_2 c_Folk_canDo ok_Folk_canDo ml_Ledger_161 dLedger_doneOf_29 rfl rfl rfl rfl rfl ?_
      refine ⟨i, _, rfl, rfl, by omega, fun z => ?_, fun z => ?_⟩
      · refine x_if_eq (tgt := 49) dLedger_doneOf_32 (by decide) (fun h => absurd h (by decide)) (fun _ => ?_)
        refine x_iload_n dLedger_doneOf_35 rfl ?_
        refine x_aload_n dLedger_doneOf_36 rfl ?_
        refine x_getR fl_Ledger_25 rfl dLedger_doneOf_37 rfl rfl rfl ?_
        refine x_iload_n dLedger_doneOf_40 rfl ?_
        refine x_bipush (v := 8) dLedger_doneOf_41 rfl ?_
        refine x_imul dLedger_doneOf_43 ?_
        refine x_iload_n dLedger_doneOf_44 rfl ?_
        refine x_iadd dLedger_doneOf_45 ?_
        refine x_ialdJ (j := i * 8 + q) dLedger_doneOf_46 rfl rfl (by first | rfl | (simp only [← nI_add, ← pk_mul]; rfl)) (by omega) ?_
        -- at 47: .iadd
        rw [show I 39 (i * 8 + q) = R i q from hr.2.2 i (by omega) q hq]
        refine x_iadd dLedger_doneOf_47 ?_
        refine x_istoren_2 dLedger_doneOf_48 rfl rfl ?_
        refine x_iincp_3 dLedger_doneOf_49 rfl rfl ?_
        refine x_goto (tgt := 4) dLedger_doneOf_52 (by decide) ?_
        -- at 4: .iload_n 3
        rw [nI_1]
        refine ih (i + 1) _ (by omega) ?_
        rw [doneA, if_pos (by simpa [canV, cV] using z), ha]
      · refine x_if_eq (tgt := 49) dLedger_doneOf_32 (by decide) (fun _ => ?_) (fun h => absurd (by decide) h)
        refine x_iincp_3 dLedger_doneOf_49 rfl rfl ?_
        refine x_goto (tgt := 4) dLedger_doneOf_52 (by decide) ?_
        -- at 4: .iload_n 3
        rw [nI_1]
        refine ih (i + 1) _ (by omega) ?_
        rw [doneA, if_neg (by simpa [canV, cV] using z), ha]
  exact loop n 0 0 (by omega) rfl
def sp_Ledger_keeps : SpT := fun as S I L Post => ∃ (q n : Nat) (R : Nat → Nat → Int32), as = [.ref 35, .int (nI q)] ∧ S = S1 ∧ q < 8 ∧ Rows I n R ∧ bPost (keepsV (cV I) n R q = true) S1 I L Post
set_option maxHeartbeats 4000000 in
set_option maxRecDepth 100000 in
theorem c_Ledger_keeps : Con mLedger_keeps 4 0 0 sp_Ledger_keeps := by
  refine con_of_X rfl fun G as S I L Post hs => ?_
  obtain ⟨q, n, R, rfl, rfl, hq, hr, h1, h2⟩ := hs
  refine ⟨0, Nat.le_of_ble_eq_true rfl, ?_⟩
  show X mLedger_keeps G _ S1 I L 0 [.ref 35, .int (nI q)] [] Post
  refine x_aload_n dLedger_keeps_0 rfl ?_
  refine x_iload_n dLedger_keeps_1 rfl ?_
  -- at 2: .invokevirtual 190
  refine x_callV_1 c_Ledger_doneOf ok_Ledger_doneOf ml_Ledger_190 dLedger_keeps_2 rfl rfl rfl rfl rfl ?_
  refine ⟨q, n, R, rfl, rfl, hq, hr, ?_⟩
  refine x_aload_n dLedger_keeps_5 rfl ?_
  refine x_getR fl_Ledger_51 rfl dLedger_keeps_6 rfl rfl rfl ?_
  refine x_getR fl_Ledger_147 rfl dLedger_keeps_9 rfl rfl rfl ?_
  refine x_iload_n dLedger_keeps_12 rfl ?_
  refine x_ialdJ dLedger_keeps_13 rfl rfl rfl (by omega) ?_
  -- at 14: .if_icmp .ne 7
  refine x_icmp_ne (tgt := 21) dLedger_keeps_14 (by decide) (fun c1 => ?_) (fun c1 => ?_)
  · refine x_iconst (v := 0) dLedger_keeps_21 rfl ?_
    -- at 22: .ireturn
    refine x_ireturn dLedger_keeps_22 rfl rfl ?_
    exact h2 (by simpa [keepsV, cV] using c1)
  · refine x_iconst (v := 1) dLedger_keeps_17 rfl ?_
    refine x_goto (tgt := 22) dLedger_keeps_18 (by decide) ?_
    -- at 22: .ireturn
    refine x_ireturn dLedger_keeps_22 rfl rfl ?_
    exact h1 (by simpa [keepsV, cV] using c1)
def sp_Ledger_keptBits : SpT := fun as S I L Post => ∃ (n nq : Nat) (R : Nat → Nat → Int32), as = [.ref 35] ∧ S = S1 ∧ Rows I n R ∧ I 13 4 = nI nq ∧ nq ≤ 8 ∧ Post (some (.int (keptV (cV I) n nq R))) S1 I L
set_option maxHeartbeats 4000000 in
set_option maxRecDepth 100000 in
theorem c_Ledger_keptBits : Con mLedger_keptBits 5 0 0 sp_Ledger_keptBits := by
  refine con_of_X rfl fun G as S I L Post hs => ?_
  obtain ⟨n, nq, R, rfl, rfl, hr, hq, hq8, h1⟩ := hs
  refine ⟨2, Nat.le_of_ble_eq_true rfl, ?_⟩
  show X mLedger_keptBits G _ S1 I L 0 [.ref 35, .null, .null] [] Post
  refine x_iconst (v := 0) dLedger_keptBits_0 rfl ?_
  refine x_istoren_1 dLedger_keptBits_1 rfl rfl ?_
  refine x_iconst (v := 0) dLedger_keptBits_2 rfl ?_
  refine x_istoren_2 dLedger_keptBits_3 rfl rfl ?_
  -- at 4: .iload_n 2
  have loop : ∀ (k i : Nat) (acc : Int32), i + k = nq → acc = bs i (keepsV (cV I) n R) → X mLedger_keptBits G (5, 0, 0) S1 I L 4 [.ref 35, .int acc, .int (nI i)] [] Post := by
    intro k
    induction k with
    | zero =>
      intro i acc hi ha
      obtain rfl : i = nq := by omega
      refine x_iload_n dLedger_keptBits_4 rfl ?_
      refine x_aload_n dLedger_keptBits_5 rfl ?_
      refine x_getR fl_Ledger_51 rfl dLedger_keptBits_6 rfl rfl rfl ?_
      refine x_getI fl_Ledger_180 rfl dLedger_keptBits_9 rfl rfl ?_
      -- at 12: .if_icmp .ge 23
      rw [hq]
      refine x_icmp_ge (tgt := 35) dLedger_keptBits_12 (by decide) (fun _ => ?_) (fun h => absurd (Int32.le_refl _) h)
      refine x_iload_n dLedger_keptBits_35 rfl ?_
      -- at 36: .ireturn
      refine x_ireturn dLedger_keptBits_36 rfl rfl ?_
      rw [ha]
      exact h1
    | succ k ih =>
      intro i acc hi ha
      refine x_iload_n dLedger_keptBits_4 rfl ?_
      refine x_aload_n dLedger_keptBits_5 rfl ?_
      refine x_getR fl_Ledger_51 rfl dLedger_keptBits_6 rfl rfl rfl ?_
      refine x_getI fl_Ledger_180 rfl dLedger_keptBits_9 rfl rfl ?_
      -- at 12: .if_icmp .ge 23
      rw [hq]
      refine x_icmp_ge (tgt := 35) dLedger_keptBits_12 (by decide) (fun h => absurd h (nI_ge (b := nq) (by omega) (by omega))) (fun _ => ?_)
      refine x_aload_n dLedger_keptBits_15 rfl ?_
      refine x_iload_n dLedger_keptBits_16 rfl ?_
      -- at 17: .invokevirtual 193
      refine x_callV_1 c_Ledger_keeps ok_Ledger_keeps ml_Ledger_193 dLedger_keptBits_17 rfl rfl rfl rfl rfl ?_
      refine ⟨i, n, R, rfl, rfl, by omega, hr, fun z => ?_, fun z => ?_⟩
      · refine x_if_eq (tgt := 29) dLedger_keptBits_20 (by decide) (fun h => absurd h (by decide)) (fun _ => ?_)
        refine x_iload_n dLedger_keptBits_23 rfl ?_
        refine x_iconst (v := 1) dLedger_keptBits_24 rfl ?_
        refine x_iload_n dLedger_keptBits_25 rfl ?_
        refine x_ishl dLedger_keptBits_26 ?_
        refine x_ior dLedger_keptBits_27 ?_
        refine x_istoren_1 dLedger_keptBits_28 rfl rfl ?_
        refine x_iincp_2 dLedger_keptBits_29 rfl rfl ?_
        refine x_goto (tgt := 4) dLedger_keptBits_32 (by decide) ?_
        -- at 4: .iload_n 2
        rw [nI_1]
        refine ih (i + 1) _ (by omega) ?_
        rw [bs, if_pos z, ha]
        rfl
      · refine x_if_eq (tgt := 29) dLedger_keptBits_20 (by decide) (fun _ => ?_) (fun h => absurd (by decide) h)
        refine x_iincp_2 dLedger_keptBits_29 rfl rfl ?_
        refine x_goto (tgt := 4) dLedger_keptBits_32 (by decide) ?_
        -- at 4: .iload_n 2
        rw [nI_1]
        refine ih (i + 1) _ (by omega) ?_
        rw [bs, if_neg z, ha]
  exact loop nq 0 0 (by omega) rfl
def sp_Ledger_worthKept : SpT := fun as S I L Post => ∃ (n nq : Nat) (R : Nat → Nat → Int32), as = [.ref 35] ∧ S = S1 ∧ Rows I n R ∧ I 13 4 = nI nq ∧ nq ≤ 8 ∧ Post (some (.int (worthV (cV I) n R nq))) S1 I L
set_option maxHeartbeats 4000000 in
set_option maxRecDepth 100000 in
theorem c_Ledger_worthKept : Con mLedger_worthKept 5 0 0 sp_Ledger_worthKept := by
  refine con_of_X rfl fun G as S I L Post hs => ?_
  obtain ⟨n, nq, R, rfl, rfl, hr, hq, hq8, h1⟩ := hs
  refine ⟨2, Nat.le_of_ble_eq_true rfl, ?_⟩
  show X mLedger_worthKept G _ S1 I L 0 [.ref 35, .null, .null] [] Post
  refine x_iconst (v := 0) dLedger_worthKept_0 rfl ?_
  refine x_istoren_1 dLedger_worthKept_1 rfl rfl ?_
  refine x_iconst (v := 0) dLedger_worthKept_2 rfl ?_
  refine x_istoren_2 dLedger_worthKept_3 rfl rfl ?_
  -- at 4: .iload_n 2
  have loop : ∀ (k i : Nat) (acc : Int32), i + k = nq → acc = worthV (cV I) n R i → X mLedger_worthKept G (5, 0, 0) S1 I L 4 [.ref 35, .int acc, .int (nI i)] [] Post := by
    intro k
    induction k with
    | zero =>
      intro i acc hi ha
      obtain rfl : i = nq := by omega
      refine x_iload_n dLedger_worthKept_4 rfl ?_
      refine x_aload_n dLedger_worthKept_5 rfl ?_
      refine x_getR fl_Ledger_51 rfl dLedger_worthKept_6 rfl rfl rfl ?_
      refine x_getI fl_Ledger_180 rfl dLedger_worthKept_9 rfl rfl ?_
      -- at 12: .if_icmp .ge 29
      rw [hq]
      refine x_icmp_ge (tgt := 41) dLedger_worthKept_12 (by decide) (fun _ => ?_) (fun h => absurd (Int32.le_refl _) h)
      refine x_iload_n dLedger_worthKept_41 rfl ?_
      -- at 42: .ireturn
      refine x_ireturn dLedger_worthKept_42 rfl rfl ?_
      rw [ha]
      exact h1
    | succ k ih =>
      intro i acc hi ha
      refine x_iload_n dLedger_worthKept_4 rfl ?_
      refine x_aload_n dLedger_worthKept_5 rfl ?_
      refine x_getR fl_Ledger_51 rfl dLedger_worthKept_6 rfl rfl rfl ?_
      refine x_getI fl_Ledger_180 rfl dLedger_worthKept_9 rfl rfl ?_
      -- at 12: .if_icmp .ge 29
      rw [hq]
      refine x_icmp_ge (tgt := 41) dLedger_worthKept_12 (by decide) (fun h => absurd h (nI_ge (b := nq) (by omega) (by omega))) (fun _ => ?_)
      refine x_aload_n dLedger_worthKept_15 rfl ?_
      refine x_iload_n dLedger_worthKept_16 rfl ?_
      -- at 17: .invokevirtual 193
      refine x_callV_1 c_Ledger_keeps ok_Ledger_keeps ml_Ledger_193 dLedger_worthKept_17 rfl rfl rfl rfl rfl ?_
      refine ⟨i, n, R, rfl, rfl, by omega, hr, fun z => ?_, fun z => ?_⟩
      · refine x_if_eq (tgt := 35) dLedger_worthKept_20 (by decide) (fun h => absurd h (by decide)) (fun _ => ?_)
        refine x_iload_n dLedger_worthKept_23 rfl ?_
        refine x_aload_n dLedger_worthKept_24 rfl ?_
        refine x_getR fl_Ledger_51 rfl dLedger_worthKept_25 rfl rfl rfl ?_
        refine x_getR fl_Ledger_196 rfl dLedger_worthKept_28 rfl rfl rfl ?_
        refine x_iload_n dLedger_worthKept_31 rfl ?_
        refine x_ialdJ dLedger_worthKept_32 rfl rfl rfl (by omega) ?_
        refine x_iadd dLedger_worthKept_33 ?_
        refine x_istoren_1 dLedger_worthKept_34 rfl rfl ?_
        refine x_iincp_2 dLedger_worthKept_35 rfl rfl ?_
        refine x_goto (tgt := 4) dLedger_worthKept_38 (by decide) ?_
        -- at 4: .iload_n 2
        rw [nI_1]
        refine ih (i + 1) _ (by omega) ?_
        rw [worthV, if_pos z, ha]
        rfl
      · refine x_if_eq (tgt := 35) dLedger_worthKept_20 (by decide) (fun _ => ?_) (fun h => absurd (by decide) h)
        refine x_iincp_2 dLedger_worthKept_35 rfl rfl ?_
        refine x_goto (tgt := 4) dLedger_worthKept_38 (by decide) ?_
        -- at 4: .iload_n 2
        rw [nI_1]
        refine ih (i + 1) _ (by omega) ?_
        rw [worthV, if_neg z, ha]
  exact loop nq 0 0 (by omega) rfl
def sp_Ledger_painOf : SpT := fun as S I L Post => ∃ (p t : Nat) (P : Nat → List Int32), as = [.ref 35, .int (nI p)] ∧ S = S1 ∧ p < 8 ∧ I 35 5 = nI t ∧ TxtC I P t ∧ ∀ I' : IM, Fr uScr I I' → Post (some (.int (painV (cV I) P (I 40) p))) S1 I' L
set_option maxHeartbeats 4000000 in
set_option maxRecDepth 100000 in
theorem c_Ledger_painOf : Con mLedger_painOf 4 0 0 sp_Ledger_painOf := by
  refine con_of_X rfl fun G as S I L Post hs => ?_
  obtain ⟨p, t, P, rfl, rfl, hp, ht, hT, h1⟩ := hs
  refine ⟨0, Nat.le_of_ble_eq_true rfl, ?_⟩
  show X mLedger_painOf G _ S1 I L 0 [.ref 35, .int (nI p)] [] Post
  refine x_aload_n dLedger_painOf_0 rfl ?_
  refine x_getR fl_Ledger_59 rfl dLedger_painOf_1 rfl rfl rfl ?_
  -- at 4: .invokevirtual 88
  refine x_callV_0 c_Texts_giveNothing ok_Texts_giveNothing ml_Ledger_88 dLedger_painOf_4 rfl rfl rfl rfl rfl ?_
  refine ⟨rfl, rfl, fun I1 hF1 hz => ?_⟩
  have f7 := hF1 7 (by decide)
  have f40 := hF1 40 (by decide)
  have f10 := hF1 10 (by decide)
  have f35 := hF1 35 (by decide)
  refine x_aload_n dLedger_painOf_7 rfl ?_
  refine x_getR fl_Ledger_59 rfl dLedger_painOf_8 rfl rfl rfl ?_
  refine x_getR fl_Ledger_93 rfl dLedger_painOf_11 rfl rfl rfl ?_
  refine x_iconst (v := 2) dLedger_painOf_14 rfl ?_
  refine x_aload_n dLedger_painOf_15 rfl ?_
  refine x_getR fl_Ledger_47 rfl dLedger_painOf_16 rfl rfl rfl ?_
  refine x_getR fl_Ledger_111 rfl dLedger_painOf_19 rfl rfl rfl ?_
  refine x_iload_n dLedger_painOf_22 rfl ?_
  refine x_ialdJ dLedger_painOf_23 rfl rfl rfl (by omega) ?_
  -- at 24: .iastore
  rw [f7]
  refine x_iastJ (j := 2) dLedger_painOf_24 rfl rfl (by first | rfl | (simp only [← nI_add, ← pk_mul]; rfl)) (by omega) ?_
  -- at 25: .aload_n 0
  refine x_aload_n dLedger_painOf_25 rfl ?_
  refine x_getR fl_Ledger_59 rfl dLedger_painOf_26 rfl rfl rfl ?_
  refine x_getR fl_Ledger_93 rfl dLedger_painOf_29 rfl rfl rfl ?_
  refine x_iconst (v := 3) dLedger_painOf_32 rfl ?_
  refine x_aload_n dLedger_painOf_33 rfl ?_
  refine x_getR fl_Ledger_28 rfl dLedger_painOf_34 rfl rfl rfl ?_
  refine x_iload_n dLedger_painOf_37 rfl ?_
  refine x_ialdJ dLedger_painOf_38 rfl rfl rfl (by omega) ?_
  -- at 39: .iastore
  simp only [up2_n, up2_s, ne_eq, Nat.reduceEqDiff, not_false_eq_true, f40]
  refine x_iastJ (j := 3) dLedger_painOf_39 rfl rfl (by first | rfl | (simp only [← nI_add, ← pk_mul]; rfl)) (by omega) ?_
  -- at 40: .aload_n 0
  refine x_aload_n dLedger_painOf_40 rfl ?_
  refine x_getR fl_Ledger_59 rfl dLedger_painOf_41 rfl rfl rfl ?_
  refine x_getR fl_Ledger_93 rfl dLedger_painOf_44 rfl rfl rfl ?_
  refine x_iconst (v := 5) dLedger_painOf_47 rfl ?_
  refine x_aload_n dLedger_painOf_48 rfl ?_
  refine x_getR fl_Ledger_47 rfl dLedger_painOf_49 rfl rfl rfl ?_
  refine x_getR fl_Ledger_199 rfl dLedger_painOf_52 rfl rfl rfl ?_
  refine x_iload_n dLedger_painOf_55 rfl ?_
  refine x_ialdJ dLedger_painOf_56 rfl rfl rfl (by omega) ?_
  -- at 57: .iastore
  simp only [up2_n, up2_s, ne_eq, Nat.reduceEqDiff, not_false_eq_true, f10]
  refine x_iastJ (j := 5) dLedger_painOf_57 rfl rfl (by first | rfl | (simp only [← nI_add, ← pk_mul]; rfl)) (by omega) ?_
  refine x_aload_n dLedger_painOf_58 rfl ?_
  refine x_getR fl_Ledger_59 rfl dLedger_painOf_59 rfl rfl rfl ?_
  refine x_aload_n dLedger_painOf_62 rfl ?_
  refine x_getI fl_Ledger_9 rfl dLedger_painOf_63 rfl rfl ?_
  refine x_iconst (v := 2) dLedger_painOf_66 rfl ?_
  -- at 67: .invokevirtual 117
  simp only [up2_n, up2_s, ne_eq, Nat.reduceEqDiff, not_false_eq_true, f35]
  rw [ht]
  have hT2 := hT.fr (I' := up2 (up2 (up2 I1 33 2 (I 7 p)) 33 3 (I 40 p)) 33 5 (I 10 p)) (by simp only [up2_n, up2_s, ne_eq, Nat.reduceEqDiff, not_false_eq_true, hF1 32 (by decide)]) (by simp only [up2_n, up2_s, ne_eq, Nat.reduceEqDiff, not_false_eq_true, hF1 31 (by decide)])
  obtain ⟨a, ha, hb, hab, hc, hwf⟩ := hT2.2 2 (by omega)
  refine x_callV_2 c_Texts_value ok_Texts_value ml_Ledger_117 dLedger_painOf_67 rfl rfl rfl rfl rfl ?_
  refine ⟨t, 2, a, P 2, rfl, rfl, hT.1, by omega, ha, hb, hab, hc, hwf, fun I2 hF2 => ?_⟩
  have eV : valP (up2 (up2 (up2 I1 33 2 (I 7 p)) 33 3 (I 40 p)) 33 5 (I 10 p) 33) (P 2) = valP (nm6 0 0 (cV I 4 p) (I 40 p) 0 (cV I 7 p)) (P 2) := by
    refine valP_congr (h := 0) (o := 1) (fun j hj => ?_) hwf
    simp only [up2_n, up2_s, ne_eq, Nat.reduceEqDiff, not_false_eq_true]
    rcases (show j = 0 ∨ j = 1 ∨ j = 2 ∨ j = 3 ∨ j = 4 ∨ j = 5 by omega) with rfl | rfl | rfl | rfl | rfl | rfl <;> simp [up1, nm6, cV, hz]
  rw [eV]
  refine x_sipush (v := 9999) dLedger_painOf_70 rfl ?_
  -- at 73: .invokestatic 120
  refine x_callSN_2 c_W_bounded ok_W_bounded nw_Ledger_120 dLedger_painOf_73 rfl rfl ?_
  refine ⟨_, _, rfl, ?_⟩
  refine x_ireturn dLedger_painOf_76 rfl rfl ?_
  exact h1 I2 (fun i hi => by
    simp only [List.mem_cons, List.not_mem_nil, or_false, not_or] at hi
    rw [hF2 i (by simp; omega), up2_n _ _ _ (by omega), up2_n _ _ _ (by omega), up2_n _ _ _ (by omega), hF1 i (by simp; omega)])
def sp_Ledger_painOfAll : SpT := fun as S I L Post => ∃ (n t : Nat) (P : Nat → List Int32), as = [.ref 35] ∧ S = S1 ∧ I 4 8 = nI n ∧ n ≤ 8 ∧ I 35 5 = nI t ∧ TxtC I P t ∧ ∀ I' : IM, Fr uScr I I' → Post (some (.int (painA (cV I) P (I 40) n))) S1 I' L
set_option maxHeartbeats 4000000 in
set_option maxRecDepth 100000 in
theorem c_Ledger_painOfAll : Con mLedger_painOfAll 5 0 0 sp_Ledger_painOfAll := by
  refine con_of_X rfl fun G as S I L Post hs => ?_
  obtain ⟨n, t, P, rfl, rfl, hn, hn8, ht, hT, h1⟩ := hs
  refine ⟨2, Nat.le_of_ble_eq_true rfl, ?_⟩
  show X mLedger_painOfAll G _ S1 I L 0 [.ref 35, .null, .null] [] Post
  refine x_iconst (v := 0) dLedger_painOfAll_0 rfl ?_
  refine x_istoren_1 dLedger_painOfAll_1 rfl rfl ?_
  refine x_iconst (v := 0) dLedger_painOfAll_2 rfl ?_
  refine x_istoren_2 dLedger_painOfAll_3 rfl rfl ?_
  -- at 4: .iload_n 2
  have loop : ∀ (k i : Nat) (acc : Int32) (I' : IM), i + k = n → Fr uScr I I' → acc = painA (cV I) P (I 40) i → X mLedger_painOfAll G (5, 0, 0) S1 I' L 4 [.ref 35, .int acc, .int (nI i)] [] Post := by
    intro k
    induction k with
    | zero =>
      intro i acc I' hi hF ha
      obtain rfl : i = n := by omega
      refine x_iload_n dLedger_painOfAll_4 rfl ?_
      refine x_aload_n dLedger_painOfAll_5 rfl ?_
      refine x_getR fl_Ledger_47 rfl dLedger_painOfAll_6 rfl rfl rfl ?_
      refine x_getI fl_Ledger_82 rfl dLedger_painOfAll_9 rfl rfl ?_
      -- at 12: .if_icmp .ge 17
      rw [hF 4 (by decide), hn]
      refine x_icmp_ge (tgt := 29) dLedger_painOfAll_12 (by decide) (fun _ => ?_) (fun h => absurd (Int32.le_refl _) h)
      refine x_iload_n dLedger_painOfAll_29 rfl ?_
      -- at 30: .ireturn
      refine x_ireturn dLedger_painOfAll_30 rfl rfl ?_
      rw [ha]
      exact h1 I' hF
    | succ k ih =>
      intro i acc I' hi hF ha
      refine x_iload_n dLedger_painOfAll_4 rfl ?_
      refine x_aload_n dLedger_painOfAll_5 rfl ?_
      refine x_getR fl_Ledger_47 rfl dLedger_painOfAll_6 rfl rfl rfl ?_
      refine x_getI fl_Ledger_82 rfl dLedger_painOfAll_9 rfl rfl ?_
      -- at 12: .if_icmp .ge 17
      rw [hF 4 (by decide), hn]
      refine x_icmp_ge (tgt := 29) dLedger_painOfAll_12 (by decide) (fun h => absurd h (nI_ge (b := n) (by omega) (by omega))) (fun _ => ?_)
      have eV : cV I' = cV I := cV_fr (hF.wk (by decide))
      have e40 := hF 40 (by decide)
      refine x_iload_n dLedger_painOfAll_15 rfl ?_
      refine x_aload_n dLedger_painOfAll_16 rfl ?_
      refine x_iload_n dLedger_painOfAll_17 rfl ?_
      -- at 18: .invokevirtual 202
      refine x_callV_1 c_Ledger_painOf ok_Ledger_painOf ml_Ledger_202 dLedger_painOfAll_18 rfl rfl rfl rfl rfl ?_
      refine ⟨i, t, P, rfl, rfl, by omega, by rw [hF 35 (by decide)]; exact ht, hT.fr (hF _ (by decide)) (hF _ (by decide)), fun I2 hF2 => ?_⟩
      rw [eV, e40]
      refine x_iadd dLedger_painOfAll_21 ?_
      refine x_istoren_1 dLedger_painOfAll_22 rfl rfl ?_
      refine x_iincp_2 dLedger_painOfAll_23 rfl rfl ?_
      refine x_goto (tgt := 4) dLedger_painOfAll_26 (by decide) ?_
      -- at 4: .iload_n 2
      rw [nI_1]
      refine ih (i + 1) _ I2 (by omega) (hF.tr hF2) ?_
      rw [painA, ha]
  exact loop n 0 0 I (by omega) Fr.rfl rfl
def outV (V : IM) (P : Nat → List Int32) (n nq : Nat) (R : Nat → Nat → Int32) (T : Nat → Int32) (w : Int32) : Int32 := if w = 0 then keptV V n nq R else if w = 1 then worthV V n R nq else painA V P T n
def sp_Ledger_outcome : SpT := fun as S I L Post => ∃ (n nq t : Nat) (w : Int32) (R : Nat → Nat → Int32) (P : Nat → List Int32), as = [.ref 35, .int w] ∧ S = S1 ∧ Rows I n R ∧ I 13 4 = nI nq ∧ nq ≤ 8 ∧ I 35 5 = nI t ∧ TxtC I P t ∧ ∀ I' : IM, Fr uScr I I' → Post (some (.int (outV (cV I) P n nq R (I 40) w))) S1 I' L
set_option maxHeartbeats 4000000 in
set_option maxRecDepth 100000 in
theorem c_Ledger_outcome : Con mLedger_outcome 6 0 0 sp_Ledger_outcome := by
  refine con_of_X rfl fun G as S I L Post hs => ?_
  obtain ⟨n, nq, t, w, R, P, rfl, rfl, hr, hq, hq8, ht, hT, h1⟩ := hs
  refine ⟨0, Nat.le_of_ble_eq_true rfl, ?_⟩
  show X mLedger_outcome G _ S1 I L 0 [.ref 35, .int w] [] Post
  refine x_iload_n dLedger_outcome_0 rfl ?_
  -- at 1: .ifCond .ne 10
  refine x_if_ne (tgt := 11) dLedger_outcome_1 (by decide) (fun c1 => ?_) (fun c1 => ?_)
  · refine x_iload_n dLedger_outcome_11 rfl ?_
    refine x_iconst (v := 1) dLedger_outcome_12 rfl ?_
    -- at 13: .if_icmp .ne 10
    refine x_icmp_ne (tgt := 23) dLedger_outcome_13 (by decide) (fun c2 => ?_) (fun c2 => ?_)
    · refine x_aload_n dLedger_outcome_23 rfl ?_
      -- at 24: .invokevirtual 212
      refine x_callV_0 c_Ledger_painOfAll ok_Ledger_painOfAll ml_Ledger_212 dLedger_outcome_24 rfl rfl rfl rfl rfl ?_
      refine ⟨n, t, P, rfl, rfl, hr.1, hr.2.1, ht, hT, fun I' hF => ?_⟩
      refine x_ireturn dLedger_outcome_27 rfl rfl ?_
      have := h1 I' hF
      rw [outV, if_neg c1, if_neg c2] at this
      exact this
    · refine x_aload_n dLedger_outcome_16 rfl ?_
      -- at 17: .invokevirtual 209
      refine x_callV_0 c_Ledger_worthKept ok_Ledger_worthKept ml_Ledger_209 dLedger_outcome_17 rfl rfl rfl rfl rfl ?_
      refine ⟨n, nq, R, rfl, rfl, hr, hq, hq8, ?_⟩
      refine x_goto (tgt := 27) dLedger_outcome_20 (by decide) ?_
      -- at 27: .ireturn
      refine x_ireturn dLedger_outcome_27 rfl rfl ?_
      have := h1 I Fr.rfl
      rw [outV, if_neg c1, if_pos c2] at this
      exact this
  · refine x_aload_n dLedger_outcome_4 rfl ?_
    -- at 5: .invokevirtual 205
    refine x_callV_0 c_Ledger_keptBits ok_Ledger_keptBits ml_Ledger_205 dLedger_outcome_5 rfl rfl rfl rfl rfl ?_
    refine ⟨n, nq, R, rfl, rfl, hr, hq, hq8, ?_⟩
    refine x_goto (tgt := 27) dLedger_outcome_8 (by decide) ?_
    -- at 27: .ireturn
    refine x_ireturn dLedger_outcome_27 rfl rfl ?_
    have := h1 I Fr.rfl
    rw [outV, if_pos c1] at this
    exact this
def sp_Ledger_fullBits : SpT := fun as S I L Post => ∃ n : Nat, as = [.ref 35] ∧ S = S1 ∧ I 4 8 = nI n ∧ n ≤ 8 ∧ Post (some (.int (fullV (cV I) (I 40) n))) S1 I L
set_option maxHeartbeats 4000000 in
set_option maxRecDepth 100000 in
theorem c_Ledger_fullBits : Con mLedger_fullBits 2 0 0 sp_Ledger_fullBits := by
  refine con_of_X rfl fun G as S I L Post hs => ?_
  obtain ⟨n, rfl, rfl, hn, hn8, h1⟩ := hs
  refine ⟨2, Nat.le_of_ble_eq_true rfl, ?_⟩
  show X mLedger_fullBits G _ S1 I L 0 [.ref 35, .null, .null] [] Post
  refine x_iconst (v := 0) dLedger_fullBits_0 rfl ?_
  refine x_istoren_1 dLedger_fullBits_1 rfl rfl ?_
  refine x_iconst (v := 0) dLedger_fullBits_2 rfl ?_
  refine x_istoren_2 dLedger_fullBits_3 rfl rfl ?_
  -- at 4: .iload_n 2
  have loop : ∀ (k i : Nat) (acc : Int32), i + k = n → acc = fullV (cV I) (I 40) i → X mLedger_fullBits G (2, 0, 0) S1 I L 4 [.ref 35, .int acc, .int (nI i)] [] Post := by
    intro k
    induction k with
    | zero =>
      intro i acc hi ha
      obtain rfl : i = n := by omega
      refine x_iload_n dLedger_fullBits_4 rfl ?_
      refine x_aload_n dLedger_fullBits_5 rfl ?_
      refine x_getR fl_Ledger_47 rfl dLedger_fullBits_6 rfl rfl rfl ?_
      refine x_getI fl_Ledger_82 rfl dLedger_fullBits_9 rfl rfl ?_
      -- at 12: .if_icmp .ge 33
      rw [hn]
      refine x_icmp_ge (tgt := 45) dLedger_fullBits_12 (by decide) (fun _ => ?_) (fun h => absurd (Int32.le_refl _) h)
      refine x_iload_n dLedger_fullBits_45 rfl ?_
      -- at 46: .ireturn
      refine x_ireturn dLedger_fullBits_46 rfl rfl ?_
      rw [ha]
      exact h1
    | succ k ih =>
      intro i acc hi ha
      refine x_iload_n dLedger_fullBits_4 rfl ?_
      refine x_aload_n dLedger_fullBits_5 rfl ?_
      refine x_getR fl_Ledger_47 rfl dLedger_fullBits_6 rfl rfl rfl ?_
      refine x_getI fl_Ledger_82 rfl dLedger_fullBits_9 rfl rfl ?_
      -- at 12: .if_icmp .ge 33
      rw [hn]
      refine x_icmp_ge (tgt := 45) dLedger_fullBits_12 (by decide) (fun h => absurd h (nI_ge (b := n) (by omega) (by omega))) (fun _ => ?_)
      refine x_aload_n dLedger_fullBits_15 rfl ?_
      refine x_getR fl_Ledger_28 rfl dLedger_fullBits_16 rfl rfl rfl ?_
      refine x_iload_n dLedger_fullBits_19 rfl ?_
      refine x_ialdJ dLedger_fullBits_20 rfl rfl rfl (by omega) ?_
      refine x_aload_n dLedger_fullBits_21 rfl ?_
      refine x_getR fl_Ledger_47 rfl dLedger_fullBits_22 rfl rfl rfl ?_
      refine x_getR fl_Ledger_187 rfl dLedger_fullBits_25 rfl rfl rfl ?_
      refine x_iload_n dLedger_fullBits_28 rfl ?_
      refine x_ialdJ dLedger_fullBits_29 rfl rfl rfl (by omega) ?_
      -- at 30: .if_icmp .ne 9
      refine x_icmp_ne (tgt := 39) dLedger_fullBits_30 (by decide) (fun c1 => ?_) (fun c1 => ?_)
      · refine x_iincp_2 dLedger_fullBits_39 rfl rfl ?_
        refine x_goto (tgt := 4) dLedger_fullBits_42 (by decide) ?_
        -- at 4: .iload_n 2
        rw [nI_1]
        refine ih (i + 1) _ (by omega) ?_
        rw [fullV, bs, if_neg (by simpa [cV] using c1), ha]
        rfl
      · refine x_iload_n dLedger_fullBits_33 rfl ?_
        refine x_iconst (v := 1) dLedger_fullBits_34 rfl ?_
        refine x_iload_n dLedger_fullBits_35 rfl ?_
        refine x_ishl dLedger_fullBits_36 ?_
        refine x_ior dLedger_fullBits_37 ?_
        refine x_istoren_1 dLedger_fullBits_38 rfl rfl ?_
        refine x_iincp_2 dLedger_fullBits_39 rfl rfl ?_
        refine x_goto (tgt := 4) dLedger_fullBits_42 (by decide) ?_
        -- at 4: .iload_n 2
        rw [nI_1]
        refine ih (i + 1) _ (by omega) ?_
        rw [fullV, bs, if_pos (by simpa [cV] using c1), ha]
        rfl
  exact loop n 0 0 (by omega) rfl
end
section
-- 25.reckon
/-! all reckoned; one saying more: the class -/
def DD (V : IM) (P : Nat → List Int32) (C : Nat → Int32) (p s : Nat) : Int32 := shareV V P (C s) s p
def sp_Ledger_bindAll : SpT := fun as S I L Post => ∃ (m n nq : Nat) (P : Nat → List Int32), as = [.ref 35] ∧ S = S1 ∧ I 18 4 = nI m ∧ m ≤ 10 ∧ (∀ s, s < m → SayV (cV I) s) ∧ (∀ s, s < m → ∃ c, c < 256 ∧ I 37 s = nI c) ∧ LisOk I P n ∧ VowOk I nq ∧
  ∀ I' : IM, Fr [33, 34, 38, 39, 40, 41, 42] I I' → (∀ s, s < m → DueRow (cV I) P n (I 37 s) s I') → OwesN (cV I) (DD (cV I) P (I 37)) n nq (-1) m I' → Post none S1 I' L
set_option maxHeartbeats 4000000 in
set_option maxRecDepth 100000 in
theorem c_Ledger_bindAll : Con mLedger_bindAll 6 0 0 sp_Ledger_bindAll := by
  refine con_of_X rfl fun G as S I L Post hs => ?_
  obtain ⟨m, n, nq, P, rfl, rfl, hm, hm10, hsv, hcl, hok, hv, h1⟩ := hs
  have hn8 := hok.2.1
  refine ⟨1, Nat.le_of_ble_eq_true rfl, ?_⟩
  show X mLedger_bindAll G _ S1 I L 0 [.ref 35, .null] [] Post
  refine x_iconst (v := 0) dLedger_bindAll_0 rfl ?_
  refine x_istoren_1 dLedger_bindAll_1 rfl rfl ?_
  -- at 2: .iload_n 1
  have loop : ∀ (k i : Nat) (I' : IM), i + k = m → Fr [33, 34, 38] I I' → (∀ s, s < i → DueRow (cV I) P n (I 37 s) s I') → X mLedger_bindAll G (6, 0, 0) S1 I' L 2 [.ref 35, .int (nI i)] [] Post := by
    intro k
    induction k with
    | zero =>
      intro i I' hi hF hd
      obtain rfl : i = m := by omega
      have eV : cV I' = cV I := cV_fr (hF.wk (by decide))
      refine x_iload_n dLedger_bindAll_2 rfl ?_
      refine x_aload_n dLedger_bindAll_3 rfl ?_
      refine x_getR fl_Ledger_55 rfl dLedger_bindAll_4 rfl rfl rfl ?_
      refine x_getI fl_Ledger_70 rfl dLedger_bindAll_7 rfl rfl ?_
      -- at 10: .if_icmp .ge 14
      rw [hF 18 (by decide), hm]
      refine x_icmp_ge (tgt := 24) dLedger_bindAll_10 (by decide) (fun _ => ?_) (fun h => absurd (Int32.le_refl _) h)
      refine x_aload_n dLedger_bindAll_24 rfl ?_
      refine x_aload_n dLedger_bindAll_25 rfl ?_
      refine x_getR fl_Ledger_55 rfl dLedger_bindAll_26 rfl rfl rfl ?_
      refine x_getI fl_Ledger_70 rfl dLedger_bindAll_29 rfl rfl ?_
      refine x_iconst (v := -1) dLedger_bindAll_32 rfl ?_
      -- at 33: .invokevirtual 134
      rw [hF 18 (by decide), hm]
      refine x_callV_2 c_Ledger_settle ok_Ledger_settle ml_Ledger_134 dLedger_bindAll_33 rfl rfl rfl rfl rfl ?_
      refine ⟨i, n, nq, -1, DD (cV I) P (I 37), rfl, rfl, by rw [hF 4 (by decide)]; exact hok.1, hn8, by omega, fun s hs => by rw [hF 19 (by decide)]; exact (hsv s hs).1, hv.fr (hF _ (by decide)) (hF _ (by decide)), fun p hp s hs => hd s hs p hp, fun I2 hF2 ho => ?_⟩
      rw [eV] at ho
      refine x_return dLedger_bindAll_36 rfl ?_
      refine h1 I2 ((hF.wk (by decide)).tr (hF2.wk (by decide))) (fun s hs p hp => ?_) ho
      rw [hF2 38 (by decide)]
      exact hd s hs p hp
    | succ k ih =>
      intro i I' hi hF hd
      have eV : cV I' = cV I := cV_fr (hF.wk (by decide))
      refine x_iload_n dLedger_bindAll_2 rfl ?_
      refine x_aload_n dLedger_bindAll_3 rfl ?_
      refine x_getR fl_Ledger_55 rfl dLedger_bindAll_4 rfl rfl rfl ?_
      refine x_getI fl_Ledger_70 rfl dLedger_bindAll_7 rfl rfl ?_
      -- at 10: .if_icmp .ge 14
      rw [hF 18 (by decide), hm]
      refine x_icmp_ge (tgt := 24) dLedger_bindAll_10 (by decide) (fun h => absurd h (nI_ge (b := m) (by omega) (by omega))) (fun _ => ?_)
      refine x_aload_n dLedger_bindAll_13 rfl ?_
      refine x_iload_n dLedger_bindAll_14 rfl ?_
      -- at 15: .invokevirtual 131
      obtain ⟨c, hc, ec⟩ := hcl i (by omega)
      have e37 := hF 37 (by decide)
      refine x_callV_1 c_Ledger_bindBy ok_Ledger_bindBy ml_Ledger_131 dLedger_bindAll_15 rfl rfl rfl rfl rfl ?_
      refine ⟨i, n, c, P, rfl, rfl, by omega, by rw [eV]; exact hsv i (by omega), by rw [e37]; exact ec, hc, hok.fr (hF.wk (by decide)), fun I2 hF2 hr ho => ?_⟩
      rw [eV, e37] at hr
      refine x_iincp_1 dLedger_bindAll_18 rfl rfl ?_
      refine x_goto (tgt := 2) dLedger_bindAll_21 (by decide) ?_
      -- at 2: .iload_n 1
      rw [nI_1]
      refine ih (i + 1) I2 (by omega) (hF.tr hF2) (fun s hs p hp => ?_)
      by_cases e : s = i
      · subst e; exact hr p hp
      · rw [ho _ (by omega)]
        exact hd s (by omega) p hp
  exact loop m 0 I (by omega) Fr.rfl (fun s hs => absurd hs (Nat.not_lt_zero s))
/-- who hears CLEARLY, by hearing alone -/
def CC (V : IM) (P : Nat → List Int32) (n : Nat) : Nat → Int32 := fun s => bs n (clF V P s)
/-- the class's rows have all been reckoned, for m rows -/
def RK (V : IM) (P : Nat → List Int32) (n m : Nat) (I' : IM) : Prop := Hrd V P n m I' ∧ ∀ s, s < m → DueRow V P n (CC V P n s) s I'
def sp_Ledger_reckon : SpT := fun as S I L Post => ∃ (t m n nq : Nat) (P : Nat → List Int32), as = [.ref 35, .int (nI t)] ∧ S = S1 ∧ I 18 4 = nI m ∧ m ≤ 10 ∧ (∀ s, s < m → SayV (cV I) s) ∧ PplOk I n ∧ TxtC I P t ∧ VowOk I nq ∧
  ∀ I' : IM, Fr [33, 34, 35, 36, 37, 38, 39, 40, 41, 42] I I' → I' 35 5 = nI t → RK (cV I) P n m I' → OwesN (cV I) (DD (cV I) P (CC (cV I) P n)) n nq (-1) m I' → Post none S1 I' L
theorem DD_congr {V : IM} {P : Nat → List Int32} {C C' : Nat → Int32} {n nq m : Nat} {w : Int32} {I' : IM} (hC : ∀ s, s < m → C s = C' s) (h : OwesN V (DD V P C) n nq w m I') : OwesN V (DD V P C') n nq w m I' := by
  intro p hp
  have e : maxR V (DD V P C p) w m = maxR V (DD V P C' p) w m := maxR_congr m (fun s hs => by unfold DD; rw [hC s hs])
  have h2 := h p hp
  unfold Owes1 tot1 fin1 str1 at h2 ⊢
  rw [e] at h2
  exact h2
set_option maxHeartbeats 4000000 in
set_option maxRecDepth 100000 in
theorem c_Ledger_reckon : Con mLedger_reckon 7 0 0 sp_Ledger_reckon := by
  refine con_of_X rfl fun G as S I L Post hs => ?_
  obtain ⟨t, m, n, nq, P, rfl, rfl, hm, hm10, hsv, hpp, hT, hv, h1⟩ := hs
  refine ⟨0, Nat.le_of_ble_eq_true rfl, ?_⟩
  show X mLedger_reckon G _ S1 I L 0 [.ref 35, .int (nI t)] [] Post
  refine x_aload_n dLedger_reckon_0 rfl ?_
  refine x_iload_n dLedger_reckon_1 rfl ?_
  -- at 2: .invokevirtual 63
  refine x_callV_1 c_Ledger_listen ok_Ledger_listen ml_Ledger_63 dLedger_reckon_2 rfl rfl rfl rfl rfl ?_
  refine ⟨t, m, n, P, rfl, rfl, hm, hm10, hsv, hpp, hT, fun I1 hF1 ht hh => ?_⟩
  have eV : cV I1 = cV I := cV_fr (hF1.wk (by decide))
  have hok1 : LisOk I1 P n := (hpp.fr (hF1.wk (by decide))).lis2 ht (hT.fr (hF1 _ (by decide)) (hF1 _ (by decide)))
  have hn8 := hpp.2.1
  refine x_aload_n dLedger_reckon_5 rfl ?_
  -- at 6: .invokevirtual 67
  refine x_callV_0 c_Ledger_bindAll ok_Ledger_bindAll ml_Ledger_67 dLedger_reckon_6 rfl rfl rfl rfl rfl ?_
  refine ⟨m, n, nq, P, rfl, rfl, by rw [hF1 18 (by decide)]; exact hm, hm10, by rw [eV]; exact hsv, fun s hs => ?_, hok1, hv.fr (hF1 _ (by decide)) (hF1 _ (by decide)), fun I2 hF2 hd ho => ?_⟩
  · obtain ⟨c, hc, e⟩ := bs_nat (clF (cV I) P s) hn8
    exact ⟨c, hc, (hh s hs).2.trans e⟩
  rw [eV] at hd ho
  refine x_return dLedger_reckon_9 rfl ?_
  have e37 : ∀ s, s < m → I1 37 s = CC (cV I) P n s := fun s hs => (hh s hs).2
  refine h1 I2 ((hF1.wk (by decide)).tr (hF2.wk (by decide))) ?_ ⟨fun s hs => ?_, fun s hs => ?_⟩ (DD_congr e37 ho)
  · rw [hF2 35 (by decide)]
    exact ht
  · unfold HrdRow
    rw [hF2 36 (by decide), hF2 37 (by decide)]
    exact hh s hs
  · rw [← e37 s hs]
    exact hd s hs
/-- a row of SAYINGS put anew -/
def sputV (V : IM) (m : Nat) (q h : Int32) : IM := up2 (up2 (up2 (up2 V 14 m q) 15 m (h / 100)) 16 m (rem (h / 10) 10)) 17 m (rem h 10)
theorem cV_put (I : IM) (m : Nat) (q h : Int32) : cV (cSput I m q h) = sputV (cV I) m q h := by
  funext a
  by_cases h14 : a = 14
  · subst h14; unfold sputV cSput cV; simp only [up2_n, up2_s, ne_eq, Nat.reduceEqDiff, not_false_eq_true]
  by_cases h15 : a = 15
  · subst h15; unfold sputV cSput cV; simp only [up2_n, up2_s, ne_eq, Nat.reduceEqDiff, not_false_eq_true]
  by_cases h16 : a = 16
  · subst h16; unfold sputV cSput cV; simp only [up2_n, up2_s, ne_eq, Nat.reduceEqDiff, not_false_eq_true]
  by_cases h17 : a = 17
  · subst h17; unfold sputV cSput cV; simp only [up2_n, up2_s, ne_eq, Nat.reduceEqDiff, not_false_eq_true]
  unfold sputV
  rw [up2_n _ _ _ h17, up2_n _ _ _ h16, up2_n _ _ _ h15, up2_n _ _ _ h14]
  unfold cV cSput
  split <;> first | rfl | (exfalso; omega) | simp only [up2_n, up2_s, ne_eq, Nat.reduceEqDiff, not_false_eq_true]
theorem hear_put (V : IM) (P : Nat → List Int32) (m : Nat) (q h : Int32) {s : Nat} (hs : s ≠ m) (p : Nat) : hearV (sputV V m q h) P s p = hearV V P s p := by
  unfold hearV farV whereV startV sputV
  simp only [up2_n, up2_s, ne_eq, Nat.reduceEqDiff, not_false_eq_true, up1, hs, if_false]
theorem share_put (V : IM) (P : Nat → List Int32) (m : Nat) (q h : Int32) {s : Nat} (hs : s ≠ m) (c : Int32) (p : Nat) : shareV (sputV V m q h) P c s p = shareV V P c s p := by
  unfold shareV canV sputV
  simp only [up2_n, up2_s, ne_eq, Nat.reduceEqDiff, not_false_eq_true, up1, hs, if_false]
theorem RK.put {V : IM} {P : Nat → List Int32} {n m : Nat} {I I' : IM} (h : RK V P n m I) (q hw : Int32) (e1 : ∀ s, s < m → ∀ p, p < n → I' 36 (s * 8 + p) = I 36 (s * 8 + p)) (e2 : ∀ s, s < m → I' 37 s = I 37 s) (e3 : ∀ s, s < m → ∀ p, p < n → I' 38 (s * 8 + p) = I 38 (s * 8 + p)) : RK (sputV V m q hw) P n m I' := by
  have hC : ∀ s, s < m → CC (sputV V m q hw) P n s = CC V P n s := fun s hs => bs_congr n (fun p _ => by
    unfold clF
    rw [hear_put V P m q hw (by omega) p])
  refine ⟨fun s hs => ⟨fun p hp => ?_, ?_⟩, fun s hs p hp => ?_⟩
  · rw [e1 s hs p hp, hear_put V P m q hw (by omega) p]
    exact (h.1 s hs).1 p hp
  · rw [e2 s hs, (h.1 s hs).2]
    exact (hC s hs).symm
  · rw [e3 s hs p hp, hC s hs, share_put V P m q hw (by omega) _ p]
    exact h.2 s hs p hp
def sp_Ledger_sayMore : SpT := fun as S I L Post => ∃ (t m n nq q : Nat) (h : Int32) (P : Nat → List Int32), as = [.ref 35, .int (nI q), .int h] ∧ S = S1 ∧ I 18 4 = nI m ∧ m ≤ 10 ∧ (∀ s, s < m → SayV (cV I) s) ∧ SayV (sputV (cV I) m (nI q) h) m ∧ PplOk I n ∧ I 35 5 = nI t ∧ TxtC I P t ∧ VowOk I nq ∧ RK (cV I) P n m I ∧
  ∀ I' : IM, Fr [19, 20, 21, 22, 33, 34, 36, 37, 38, 39, 40, 41, 42] I I' → cV I' = sputV (cV I) m (nI q) h → RK (cV I') P n m I' → OwesN (cV I') (DD (cV I') P (CC (cV I') P n)) n nq (-1) (m + 1) I' → Post none S1 I' L
set_option maxHeartbeats 4000000 in
set_option maxRecDepth 100000 in
theorem c_Ledger_sayMore : Con mLedger_sayMore 6 0 0 sp_Ledger_sayMore := by
  refine con_of_X rfl fun G as S I L Post hs => ?_
  obtain ⟨t, m, n, nq, q, h, P, rfl, rfl, hm, hm10, hsv, hsm, hpp, ht, hT, hv, hrk, h1⟩ := hs
  have hn8 := hpp.2.1
  refine ⟨1, Nat.le_of_ble_eq_true rfl, ?_⟩
  show X mLedger_sayMore G _ S1 I L 0 [.ref 35, .int (nI q), .int h, .null] [] Post
  refine x_aload_n dLedger_sayMore_0 rfl ?_
  refine x_getR fl_Ledger_55 rfl dLedger_sayMore_1 rfl rfl rfl ?_
  refine x_getI fl_Ledger_70 rfl dLedger_sayMore_4 rfl rfl ?_
  -- at 7: .istore_n 3
  rw [hm]
  refine x_istoren_3 dLedger_sayMore_7 rfl rfl ?_
  refine x_aload_n dLedger_sayMore_8 rfl ?_
  refine x_getR fl_Ledger_55 rfl dLedger_sayMore_9 rfl rfl rfl ?_
  refine x_iload_n dLedger_sayMore_12 rfl ?_
  refine x_iload_n dLedger_sayMore_13 rfl ?_
  refine x_iload_n dLedger_sayMore_14 rfl ?_
  -- at 15: .invokevirtual 215
  refine x_callV_3 c_Sayings_put ok_Sayings_put ml_Ledger_215 dLedger_sayMore_15 rfl rfl rfl rfl rfl ?_
  refine ⟨m, nI q, h, rfl, rfl, by omega, ?_⟩
  have eV := cV_put I m (nI q) h
  have hF0 : Fr [19, 20, 21, 22] I (cSput I m (nI q) h) := (((Fr.rfl.up (by decide) _ _).up (by decide) _ _).up (by decide) _ _).up (by decide) _ _
  generalize cSput I m (nI q) h = I0 at eV hF0 ⊢
  have hok0 : LisOk I0 P n := by
    refine ⟨by rw [hF0 4 (by decide)]; exact hpp.1, hn8, fun p hp => ?_, t, by rw [hF0 35 (by decide)]; exact ht, hT.fr (hF0 _ (by decide)) (hF0 _ (by decide))⟩
    have h2 := hpp.2.2 p hp
    rw [eV]
    unfold PerV at h2 ⊢
    unfold sputV
    simp only [up2_n, up2_s, ne_eq, Nat.reduceEqDiff, not_false_eq_true]
    exact h2
  refine x_aload_n dLedger_sayMore_18 rfl ?_
  refine x_iload_n dLedger_sayMore_19 rfl ?_
  -- at 20: .invokevirtual 75
  refine x_callV_1 c_Ledger_listenTo ok_Ledger_listenTo ml_Ledger_75 dLedger_sayMore_20 rfl rfl rfl rfl rfl ?_
  refine ⟨m, n, P, rfl, rfl, by omega, by rw [eV]; exact hsm, hok0, fun I1 hF1 hr ho hco => ?_⟩
  have eV1 : cV I1 = sputV (cV I) m (nI q) h := (cV_fr (hF1.wk (by decide))).trans eV
  rw [eV] at hr
  refine x_aload_n dLedger_sayMore_23 rfl ?_
  refine x_iload_n dLedger_sayMore_24 rfl ?_
  -- at 25: .invokevirtual 131
  obtain ⟨c, hc, ec⟩ := bs_nat (clF (sputV (cV I) m (nI q) h) P m) hn8
  refine x_callV_1 c_Ledger_bindBy ok_Ledger_bindBy ml_Ledger_131 dLedger_sayMore_25 rfl rfl rfl rfl rfl ?_
  refine ⟨m, n, c, P, rfl, rfl, by omega, by rw [eV1]; exact hsm, hr.2.trans ec, hc, hok0.fr (hF1.wk (by decide)), fun I2 hF2 hd hdo => ?_⟩
  have eV2 : cV I2 = sputV (cV I) m (nI q) h := (cV_fr (hF2.wk (by decide))).trans eV1
  rw [eV1, hr.2] at hd
  have hF02 : Fr [19, 20, 21, 22, 33, 34, 36, 37, 38] I I2 := ((hF0.wk (by decide)).tr (hF1.wk (by decide))).tr (hF2.wk (by decide))
  have hrk2 : RK (sputV (cV I) m (nI q) h) P n m I2 := by
    refine hrk.put (nI q) h (fun s hs p hp => ?_) (fun s hs => ?_) (fun s hs p hp => ?_)
    · rw [hF2 36 (by decide), ho _ (by omega), hF0 36 (by decide)]
    · rw [hF2 37 (by decide), hco s (by omega), hF0 37 (by decide)]
    · rw [hdo _ (by omega), hF1 38 (by decide), hF0 38 (by decide)]
  refine x_aload_n dLedger_sayMore_28 rfl ?_
  refine x_iload_n dLedger_sayMore_29 rfl ?_
  refine x_iconst (v := 1) dLedger_sayMore_30 rfl ?_
  refine x_iadd dLedger_sayMore_31 ?_
  refine x_iconst (v := -1) dLedger_sayMore_32 rfl ?_
  -- at 33: .invokevirtual 134
  rw [nI_1]
  refine x_callV_2 c_Ledger_settle ok_Ledger_settle ml_Ledger_134 dLedger_sayMore_33 rfl rfl rfl rfl rfl ?_
  refine ⟨m + 1, n, nq, -1, DD (sputV (cV I) m (nI q) h) P (CC (sputV (cV I) m (nI q) h) P n), rfl, rfl, by rw [hF02 4 (by decide)]; exact hpp.1, hn8, by omega, fun s hs => ?_, hv.fr (hF02 _ (by decide)) (hF02 _ (by decide)), fun p hp s hs => ?_, fun I3 hF3 ho3 => ?_⟩
  · have e19 : I2 19 s = sputV (cV I) m (nI q) h 14 s := by rw [← eV2]; rfl
    rw [e19]
    by_cases z : s = m
    · subst z; exact hsm.1
    · have h3 := (hsv s (by omega)).1
      unfold sputV
      simp only [up2_n, up2_s, ne_eq, Nat.reduceEqDiff, not_false_eq_true, up1, z, if_false]
      exact h3
  · by_cases z : s = m
    · subst z
      exact hd p hp
    · exact hrk2.2 s (by omega) p hp
  have eV3 : cV I3 = sputV (cV I) m (nI q) h := (cV_fr (hF3.wk (by decide))).trans eV2
  rw [eV2] at ho3
  refine x_return dLedger_sayMore_36 rfl ?_
  refine h1 I3 ((hF02.wk (by decide)).tr (hF3.wk (by decide))) eV3 ?_ ?_
  · rw [eV3]
    refine ⟨fun s hs => ?_, fun s hs p hp => ?_⟩
    · unfold HrdRow
      rw [hF3 36 (by decide), hF3 37 (by decide)]
      exact hrk2.1 s hs
    · rw [hF3 38 (by decide)]
      exact hrk2.2 s hs p hp
  · rw [eV3]
    exact ho3
end
section
-- 26.lots
/-! one moved, lots drawn: the class -/
def sp_Ledger_listenBy : SpT := fun as S I L Post => ∃ (p m n : Nat) (P : Nat → List Int32), as = [.ref 35, .int (nI p)] ∧ S = S1 ∧ I 18 4 = nI m ∧ m ≤ 10 ∧ p < n ∧ (∀ s, s < m → SayV (cV I) s) ∧ LisOk I P n ∧
  ∀ I' : IM, Fr lScr I I' → (∀ s, s < m → I' 37 s = setB (I 37 s) p (clF (cV I) P s p)) → Post none S1 I' L
set_option maxHeartbeats 4000000 in
set_option maxRecDepth 100000 in
theorem c_Ledger_listenBy : Con mLedger_listenBy 5 0 0 sp_Ledger_listenBy := by
  refine con_of_X rfl fun G as S I L Post hs => ?_
  obtain ⟨p, m, n, P, rfl, rfl, hm, hm10, hp, hsv, hok, h1⟩ := hs
  have hn8 := hok.2.1
  refine ⟨1, Nat.le_of_ble_eq_true rfl, ?_⟩
  show X mLedger_listenBy G _ S1 I L 0 [.ref 35, .int (nI p), .null] [] Post
  refine x_iconst (v := 0) dLedger_listenBy_0 rfl ?_
  refine x_istoren_2 dLedger_listenBy_1 rfl rfl ?_
  -- at 2: .iload_n 2
  have loop : ∀ (k i : Nat) (I' : IM), i + k = m → Fr lScr I I' → (∀ s, s < i → I' 37 s = setB (I 37 s) p (clF (cV I) P s p)) → (∀ s, i ≤ s → I' 37 s = I 37 s) → X mLedger_listenBy G (5, 0, 0) S1 I' L 2 [.ref 35, .int (nI p), .int (nI i)] [] Post := by
    intro k
    induction k with
    | zero =>
      intro i I' hi hF hc ho
      obtain rfl : i = m := by omega
      refine x_iload_n dLedger_listenBy_2 rfl ?_
      refine x_aload_n dLedger_listenBy_3 rfl ?_
      refine x_getR fl_Ledger_55 rfl dLedger_listenBy_4 rfl rfl rfl ?_
      refine x_getI fl_Ledger_70 rfl dLedger_listenBy_7 rfl rfl ?_
      -- at 10: .if_icmp .ge 15
      rw [hF 18 (by decide), hm]
      refine x_icmp_ge (tgt := 25) dLedger_listenBy_10 (by decide) (fun _ => ?_) (fun h => absurd (Int32.le_refl _) h)
      refine x_return dLedger_listenBy_25 rfl ?_
      exact h1 I' hF hc
    | succ k ih =>
      intro i I' hi hF hc ho
      have eV : cV I' = cV I := cV_fr (hF.wk (by decide))
      have hok' : LisOk I' P n := hok.fr (hF.wk (by decide))
      obtain ⟨t, ht, hT⟩ := hok'.2.2.2
      refine x_iload_n dLedger_listenBy_2 rfl ?_
      refine x_aload_n dLedger_listenBy_3 rfl ?_
      refine x_getR fl_Ledger_55 rfl dLedger_listenBy_4 rfl rfl rfl ?_
      refine x_getI fl_Ledger_70 rfl dLedger_listenBy_7 rfl rfl ?_
      -- at 10: .if_icmp .ge 15
      rw [hF 18 (by decide), hm]
      refine x_icmp_ge (tgt := 25) dLedger_listenBy_10 (by decide) (fun h => absurd h (nI_ge (b := m) (by omega) (by omega))) (fun _ => ?_)
      refine x_aload_n dLedger_listenBy_13 rfl ?_
      refine x_iload_n dLedger_listenBy_14 rfl ?_
      refine x_iload_n dLedger_listenBy_15 rfl ?_
      -- at 16: .invokevirtual 78
      refine x_callV_2 c_Ledger_listenOne ok_Ledger_listenOne ml_Ledger_78 dLedger_listenBy_16 rfl rfl rfl rfl rfl ?_
      refine ⟨i, p, t, P, rfl, rfl, by omega, by omega, by rw [eV]; exact hsv i (by omega), hok'.2.2.1 p hp, ht, hT, fun I2 hF2 e36 e37 => ?_⟩
      rw [eV] at e37
      refine x_iincp_2 dLedger_listenBy_19 rfl rfl ?_
      refine x_goto (tgt := 2) dLedger_listenBy_22 (by decide) ?_
      -- at 2: .iload_n 2
      rw [nI_1]
      refine ih (i + 1) I2 (by omega) (hF.tr hF2) (fun s hs => ?_) (fun s hs => ?_)
      · rw [e37]
        by_cases e : s = i
        · subst e
          rw [up1, if_pos rfl, ho s (Nat.le_refl _)]
          rfl
        · rw [up1, if_neg e]
          exact hc s (by omega)
      · rw [e37, up1, if_neg (by omega)]
        exact ho s (by omega)
  exact loop m 0 I (by omega) Fr.rfl (fun s hs => absurd hs (Nat.not_lt_zero s)) (fun s _ => rfl)
/-- as if one had moved -/
def mvV (V : IM) (p : Nat) (u : Int32) : IM := up2 V 9 p u
theorem cV_mv (I : IM) (p : Nat) (u : Int32) : cV (up2 I 12 p u) = mvV (cV I) p u := by
  funext a
  by_cases h : a = 9
  · subst h; unfold mvV cV; simp only [up2_n, up2_s, ne_eq, Nat.reduceEqDiff, not_false_eq_true]
  unfold mvV
  rw [up2_n _ _ _ h]
  unfold cV
  split <;> first | rfl | (exfalso; omega) | simp only [up2_n, up2_s, ne_eq, Nat.reduceEqDiff, not_false_eq_true]
theorem hear_mv (V : IM) (P : Nat → List Int32) (p : Nat) (u : Int32) {i : Nat} (hi : i ≠ p) (s : Nat) : hearV (mvV V p u) P s i = hearV V P s i := by
  unfold hearV farV whereV startV mvV
  simp only [up2_n, up2_s, ne_eq, Nat.reduceEqDiff, not_false_eq_true, up1, hi, if_false]
theorem cV_of_mv {I I' : IM} {ks : List Nat} {p : Nat} {x : Int32} (hF : Fr (12 :: ks) I I') (hk : ∀ k ∈ ks, k ∈ cScr) (h12 : I' 12 = up1 (I 12) p x) : cV I' = mvV (cV I) p x := by
  rw [← cV_mv]
  have e : Fr ks (up2 I 12 p x) I' := by
    intro k hkk
    by_cases z : k = 12
    · subst z
      rw [h12, up2_s]
    · rw [up2_n _ _ _ z]
      exact hF k (by simp [z, hkk])
  exact cV_fr (e.wk hk)
/-- how much one would owe in all, had one moved -/
def totU (V : IM) (P : Nat → List Int32) (n nq m p : Nat) (u : Int32) : Int32 := tot1 (mvV V p u) (DD (mvV V p u) P (CC (mvV V p u) P n) p) nq (-1) m p
def sp_Ledger_tryPlaces : SpT := fun as S I L Post => ∃ (p t m n nq : Nat) (P : Nat → List Int32), as = [.ref 35, .int (nI p)] ∧ S = S1 ∧ I 18 4 = nI m ∧ m ≤ 10 ∧ p < n ∧ (∀ s, s < m → SayV (cV I) s) ∧ PplOk I n ∧ I 35 5 = nI t ∧ TxtC I P t ∧ VowOk I nq ∧ Hrd (cV I) P n m I ∧
  ∀ I' : IM, Fr [33, 34, 36, 37, 38, 39, 40, 41, 42, 44] I I' → (∀ u, u < 6 → I' 44 u = totU (cV I) P n nq m p (nI u)) → Post none S1 I' L
abbrev tScr : List Nat := [33, 34, 36, 37, 38, 39, 40, 41, 42, 44]
set_option maxHeartbeats 4000000 in
set_option maxRecDepth 100000 in
theorem c_Ledger_tryPlaces : Con mLedger_tryPlaces 6 0 0 sp_Ledger_tryPlaces := by
  refine con_of_X rfl fun G as S I L Post hs => ?_
  obtain ⟨p, t, m, n, nq, P, rfl, rfl, hm, hm10, hp, hsv, hpp, ht, hT, hv, hh, h1⟩ := hs
  have hn8 := hpp.2.1
  refine ⟨3, Nat.le_of_ble_eq_true rfl, ?_⟩
  show X mLedger_tryPlaces G _ S1 I L 0 [.ref 35, .int (nI p), .null, .null, .null] [] Post
  refine x_aload_n dLedger_tryPlaces_0 rfl ?_
  refine x_getR fl_Ledger_47 rfl dLedger_tryPlaces_1 rfl rfl rfl ?_
  refine x_getR fl_Ledger_224 rfl dLedger_tryPlaces_4 rfl rfl rfl ?_
  refine x_iload_n dLedger_tryPlaces_7 rfl ?_
  refine x_ialdJ dLedger_tryPlaces_8 rfl rfl rfl (by omega) ?_
  refine x_istoren_2 dLedger_tryPlaces_9 rfl rfl ?_
  refine x_iconst (v := 0) dLedger_tryPlaces_10 rfl ?_
  refine x_istoren_3 dLedger_tryPlaces_11 rfl rfl ?_
  -- at 12: .iload_n 3
  have loop : ∀ (k i : Nat) (I' : IM) (a4 : Value), i + k = 6 → Fr (12 :: tScr) I I' → (∃ x, I' 12 = up1 (I 12) p x) → (∀ s, s < m → ∃ b, I' 37 s = bs n (fun j => if j = p then b else clF (cV I) P s j)) → (∀ u, u < i → I' 44 u = totU (cV I) P n nq m p (nI u)) →
      X mLedger_tryPlaces G (6, 0, 0) S1 I' L 12 [.ref 35, .int (nI p), .int (I 12 p), .int (nI i), a4] [] Post := by
    intro k
    induction k with
    | zero =>
      intro i I' a4 hi hF hx hcl hb
      obtain rfl : i = 6 := by omega
      refine x_iload_n dLedger_tryPlaces_12 rfl ?_
      refine x_bipush (v := 6) dLedger_tryPlaces_13 rfl ?_
      -- at 15: .if_icmp .ge 89
      refine x_icmp_ge (tgt := 104) dLedger_tryPlaces_15 (by decide) (fun _ => ?_) (fun h => absurd (by decide) h)
      refine x_aload_n dLedger_tryPlaces_104 rfl ?_
      refine x_getR fl_Ledger_47 rfl dLedger_tryPlaces_105 rfl rfl rfl ?_
      refine x_getR fl_Ledger_224 rfl dLedger_tryPlaces_108 rfl rfl rfl ?_
      refine x_iload_n dLedger_tryPlaces_111 rfl ?_
      refine x_iload_n dLedger_tryPlaces_112 rfl ?_
      refine x_iastJ dLedger_tryPlaces_113 rfl rfl rfl (by omega) ?_
      -- at 114: .return_
      refine x_return dLedger_tryPlaces_114 rfl ?_
      obtain ⟨x, hx⟩ := hx
      refine h1 _ (fun j hj => ?_) (fun u hu => ?_)
      · by_cases z : j = 12
        · subst z
          rw [up2_s, hx]
          funext q
          by_cases y : q = p
          · subst y; simp [up1]
          · simp [up1, y]
        · rw [up2_n _ _ _ z]
          exact hF j (by simp [z]; simpa using hj)
      · simp only [up2_n, up2_s, ne_eq, Nat.reduceEqDiff, not_false_eq_true]
        exact hb u hu
    | succ k ih =>
      intro i I' a4 hi hF hx hcl hb
      obtain ⟨x, hx⟩ := hx
      refine x_iload_n dLedger_tryPlaces_12 rfl ?_
      refine x_bipush (v := 6) dLedger_tryPlaces_13 rfl ?_
      -- at 15: .if_icmp .ge 89
      refine x_icmp_ge (tgt := 104) dLedger_tryPlaces_15 (by decide) (fun h => absurd h (nI_ge (b := 6) (by omega) (by omega))) (fun _ => ?_)
      refine x_aload_n dLedger_tryPlaces_18 rfl ?_
      refine x_getR fl_Ledger_47 rfl dLedger_tryPlaces_19 rfl rfl rfl ?_
      refine x_getR fl_Ledger_224 rfl dLedger_tryPlaces_22 rfl rfl rfl ?_
      refine x_iload_n dLedger_tryPlaces_25 rfl ?_
      refine x_iload_n dLedger_tryPlaces_26 rfl ?_
      refine x_iastJ dLedger_tryPlaces_27 rfl rfl rfl (by omega) ?_
      refine x_aload_n dLedger_tryPlaces_28 rfl ?_
      refine x_iload_n dLedger_tryPlaces_29 rfl ?_
      -- at 30: .invokevirtual 227
      have hF1 : Fr (12 :: tScr) I (up2 I' 12 p (nI i)) := hF.up (by decide) _ _
      have h12 : up2 I' 12 p (nI i) 12 = up1 (I 12) p (nI i) := by
        rw [up2_s, hx]
        funext q
        by_cases y : q = p
        · subst y; simp [up1]
        · simp [up1, y]
      have e37 : up2 I' 12 p (nI i) 37 = I' 37 := by simp only [up2_n, up2_s, ne_eq, Nat.reduceEqDiff, not_false_eq_true]
      have e44 : up2 I' 12 p (nI i) 44 = I' 44 := by simp only [up2_n, up2_s, ne_eq, Nat.reduceEqDiff, not_false_eq_true]
      generalize up2 I' 12 p (nI i) = I1 at hF1 h12 e37 e44 ⊢
      have eV1 : cV I1 = mvV (cV I) p (nI i) := cV_of_mv hF1 (by decide) h12
      have hsv1 : ∀ s, s < m → SayV (mvV (cV I) p (nI i)) s := hsv
      have hpp1 : PplOk I1 n := by
        refine ⟨by rw [hF1 4 (by decide)]; exact hpp.1, hn8, fun j hj => ?_⟩
        obtain ⟨a1, a2, a3, a4⟩ := hpp.2.2 j hj
        rw [eV1]
        refine ⟨a1, a2, a3, ?_⟩
        unfold mvV
        rw [up2_s, up1]
        split
        · exact Or.inr ⟨i, by omega, rfl⟩
        · exact a4
      have hT1 : TxtC I1 P t := hT.fr (hF1 _ (by decide)) (hF1 _ (by decide))
      have hlaw1 : I1 35 5 = nI t := by rw [hF1 35 (by decide)]; exact ht
      refine x_callV_1 c_Ledger_listenBy ok_Ledger_listenBy ml_Ledger_227 dLedger_tryPlaces_30 rfl rfl rfl rfl rfl ?_
      refine ⟨p, m, n, P, rfl, rfl, by rw [hF1 18 (by decide)]; exact hm, hm10, hp, by rw [eV1]; exact hsv1, hpp1.lis2 hlaw1 hT1, fun I2 hF2 hc2 => ?_⟩
      rw [eV1, e37] at hc2
      have eV2 : cV I2 = mvV (cV I) p (nI i) := (cV_fr (hF2.wk (by decide))).trans eV1
      have hcc : ∀ s, s < m → I2 37 s = CC (mvV (cV I) p (nI i)) P n s := by
        intro s hs
        obtain ⟨b, hb2⟩ := hcl s hs
        rw [hc2 s hs, hb2, setB_in _ hp (by omega)]
        refine bs_congr n (fun j hj => ?_)
        by_cases y : j = p
        · subst y; simp
        · simp only [y, if_false]
          unfold clF
          rw [hear_mv _ _ _ _ y]
      have hF02 : Fr (12 :: tScr) I I2 := hF1.tr (hF2.wk (by decide))
      refine x_iconst (v := 0) dLedger_tryPlaces_33 rfl ?_
      refine x_istore_4 dLedger_tryPlaces_34 rfl rfl ?_
      -- at 36: .iload 4
      have loop2 : ∀ (k2 i2 : Nat) (I3 : IM), i2 + k2 = m → Fr [33, 34, 38] I2 I3 → (∀ s, s < i2 → I3 38 (s * 8 + p) = DD (mvV (cV I) p (nI i)) P (CC (mvV (cV I) p (nI i)) P n) p s) →
          X mLedger_tryPlaces G (6, 0, 0) S1 I3 L 36 [.ref 35, .int (nI p), .int (I 12 p), .int (nI i), .int (nI i2)] [] Post := by
        intro k2
        induction k2 with
        | zero =>
          intro i2 I3 hi2 hF3 hd
          obtain rfl : i2 = m := by omega
          have eV3 : cV I3 = mvV (cV I) p (nI i) := (cV_fr (hF3.wk (by decide))).trans eV2
          have hF03 : Fr (12 :: tScr) I I3 := hF02.tr (hF3.wk (by decide))
          refine x_iload dLedger_tryPlaces_36 rfl ?_
          refine x_aload_n dLedger_tryPlaces_38 rfl ?_
          refine x_getR fl_Ledger_55 rfl dLedger_tryPlaces_39 rfl rfl rfl ?_
          refine x_getI fl_Ledger_70 rfl dLedger_tryPlaces_42 rfl rfl ?_
          -- at 45: .if_icmp .ge 28
          rw [hF03 18 (by decide), hm]
          refine x_icmp_ge (tgt := 73) dLedger_tryPlaces_45 (by decide) (fun _ => ?_) (fun h => absurd (Int32.le_refl _) h)
          refine x_aload_n dLedger_tryPlaces_73 rfl ?_
          refine x_iload_n dLedger_tryPlaces_74 rfl ?_
          refine x_aload_n dLedger_tryPlaces_75 rfl ?_
          refine x_getR fl_Ledger_55 rfl dLedger_tryPlaces_76 rfl rfl rfl ?_
          refine x_getI fl_Ledger_70 rfl dLedger_tryPlaces_79 rfl rfl ?_
          refine x_iconst (v := -1) dLedger_tryPlaces_82 rfl ?_
          -- at 83: .invokevirtual 165
          rw [hF03 18 (by decide), hm]
          refine x_callV_3 c_Ledger_settleOne ok_Ledger_settleOne ml_Ledger_165 dLedger_tryPlaces_83 rfl rfl rfl rfl rfl ?_
          refine ⟨p, i2, nq, -1, DD (mvV (cV I) p (nI i)) P (CC (mvV (cV I) p (nI i)) P n) p, rfl, rfl, by omega, by omega, fun s hs => by rw [hF03 19 (by decide)]; exact (hsv s hs).1, hv.fr (hF03 _ (by decide)) (hF03 _ (by decide)), hd, fun I4 hF4 ho4 hot => ?_⟩
          rw [eV3] at ho4
          refine x_aload_n dLedger_tryPlaces_86 rfl ?_
          refine x_getR fl_Ledger_40 rfl dLedger_tryPlaces_87 rfl rfl rfl ?_
          refine x_iload_n dLedger_tryPlaces_90 rfl ?_
          refine x_aload_n dLedger_tryPlaces_91 rfl ?_
          refine x_getR fl_Ledger_28 rfl dLedger_tryPlaces_92 rfl rfl rfl ?_
          refine x_iload_n dLedger_tryPlaces_95 rfl ?_
          refine x_ialdJ dLedger_tryPlaces_96 rfl rfl rfl (by omega) ?_
          refine x_iastJ dLedger_tryPlaces_97 rfl rfl rfl (by omega) ?_
          refine x_iincp_3 dLedger_tryPlaces_98 rfl rfl ?_
          refine x_goto (tgt := 12) dLedger_tryPlaces_101 (by decide) ?_
          -- at 12: .iload_n 3
          rw [nI_1, ho4.2.2.2]
          refine ih (i + 1) _ _ (by omega) ((hF03.tr (hF4.wk (by decide))).up (by decide) _ _) ⟨nI i, ?_⟩ (fun s hs => ⟨clF (mvV (cV I) p (nI i)) P s p, ?_⟩) (fun u hu => ?_)
          · simp only [up2_n, up2_s, ne_eq, Nat.reduceEqDiff, not_false_eq_true]
            rw [hF4 12 (by decide), hF3 12 (by decide), hF2 12 (by decide)]
            exact h12
          · simp only [up2_n, up2_s, ne_eq, Nat.reduceEqDiff, not_false_eq_true]
            rw [hF4 37 (by decide), hF3 37 (by decide), hcc s hs]
            refine bs_congr n (fun j hj => ?_)
            by_cases y : j = p
            · subst y; simp
            · simp only [y, if_false]
              unfold clF
              rw [hear_mv _ _ _ _ y]
          · simp only [up2_n, up2_s, ne_eq, Nat.reduceEqDiff, not_false_eq_true]
            by_cases y : u = i
            · subst y
              rw [up1, if_pos rfl]
              rfl
            · rw [up1, if_neg y, hF4 44 (by decide), hF3 44 (by decide), hF2 44 (by decide), e44]
              exact hb u (by omega)
        | succ k2 ih2 =>
          intro i2 I3 hi2 hF3 hd
          have eV3 : cV I3 = mvV (cV I) p (nI i) := (cV_fr (hF3.wk (by decide))).trans eV2
          have hF03 : Fr (12 :: tScr) I I3 := hF02.tr (hF3.wk (by decide))
          refine x_iload dLedger_tryPlaces_36 rfl ?_
          refine x_aload_n dLedger_tryPlaces_38 rfl ?_
          refine x_getR fl_Ledger_55 rfl dLedger_tryPlaces_39 rfl rfl rfl ?_
          refine x_getI fl_Ledger_70 rfl dLedger_tryPlaces_42 rfl rfl ?_
          -- at 45: .if_icmp .ge 28
          rw [hF03 18 (by decide), hm]
          refine x_icmp_ge (tgt := 73) dLedger_tryPlaces_45 (by decide) (fun h => absurd h (nI_ge (b := m) (by omega) (by omega))) (fun _ => ?_)
          refine x_aload_n dLedger_tryPlaces_48 rfl ?_
          refine x_getR fl_Ledger_22 rfl dLedger_tryPlaces_49 rfl rfl rfl ?_
          refine x_iload dLedger_tryPlaces_52 rfl ?_
          refine x_bipush (v := 8) dLedger_tryPlaces_54 rfl ?_
          refine x_imul dLedger_tryPlaces_56 ?_
          refine x_iload_n dLedger_tryPlaces_57 rfl ?_
          refine x_iadd dLedger_tryPlaces_58 ?_
          refine x_aload_n dLedger_tryPlaces_59 rfl ?_
          refine x_iload dLedger_tryPlaces_60 rfl ?_
          refine x_iload_n dLedger_tryPlaces_62 rfl ?_
          -- at 63: .invokevirtual 137
          obtain ⟨c, hc, ec⟩ := bs_nat (clF (mvV (cV I) p (nI i)) P i2) hn8
          have ec3 : I3 37 i2 = CC (mvV (cV I) p (nI i)) P n i2 := by rw [hF3 37 (by decide)]; exact hcc i2 (by omega)
          refine x_callV_2 c_Ledger_shareOf ok_Ledger_shareOf ml_Ledger_137 dLedger_tryPlaces_63 rfl rfl rfl rfl rfl ?_
          refine ⟨i2, p, t, c, P, rfl, rfl, by omega, by omega, by rw [eV3]; exact hsv1 i2 (by omega), ec3.trans ec, hc, by rw [hF03 35 (by decide)]; exact ht, hT.fr (hF03 _ (by decide)) (hF03 _ (by decide)), fun I4 hF4 => ?_⟩
          rw [eV3, ec3]
          refine x_iastJ (j := i2 * 8 + p) dLedger_tryPlaces_66 rfl rfl (by first | rfl | (simp only [← nI_add, ← pk_mul]; rfl)) (by omega) ?_
          refine x_iincp_4 dLedger_tryPlaces_67 rfl rfl ?_
          refine x_goto (tgt := 36) dLedger_tryPlaces_70 (by decide) ?_
          -- at 36: .iload 4
          rw [nI_1]
          refine ih2 (i2 + 1) _ (by omega) ((hF3.tr (hF4.wk (by decide))).up (by decide) _ _) (fun s hs => ?_)
          simp only [up2_n, up2_s, ne_eq, Nat.reduceEqDiff, not_false_eq_true]
          by_cases y : s = i2
          · subst y
            rw [up1, if_pos rfl]
            rfl
          · rw [up1, if_neg (by omega), hF4 38 (by decide)]
            exact hd s (by omega)
      exact loop2 m 0 I2 (by omega) Fr.rfl (fun s hs => absurd hs (Nat.not_lt_zero s))
  refine loop 6 0 I _ (by omega) Fr.rfl ⟨I 12 p, ?_⟩ (fun s hs => ⟨clF (cV I) P s p, ?_⟩) (fun u hu => absurd hu (Nat.not_lt_zero u))
  · funext q
    by_cases y : q = p
    · subst y; simp [up1]
    · simp [up1, y]
  · rw [(hh s hs).2]
    refine bs_congr n (fun j hj => ?_)
    by_cases y : j = p
    · subst y; simp
    · simp [y]
end
section
-- 27.draw
/-! lots, chances, even loads: the class -/
def remL (x y : Int64) : Int64 := x - x / y * y
def lot (a : Int64) (k : Nat) : Int64 := match k with
  | 0 => a
  | j + 1 => remL (lot a j * 48271) 2147483647
def dF (a : Int64) (n : Nat) (H : Nat → Nat → Int32) (s : Nat) : Nat → Bool := fun p => decide (remL (lot a (s * n + p + 1)) 100 < (H s p).toInt64)
def CDr (V : IM) (P : Nat → List Int32) (n : Nat) (a : Int64) : Nat → Int32 := fun s => bs n (dF a n (hearV V P) s)
/-- all SAYINGS' hearings stand, their sets are any -/
def HrdD (V : IM) (P : Nat → List Int32) (n m : Nat) (I : IM) : Prop := (∀ s, s < m → ∀ p, p < n → I 36 (s * 8 + p) = hearV V P s p) ∧ ∀ s, s < m → ∃ f, I 37 s = bs n f
def sp_Ledger_draw : SpT := fun as S I L Post => ∃ (seed : Int32) (t m n nq : Nat) (P : Nat → List Int32), as = [.ref 35, .int seed] ∧ S = S1 ∧ I 18 4 = nI m ∧ m ≤ 10 ∧ (∀ s, s < m → SayV (cV I) s) ∧ PplOk I n ∧ I 35 5 = nI t ∧ TxtC I P t ∧ VowOk I nq ∧ HrdD (cV I) P n m I ∧
  ∀ I' : IM, Fr [33, 34, 37, 38, 39, 40, 41, 42] I I' → HrdD (cV I) P n m I' → OwesN (cV I) (DD (cV I) P (CDr (cV I) P n (seed + 1).toInt64)) n nq (-1) m I' → Post none S1 I' L
set_option maxHeartbeats 4000000 in
set_option maxRecDepth 100000 in
theorem c_Ledger_draw : Con mLedger_draw 7 0 0 sp_Ledger_draw := by
  refine con_of_X rfl fun G as S I L Post hs => ?_
  obtain ⟨seed, t, m, n, nq, P, rfl, rfl, hm, hm10, hsv, hpp, ht, hT, hv, ⟨hh, hcl⟩, h1⟩ := hs
  have hn8 := hpp.2.1
  refine ⟨4, Nat.le_of_ble_eq_true rfl, ?_⟩
  show X mLedger_draw G _ S1 I L 0 [.ref 35, .int seed, .null, .null, .null, .null] [] Post
  refine x_iload_n dLedger_draw_0 rfl ?_
  refine x_iconst (v := 1) dLedger_draw_1 rfl ?_
  refine x_iadd dLedger_draw_2 ?_
  refine x_i2l dLedger_draw_3 ?_
  refine x_ldc2 dLedger_draw_4 cn_Ledger_218 ?_
  refine x_lmul dLedger_draw_7 ?_
  refine x_ldc2 dLedger_draw_8 cn_Ledger_220 ?_
  refine x_lrem dLedger_draw_11 (by decide) ?_
  refine x_lstoren_2 dLedger_draw_12 rfl rfl ?_
  refine x_iconst (v := 0) dLedger_draw_13 rfl ?_
  refine x_istore_4 dLedger_draw_14 rfl rfl ?_
  -- at 16: .iload 4
  generalize ha : (seed + 1).toInt64 = a0 at h1 ⊢
  have loop : ∀ (k i : Nat) (I' : IM) (a5 : Value), i + k = m → Fr [37] I I' → (∀ s, s < i → I' 37 s = CDr (cV I) P n a0 s) → (∀ s, i ≤ s → I' 37 s = I 37 s) →
      X mLedger_draw G (7, 0, 0) S1 I' L 16 [.ref 35, .int seed, .long (lot a0 (i * n + 1)), .null, .int (nI i), a5] [] Post := by
    intro k
    induction k with
    | zero =>
      intro i I' a5 hi hF hc ho
      obtain rfl : i = m := by omega
      have eV : cV I' = cV I := cV_fr (hF.wk (by decide))
      refine x_iload dLedger_draw_16 rfl ?_
      refine x_aload_n dLedger_draw_18 rfl ?_
      refine x_getR fl_Ledger_55 rfl dLedger_draw_19 rfl rfl rfl ?_
      refine x_getI fl_Ledger_70 rfl dLedger_draw_22 rfl rfl ?_
      -- at 25: .if_icmp .ge 76
      rw [hF 18 (by decide), hm]
      refine x_icmp_ge (tgt := 101) dLedger_draw_25 (by decide) (fun _ => ?_) (fun h => absurd (Int32.le_refl _) h)
      refine x_aload_n dLedger_draw_101 rfl ?_
      -- at 102: .invokevirtual 67
      refine x_callV_0 c_Ledger_bindAll ok_Ledger_bindAll ml_Ledger_67 dLedger_draw_102 rfl rfl rfl rfl rfl ?_
      refine ⟨i, n, nq, P, rfl, rfl, by rw [hF 18 (by decide)]; exact hm, hm10, by rw [eV]; exact hsv, fun s hs => ?_, (hpp.fr (hF.wk (by decide))).lis2 (by rw [hF 35 (by decide)]; exact ht) (hT.fr (hF _ (by decide)) (hF _ (by decide))), hv.fr (hF _ (by decide)) (hF _ (by decide)), fun I2 hF2 hd ho2 => ?_⟩
      · obtain ⟨c, hcb, e⟩ := bs_nat (dF a0 n (hearV (cV I) P) s) hn8
        exact ⟨c, hcb, (hc s hs).trans e⟩
      rw [eV] at ho2
      refine x_return dLedger_draw_105 rfl ?_
      refine h1 I2 ((hF.wk (by decide)).tr (hF2.wk (by decide))) ⟨fun s hs p hp => ?_, fun s hs => ⟨dF a0 n (hearV (cV I) P) s, ?_⟩⟩ (DD_congr hc ho2)
      · rw [hF2 36 (by decide), hF 36 (by decide)]
        exact hh s hs p hp
      · rw [hF2 37 (by decide)]
        exact hc s hs
    | succ k ih =>
      intro i I' a5 hi hF hc ho
      refine x_iload dLedger_draw_16 rfl ?_
      refine x_aload_n dLedger_draw_18 rfl ?_
      refine x_getR fl_Ledger_55 rfl dLedger_draw_19 rfl rfl rfl ?_
      refine x_getI fl_Ledger_70 rfl dLedger_draw_22 rfl rfl ?_
      -- at 25: .if_icmp .ge 76
      rw [hF 18 (by decide), hm]
      refine x_icmp_ge (tgt := 101) dLedger_draw_25 (by decide) (fun h => absurd h (nI_ge (b := m) (by omega) (by omega))) (fun _ => ?_)
      refine x_iconst (v := 0) dLedger_draw_28 rfl ?_
      refine x_istore_5 dLedger_draw_29 rfl rfl ?_
      -- at 31: .iload 5
      obtain ⟨f0, hf0⟩ := hcl i (by omega)
      have loop2 : ∀ (k2 j : Nat) (I2 : IM), j + k2 = n → Fr [37] I' I2 → I2 37 i = bs n (fun q => if q < j then dF a0 n (hearV (cV I) P) i q else f0 q) → (∀ s, s ≠ i → I2 37 s = I' 37 s) →
          X mLedger_draw G (7, 0, 0) S1 I2 L 31 [.ref 35, .int seed, .long (lot a0 (i * n + j + 1)), .null, .int (nI i), .int (nI j)] [] Post := by
        intro k2
        induction k2 with
        | zero =>
          intro j I2 hj hF2 hc2 ho2
          obtain rfl : j = n := by omega
          refine x_iload dLedger_draw_31 rfl ?_
          refine x_aload_n dLedger_draw_33 rfl ?_
          refine x_getR fl_Ledger_47 rfl dLedger_draw_34 rfl rfl rfl ?_
          refine x_getI fl_Ledger_82 rfl dLedger_draw_37 rfl rfl ?_
          -- at 40: .if_icmp .ge 55
          rw [hF2 4 (by decide), hF 4 (by decide), hpp.1]
          refine x_icmp_ge (tgt := 95) dLedger_draw_40 (by decide) (fun _ => ?_) (fun h => absurd (Int32.le_refl _) h)
          refine x_iincp_4 dLedger_draw_95 rfl rfl ?_
          refine x_goto (tgt := 16) dLedger_draw_98 (by decide) ?_
          -- at 16: .iload 4
          rw [nI_1, show i * j + j + 1 = (i + 1) * j + 1 by rw [Nat.add_mul]; omega]
          refine ih (i + 1) I2 _ (by omega) (hF.tr hF2) (fun s hs => ?_) (fun s hs => ?_)
          · by_cases y : s = i
            · subst y
              rw [hc2]
              exact bs_congr j (fun q hq => by simp [hq])
            · rw [ho2 s y]
              exact hc s (by omega)
          · rw [ho2 s (by omega)]
            exact ho s (by omega)
        | succ k2 ih2 =>
          intro j I2 hj hF2 hc2 ho2
          refine x_iload dLedger_draw_31 rfl ?_
          refine x_aload_n dLedger_draw_33 rfl ?_
          refine x_getR fl_Ledger_47 rfl dLedger_draw_34 rfl rfl rfl ?_
          refine x_getI fl_Ledger_82 rfl dLedger_draw_37 rfl rfl ?_
          -- at 40: .if_icmp .ge 55
          rw [hF2 4 (by decide), hF 4 (by decide), hpp.1]
          refine x_icmp_ge (tgt := 95) dLedger_draw_40 (by decide) (fun h => absurd h (nI_ge (b := n) (by omega) (by omega))) (fun _ => ?_)
          refine x_aload_n dLedger_draw_43 rfl ?_
          refine x_iload dLedger_draw_44 rfl ?_
          refine x_iload dLedger_draw_46 rfl ?_
          refine x_lload_n dLedger_draw_48 rfl ?_
          refine x_ldc2 dLedger_draw_49 cn_Ledger_222 ?_
          refine x_lrem dLedger_draw_52 (by decide) ?_
          refine x_aload_n dLedger_draw_53 rfl ?_
          refine x_getR fl_Ledger_15 rfl dLedger_draw_54 rfl rfl rfl ?_
          refine x_iload dLedger_draw_57 rfl ?_
          refine x_bipush (v := 8) dLedger_draw_59 rfl ?_
          refine x_imul dLedger_draw_61 ?_
          refine x_iload dLedger_draw_62 rfl ?_
          refine x_iadd dLedger_draw_64 ?_
          refine x_ialdJ (j := i * 8 + j) dLedger_draw_65 rfl rfl (by first | rfl | (simp only [← nI_add, ← pk_mul]; rfl)) (by omega) ?_
          -- at 66: .i2l
          rw [hF2 36 (by decide), hF 36 (by decide), hh i (by omega) j (by omega)]
          refine x_i2l dLedger_draw_66 ?_
          refine x_lcmp dLedger_draw_67 ?_
          -- at 68: .ifCond .ge 7
          have fin : ∀ (v : Int32) (b : Bool), ((v = 1 ∧ b = true) ∨ (v = 0 ∧ b = false)) → b = dF a0 n (hearV (cV I) P) i j → X mLedger_draw G (7, 0, 0) S1 I2 L 76 [.ref 35, .int seed, .long (lot a0 (i * n + j + 1)), .null, .int (nI i), .int (nI j)] [.int v, .int (nI j), .int (nI i), .ref 35] Post := by
            intro v b hvb hb
            refine x_callV_3 c_Ledger_setClear ok_Ledger_setClear ml_Ledger_127 dLedger_draw_76 rfl rfl rfl rfl rfl ?_
            refine ⟨i, j, v, b, rfl, rfl, by omega, hvb, ?_⟩
            refine x_lload_n dLedger_draw_79 rfl ?_
            refine x_ldc2 dLedger_draw_80 cn_Ledger_218 ?_
            refine x_lmul dLedger_draw_83 ?_
            refine x_ldc2 dLedger_draw_84 cn_Ledger_220 ?_
            refine x_lrem dLedger_draw_87 (by decide) ?_
            refine x_lstoren_2 dLedger_draw_88 rfl rfl ?_
            refine x_iincp_5 dLedger_draw_89 rfl rfl ?_
            refine x_goto (tgt := 31) dLedger_draw_92 (by decide) ?_
            -- at 31: .iload 5
            rw [nI_1]
            refine ih2 (j + 1) _ (by omega) (hF2.up (by decide) _ _) ?_ (fun s hs => ?_)
            · rw [up2_s, up1, if_pos rfl, hc2, setB_in _ (by omega) (by omega)]
              refine bs_congr n (fun q hq => ?_)
              by_cases y : q = j
              · subst y; simp [hb]
              · by_cases z : q < j
                · simp [y, z, show q < j + 1 by omega]
                · simp [y, z, show ¬ q < j + 1 by omega]
            · rw [up2_s, up1, if_neg hs]
              exact ho2 s hs
          refine x_if_ge (tgt := 75) dLedger_draw_68 (by decide) (fun c1 => ?_) (fun c1 => ?_)
          · refine x_iconst (v := 0) dLedger_draw_75 rfl ?_
            -- at 76: .invokevirtual 127
            refine fin 0 false (Or.inr ⟨rfl, rfl⟩) ?_
            have h3 := (lg_cmp_ge _ _).mp c1
            unfold dF
            simp only [Bool.false_eq, decide_eq_false_iff_not, Int64.not_lt]
            exact h3
          · refine x_iconst (v := 1) dLedger_draw_71 rfl ?_
            refine x_goto (tgt := 76) dLedger_draw_72 (by decide) ?_
            -- at 76: .invokevirtual 127
            refine fin 1 true (Or.inl ⟨rfl, rfl⟩) ?_
            have h3 : ¬ _ := fun z => c1 ((lg_cmp_ge _ _).mpr z)
            unfold dF
            simp only [Bool.true_eq, decide_eq_true_eq]
            exact Int64.not_le.mp h3
      have e := loop2 n 0 I' (by omega) Fr.rfl (by rw [ho i (Nat.le_refl _), hf0]; exact bs_congr n (fun q _ => by simp)) (fun s _ => rfl)
      exact e
  have e := loop m 0 I .null (by omega) Fr.rfl (fun s hs => absurd hs (Nat.not_lt_zero s)) (fun s _ => rfl)
  rw [Nat.zero_mul] at e
  exact e
def chanS (V : IM) (H : Nat → Nat → Int32) (p : Nat) (q : Int32) (m : Nat) : Int64 := match m with
  | 0 => 1000000
  | s + 1 => if V 14 s = q then chanS V H p q s * (100 - H s p).toInt64 / 100 else chanS V H p q s
def sp_Ledger_chanceOf : SpT := fun as S I L Post => ∃ (p m n : Nat) (q : Int32) (P : Nat → List Int32), as = [.ref 35, .int (nI p), .int q] ∧ S = S1 ∧ I 18 4 = nI m ∧ m ≤ 10 ∧ n ≤ 8 ∧ p < n ∧ (∀ s, s < m → ∀ p, p < n → I 36 (s * 8 + p) = hearV (cV I) P s p) ∧ Post (some (.long (1000000 - chanS (cV I) (hearV (cV I) P) p q m))) S1 I L
set_option maxHeartbeats 4000000 in
set_option maxRecDepth 100000 in
theorem c_Ledger_chanceOf : Con mLedger_chanceOf 2 0 0 sp_Ledger_chanceOf := by
  refine con_of_X rfl fun G as S I L Post hs => ?_
  obtain ⟨p, m, n, q, P, rfl, rfl, hm, hm10, hn8, hp, hh, h1⟩ := hs
  refine ⟨3, Nat.le_of_ble_eq_true rfl, ?_⟩
  show X mLedger_chanceOf G _ S1 I L 0 [.ref 35, .int (nI p), .int q, .null, .null, .null] [] Post
  refine x_ldc2 dLedger_chanceOf_0 cn_Ledger_236 ?_
  refine x_lstoren_3 dLedger_chanceOf_3 rfl rfl ?_
  refine x_iconst (v := 0) dLedger_chanceOf_4 rfl ?_
  refine x_istore_5 dLedger_chanceOf_5 rfl rfl ?_
  -- at 7: .iload 5
  have loop : ∀ (k i : Nat) (acc : Int64), i + k = m → acc = chanS (cV I) (hearV (cV I) P) p q i → X mLedger_chanceOf G (2, 0, 0) S1 I L 7 [.ref 35, .int (nI p), .int q, .long acc, .null, .int (nI i)] [] Post := by
    intro k
    induction k with
    | zero =>
      intro i acc hi ha
      obtain rfl : i = m := by omega
      refine x_iload dLedger_chanceOf_7 rfl ?_
      refine x_aload_n dLedger_chanceOf_9 rfl ?_
      refine x_getR fl_Ledger_55 rfl dLedger_chanceOf_10 rfl rfl rfl ?_
      refine x_getI fl_Ledger_70 rfl dLedger_chanceOf_13 rfl rfl ?_
      -- at 16: .if_icmp .ge 46
      rw [hm]
      refine x_icmp_ge (tgt := 62) dLedger_chanceOf_16 (by decide) (fun _ => ?_) (fun h => absurd (Int32.le_refl _) h)
      refine x_ldc2 dLedger_chanceOf_62 cn_Ledger_236 ?_
      refine x_lload_n dLedger_chanceOf_65 rfl ?_
      refine x_lsub dLedger_chanceOf_66 ?_
      -- at 67: .lreturn
      refine x_lreturn dLedger_chanceOf_67 rfl ?_
      rw [ha]
      exact h1
    | succ k ih =>
      intro i acc hi ha
      refine x_iload dLedger_chanceOf_7 rfl ?_
      refine x_aload_n dLedger_chanceOf_9 rfl ?_
      refine x_getR fl_Ledger_55 rfl dLedger_chanceOf_10 rfl rfl rfl ?_
      refine x_getI fl_Ledger_70 rfl dLedger_chanceOf_13 rfl rfl ?_
      -- at 16: .if_icmp .ge 46
      rw [hm]
      refine x_icmp_ge (tgt := 62) dLedger_chanceOf_16 (by decide) (fun h => absurd h (nI_ge (b := m) (by omega) (by omega))) (fun _ => ?_)
      refine x_aload_n dLedger_chanceOf_19 rfl ?_
      refine x_getR fl_Ledger_55 rfl dLedger_chanceOf_20 rfl rfl rfl ?_
      refine x_getR fl_Ledger_144 rfl dLedger_chanceOf_23 rfl rfl rfl ?_
      refine x_iload dLedger_chanceOf_26 rfl ?_
      refine x_ialdJ dLedger_chanceOf_28 rfl rfl rfl (by omega) ?_
      refine x_iload_n dLedger_chanceOf_29 rfl ?_
      -- at 30: .if_icmp .ne 26
      refine x_icmp_ne (tgt := 56) dLedger_chanceOf_30 (by decide) (fun c1 => ?_) (fun c1 => ?_)
      · refine x_iincp_5 dLedger_chanceOf_56 rfl rfl ?_
        refine x_goto (tgt := 7) dLedger_chanceOf_59 (by decide) ?_
        -- at 7: .iload 5
        rw [nI_1]
        refine ih (i + 1) _ (by omega) ?_
        rw [chanS, if_neg (show ¬ cV I 14 i = q from c1), ha]
      · refine x_lload_n dLedger_chanceOf_33 rfl ?_
        refine x_bipush (v := 100) dLedger_chanceOf_34 rfl ?_
        refine x_aload_n dLedger_chanceOf_36 rfl ?_
        refine x_getR fl_Ledger_15 rfl dLedger_chanceOf_37 rfl rfl rfl ?_
        refine x_iload dLedger_chanceOf_40 rfl ?_
        refine x_bipush (v := 8) dLedger_chanceOf_42 rfl ?_
        refine x_imul dLedger_chanceOf_44 ?_
        refine x_iload_n dLedger_chanceOf_45 rfl ?_
        refine x_iadd dLedger_chanceOf_46 ?_
        refine x_ialdJ (j := i * 8 + p) dLedger_chanceOf_47 rfl rfl (by first | rfl | (simp only [← nI_add, ← pk_mul]; rfl)) (by omega) ?_
        -- at 48: .isub
        rw [hh i (by omega) p hp]
        refine x_isub dLedger_chanceOf_48 ?_
        refine x_i2l dLedger_chanceOf_49 ?_
        refine x_lmul dLedger_chanceOf_50 ?_
        refine x_ldc2 dLedger_chanceOf_51 cn_Ledger_222 ?_
        refine x_ldiv dLedger_chanceOf_54 (by decide) ?_
        refine x_lstoren_3 dLedger_chanceOf_55 rfl rfl ?_
        refine x_iincp_5 dLedger_chanceOf_56 rfl rfl ?_
        refine x_goto (tgt := 7) dLedger_chanceOf_59 (by decide) ?_
        -- at 7: .iload 5
        rw [nI_1]
        refine ih (i + 1) _ (by omega) ?_
        rw [chanS, if_pos (show cV I 14 i = q from c1), ha]
  exact loop m 0 _ (by omega) rfl
end
section
-- 28.even
/-! even loads: the class -/
theorem bs_or (f g : Nat → Bool) {n : Nat} (hn : n ≤ 32) : bs n f ||| bs n g = bs n (fun i => f i || g i) := by
  refine b_ext fun i hi => ?_
  rw [b_or, bt_bs f n hn i hi, bt_bs g n hn i hi, bt_bs _ n hn i hi]
  by_cases e : i < n <;> simp [e]
def anyF (V : IM) (P : Nat → List Int32) (q : Int32) (m : Nat) : Nat → Bool := match m with
  | 0 => fun _ => false
  | s + 1 => fun p => anyF V P q s p || (decide (V 14 s = q) && clF V P s p)
def evF (V : IM) (P : Nat → List Int32) (m q : Nat) : Nat → Bool := fun p => anyF V P (nI q) m p && (!decide (V 2 p = 4) && canV V p q)
theorem bs_z (n : Nat) : bs n (fun _ => false) = 0 := by
  induction n with
  | zero => rfl
  | succ k ih => rw [bs, if_neg (by decide), ih]
def sp_Ledger_evenBits : SpT := fun as S I L Post => ∃ (q m n : Nat) (P : Nat → List Int32), as = [.ref 35, .int (nI q)] ∧ S = S1 ∧ q < 8 ∧ I 18 4 = nI m ∧ m ≤ 10 ∧ I 4 8 = nI n ∧ n ≤ 8 ∧ (∀ s, s < m → I 37 s = CC (cV I) P n s) ∧ Post (some (.int (bs n (evF (cV I) P m q)))) S1 I L
set_option maxHeartbeats 4000000 in
set_option maxRecDepth 100000 in
theorem c_Ledger_evenBits : Con mLedger_evenBits 3 0 0 sp_Ledger_evenBits := by
  refine con_of_X rfl fun G as S I L Post hs => ?_
  obtain ⟨q, m, n, P, rfl, rfl, hq, hm, hm10, hn, hn8, hc, h1⟩ := hs
  refine ⟨2, Nat.le_of_ble_eq_true rfl, ?_⟩
  show X mLedger_evenBits G _ S1 I L 0 [.ref 35, .int (nI q), .null, .null] [] Post
  refine x_iconst (v := 0) dLedger_evenBits_0 rfl ?_
  refine x_istoren_2 dLedger_evenBits_1 rfl rfl ?_
  refine x_iconst (v := 0) dLedger_evenBits_2 rfl ?_
  refine x_istoren_3 dLedger_evenBits_3 rfl rfl ?_
  -- at 4: .iload_n 3
  have loop2 : ∀ (k i : Nat) (acc : Int32), i + k = n → acc = bs n (fun p => anyF (cV I) P (nI q) m p && (decide (i ≤ p) || (!decide (cV I 2 p = 4) && canV (cV I) p q))) → X mLedger_evenBits G (3, 0, 0) S1 I L 45 [.ref 35, .int (nI q), .int acc, .int (nI i)] [] Post := by
    intro k
    induction k with
    | zero =>
      intro i acc hi ha
      obtain rfl : i = n := by omega
      refine x_iload_n dLedger_evenBits_45 rfl ?_
      refine x_aload_n dLedger_evenBits_46 rfl ?_
      refine x_getR fl_Ledger_47 rfl dLedger_evenBits_47 rfl rfl rfl ?_
      refine x_getI fl_Ledger_82 rfl dLedger_evenBits_50 rfl rfl ?_
      -- at 53: .if_icmp .ge 48
      rw [hn]
      refine x_icmp_ge (tgt := 101) dLedger_evenBits_53 (by decide) (fun _ => ?_) (fun h => absurd (Int32.le_refl _) h)
      refine x_iload_n dLedger_evenBits_101 rfl ?_
      -- at 102: .ireturn
      refine x_ireturn dLedger_evenBits_102 rfl rfl ?_
      rw [ha, show bs i (fun p => anyF (cV I) P (nI q) m p && (decide (i ≤ p) || (!decide (cV I 2 p = 4) && canV (cV I) p q))) = bs i (evF (cV I) P m q) from bs_congr i (fun p hp => by unfold evF; simp [show ¬ i ≤ p by omega])]
      exact h1
    | succ k ih =>
      intro i acc hi ha
      have drop : (!decide (cV I 2 i = 4) && canV (cV I) i q) = false → X mLedger_evenBits G (3, 0, 0) S1 I L 87 [.ref 35, .int (nI q), .int acc, .int (nI i)] [] Post := by
        intro hd
        refine x_iload_n dLedger_evenBits_87 rfl ?_
        refine x_iconst (v := 1) dLedger_evenBits_88 rfl ?_
        refine x_iload_n dLedger_evenBits_89 rfl ?_
        refine x_ishl dLedger_evenBits_90 ?_
        refine x_iconst (v := -1) dLedger_evenBits_91 rfl ?_
        refine x_ixor dLedger_evenBits_92 ?_
        refine x_iand dLedger_evenBits_93 ?_
        refine x_istoren_2 dLedger_evenBits_94 rfl rfl ?_
        refine x_iincp_3 dLedger_evenBits_95 rfl rfl ?_
        refine x_goto (tgt := 45) dLedger_evenBits_98 (by decide) ?_
        -- at 45: .iload_n 3
        rw [nI_1]
        refine ih (i + 1) _ (by omega) ?_
        rw [ha]
        refine (setB_in (n := n) (p := i) _ (by omega) (by omega) false).trans (bs_congr n (fun p hp => ?_))
        by_cases y : p = i
        · subst y
          simp [hd]
        · simp only [y, if_false]
          rw [show decide (i + 1 ≤ p) = decide (i ≤ p) from by
            by_cases z : i + 1 ≤ p
            · simp [z]; omega
            · simp [z]; omega]
      refine x_iload_n dLedger_evenBits_45 rfl ?_
      refine x_aload_n dLedger_evenBits_46 rfl ?_
      refine x_getR fl_Ledger_47 rfl dLedger_evenBits_47 rfl rfl rfl ?_
      refine x_getI fl_Ledger_82 rfl dLedger_evenBits_50 rfl rfl ?_
      -- at 53: .if_icmp .ge 48
      rw [hn]
      refine x_icmp_ge (tgt := 101) dLedger_evenBits_53 (by decide) (fun h => absurd h (nI_ge (b := n) (by omega) (by omega))) (fun _ => ?_)
      refine x_aload_n dLedger_evenBits_56 rfl ?_
      refine x_getR fl_Ledger_47 rfl dLedger_evenBits_57 rfl rfl rfl ?_
      refine x_iload_n dLedger_evenBits_60 rfl ?_
      -- at 61: .invokevirtual 140
      refine x_callV_1 c_Folk_isBound ok_Folk_isBound ml_Ledger_140 dLedger_evenBits_61 rfl rfl rfl rfl rfl ?_
      refine ⟨i, rfl, rfl, by omega, fun hb => ?_, fun hb => ?_⟩
      · refine x_if_eq (tgt := 87) dLedger_evenBits_64 (by decide) (fun h => absurd h (by decide)) (fun _ => ?_)
        refine x_aload_n dLedger_evenBits_67 rfl ?_
        refine x_getR fl_Ledger_47 rfl dLedger_evenBits_68 rfl rfl rfl ?_
        refine x_iload_n dLedger_evenBits_71 rfl ?_
        refine x_aload_n dLedger_evenBits_72 rfl ?_
        refine x_getR fl_Ledger_51 rfl dLedger_evenBits_73 rfl rfl rfl ?_
        refine x_getR fl_Ledger_158 rfl dLedger_evenBits_76 rfl rfl rfl ?_
        refine x_iload_n dLedger_evenBits_79 rfl ?_
        refine x_ialdJ dLedger_evenBits_80 rfl rfl rfl (by omega) ?_
        -- at 81: .invokevirtual 161
        refine x_callV_2 c_Folk_canDo ok_Folk_canDo ml_Ledger_161 dLedger_evenBits_81 rfl rfl rfl rfl rfl ?_
        refine ⟨i, _, rfl, rfl, by omega, fun hd => ?_, fun hd => ?_⟩
        · refine x_if_ne (tgt := 95) dLedger_evenBits_84 (by decide) (fun _ => ?_) (fun h => absurd h (by decide))
          refine x_iincp_3 dLedger_evenBits_95 rfl rfl ?_
          refine x_goto (tgt := 45) dLedger_evenBits_98 (by decide) ?_
          -- at 45: .iload_n 3
          rw [nI_1]
          refine ih (i + 1) _ (by omega) ?_
          rw [ha]
          refine bs_congr n (fun p hp => ?_)
          by_cases y : p = i
          · subst y
            have hb' : ¬ cV I 2 p = 4 := hb
            have hd' : canV (cV I) p q = true := by simpa [canV, cV] using hd
            simp [hb', hd']
          · rw [show decide (i + 1 ≤ p) = decide (i ≤ p) from by
              by_cases z : i + 1 ≤ p
              · simp [z]; omega
              · simp [z]; omega]
        · refine x_if_ne (tgt := 95) dLedger_evenBits_84 (by decide) (fun h => absurd (by decide) h) (fun _ => ?_)
          refine drop ?_
          have hd' : canV (cV I) i q = false := by simpa [canV, cV] using hd
          simp [hd']
      · refine x_if_eq (tgt := 87) dLedger_evenBits_64 (by decide) (fun _ => ?_) (fun h => absurd (by decide) h)
        refine drop ?_
        have hb' : cV I 2 i = 4 := Classical.not_not.mp hb
        simp [hb']
  have loop1 : ∀ (k i : Nat) (acc : Int32), i + k = m → acc = bs n (anyF (cV I) P (nI q) i) → X mLedger_evenBits G (3, 0, 0) S1 I L 4 [.ref 35, .int (nI q), .int acc, .int (nI i)] [] Post := by
    intro k
    induction k with
    | zero =>
      intro i acc hi ha
      obtain rfl : i = m := by omega
      refine x_iload_n dLedger_evenBits_4 rfl ?_
      refine x_aload_n dLedger_evenBits_5 rfl ?_
      refine x_getR fl_Ledger_55 rfl dLedger_evenBits_6 rfl rfl rfl ?_
      refine x_getI fl_Ledger_70 rfl dLedger_evenBits_9 rfl rfl ?_
      -- at 12: .if_icmp .ge 31
      rw [hm]
      refine x_icmp_ge (tgt := 43) dLedger_evenBits_12 (by decide) (fun _ => ?_) (fun h => absurd (Int32.le_refl _) h)
      refine x_iconst (v := 0) dLedger_evenBits_43 rfl ?_
      refine x_istoren_3 dLedger_evenBits_44 rfl rfl ?_
      -- at 45: .iload_n 3
      refine loop2 n 0 _ (by omega) ?_
      rw [ha]
      exact bs_congr n (fun p hp => by simp)
    | succ k ih =>
      intro i acc hi ha
      refine x_iload_n dLedger_evenBits_4 rfl ?_
      refine x_aload_n dLedger_evenBits_5 rfl ?_
      refine x_getR fl_Ledger_55 rfl dLedger_evenBits_6 rfl rfl rfl ?_
      refine x_getI fl_Ledger_70 rfl dLedger_evenBits_9 rfl rfl ?_
      -- at 12: .if_icmp .ge 31
      rw [hm]
      refine x_icmp_ge (tgt := 43) dLedger_evenBits_12 (by decide) (fun h => absurd h (nI_ge (b := m) (by omega) (by omega))) (fun _ => ?_)
      refine x_aload_n dLedger_evenBits_15 rfl ?_
      refine x_getR fl_Ledger_55 rfl dLedger_evenBits_16 rfl rfl rfl ?_
      refine x_getR fl_Ledger_144 rfl dLedger_evenBits_19 rfl rfl rfl ?_
      refine x_iload_n dLedger_evenBits_22 rfl ?_
      refine x_ialdJ dLedger_evenBits_23 rfl rfl rfl (by omega) ?_
      refine x_iload_n dLedger_evenBits_24 rfl ?_
      -- at 25: .if_icmp .ne 12
      refine x_icmp_ne (tgt := 37) dLedger_evenBits_25 (by decide) (fun c1 => ?_) (fun c1 => ?_)
      · refine x_iincp_3 dLedger_evenBits_37 rfl rfl ?_
        refine x_goto (tgt := 4) dLedger_evenBits_40 (by decide) ?_
        -- at 4: .iload_n 3
        rw [nI_1]
        refine ih (i + 1) _ (by omega) ?_
        rw [ha]
        refine bs_congr n (fun p hp => ?_)
        have c1' : ¬ cV I 14 i = nI q := c1
        simp [anyF, c1']
      · refine x_iload_n dLedger_evenBits_28 rfl ?_
        refine x_aload_n dLedger_evenBits_29 rfl ?_
        refine x_getR fl_Ledger_19 rfl dLedger_evenBits_30 rfl rfl rfl ?_
        refine x_iload_n dLedger_evenBits_33 rfl ?_
        refine x_ialdJ dLedger_evenBits_34 rfl rfl rfl (by omega) ?_
        -- at 35: .ior
        rw [hc i (by omega)]
        refine x_ior dLedger_evenBits_35 ?_
        refine x_istoren_2 dLedger_evenBits_36 rfl rfl ?_
        refine x_iincp_3 dLedger_evenBits_37 rfl rfl ?_
        refine x_goto (tgt := 4) dLedger_evenBits_40 (by decide) ?_
        -- at 4: .iload_n 3
        rw [nI_1]
        refine ih (i + 1) _ (by omega) ?_
        rw [ha]
        refine (bs_or _ _ (by omega)).trans (bs_congr n (fun p hp => ?_))
        have c1' : cV I 14 i = nI q := c1
        simp [anyF, c1']
  exact loop1 m 0 0 (by omega) (bs_z n).symm
def ltS (V : IM) (E : Nat → Int32) (am : Int32) (p : Nat) (o : Int32 × Int32) : Int32 × Int32 :=
  if (bt am p = true ∧ E p < V 8 p) ∧ (o.1 = -1 ∨ V 7 p * (E p + 1) < o.2) then (nI p, V 7 p * (E p + 1)) else o
def ltR (V : IM) (E : Nat → Int32) (am : Int32) (n : Nat) : Int32 × Int32 := match n with
  | 0 => (-1, 0)
  | p + 1 => ltS V E am p (ltR V E am p)
theorem ltR_in (V : IM) (E : Nat → Int32) (am : Int32) : ∀ n : Nat, (ltR V E am n).1 = -1 ∨ ∃ p, p < n ∧ (ltR V E am n).1 = nI p := by
  intro n
  induction n with
  | zero => exact Or.inl rfl
  | succ k ih =>
    rw [ltR, ltS]
    split
    · exact Or.inr ⟨k, by omega, rfl⟩
    · rcases ih with h | ⟨p, hp, h⟩
      · exact Or.inl h
      · exact Or.inr ⟨p, by omega, h⟩
theorem ltR_congr {V : IM} {E E' : Nat → Int32} {am : Int32} : ∀ n : Nat, (∀ p, p < n → E p = E' p) → ltR V E am n = ltR V E' am n := by
  intro n
  induction n with
  | zero => intro _; rfl
  | succ k ih =>
    intro h
    rw [ltR, ltR, ih (fun p hp => h p (by omega)), ltS, ltS, h k (by omega)]
def sp_Ledger_lightest : SpT := fun as S I L Post => ∃ (n : Nat) (am : Int32), as = [.ref 35, .int am] ∧ S = S1 ∧ I 4 8 = nI n ∧ n ≤ 8 ∧ Post (some (.int (ltR (cV I) (I 43) am n).1)) S1 I L
set_option maxHeartbeats 4000000 in
set_option maxRecDepth 100000 in
theorem c_Ledger_lightest : Con mLedger_lightest 2 0 0 sp_Ledger_lightest := by
  refine con_of_X rfl fun G as S I L Post hs => ?_
  obtain ⟨n, am, rfl, rfl, hn, hn8, h1⟩ := hs
  refine ⟨5, Nat.le_of_ble_eq_true rfl, ?_⟩
  show X mLedger_lightest G _ S1 I L 0 [.ref 35, .int am, .null, .null, .null, .null, .null] [] Post
  refine x_iconst (v := -1) dLedger_lightest_0 rfl ?_
  refine x_istoren_2 dLedger_lightest_1 rfl rfl ?_
  refine x_iconst (v := 0) dLedger_lightest_2 rfl ?_
  refine x_istoren_3 dLedger_lightest_3 rfl rfl ?_
  refine x_iconst (v := 0) dLedger_lightest_4 rfl ?_
  refine x_istore_4 dLedger_lightest_5 rfl rfl ?_
  -- at 7: .iload 4
  have loop : ∀ (k i : Nat) (o : Int32 × Int32) (a5 a6 : Value), i + k = n → o = ltR (cV I) (I 43) am i → X mLedger_lightest G (2, 0, 0) S1 I L 7 [.ref 35, .int am, .int o.1, .int o.2, .int (nI i), a5, a6] [] Post := by
    intro k
    induction k with
    | zero =>
      intro i o a5 a6 hi ho
      obtain rfl : i = n := by omega
      refine x_iload dLedger_lightest_7 rfl ?_
      refine x_aload_n dLedger_lightest_9 rfl ?_
      refine x_getR fl_Ledger_47 rfl dLedger_lightest_10 rfl rfl rfl ?_
      refine x_getI fl_Ledger_82 rfl dLedger_lightest_13 rfl rfl ?_
      -- at 16: .if_icmp .ge 90
      rw [hn]
      refine x_icmp_ge (tgt := 106) dLedger_lightest_16 (by decide) (fun _ => ?_) (fun h => absurd (Int32.le_refl _) h)
      refine x_iload_n dLedger_lightest_106 rfl ?_
      -- at 107: .ireturn
      refine x_ireturn dLedger_lightest_107 rfl rfl ?_
      rw [ho]
      exact h1
    | succ k ih =>
      intro i o a5 a6 hi ho
      have hs : ltR (cV I) (I 43) am (i + 1) = ltS (cV I) (I 43) am i o := by rw [ltR, ← ho]
      rw [ltS] at hs
      refine x_iload dLedger_lightest_7 rfl ?_
      refine x_aload_n dLedger_lightest_9 rfl ?_
      refine x_getR fl_Ledger_47 rfl dLedger_lightest_10 rfl rfl rfl ?_
      refine x_getI fl_Ledger_82 rfl dLedger_lightest_13 rfl rfl ?_
      -- at 16: .if_icmp .ge 90
      rw [hn]
      refine x_icmp_ge (tgt := 106) dLedger_lightest_16 (by decide) (fun h => absurd h (nI_ge (b := n) (by omega) (by omega))) (fun _ => ?_)
      refine x_aload_n dLedger_lightest_19 rfl ?_
      refine x_getR fl_Ledger_47 rfl dLedger_lightest_20 rfl rfl rfl ?_
      refine x_getR fl_Ledger_199 rfl dLedger_lightest_23 rfl rfl rfl ?_
      refine x_iload dLedger_lightest_26 rfl ?_
      refine x_ialdJ dLedger_lightest_28 rfl rfl rfl (by omega) ?_
      refine x_aload_n dLedger_lightest_29 rfl ?_
      refine x_getR fl_Ledger_37 rfl dLedger_lightest_30 rfl rfl rfl ?_
      refine x_iload dLedger_lightest_33 rfl ?_
      refine x_ialdJ dLedger_lightest_35 rfl rfl rfl (by omega) ?_
      refine x_iconst (v := 1) dLedger_lightest_36 rfl ?_
      refine x_iadd dLedger_lightest_37 ?_
      refine x_imul dLedger_lightest_38 ?_
      refine x_istore_5 dLedger_lightest_39 rfl rfl ?_
      refine x_iload_n dLedger_lightest_41 rfl ?_
      refine x_iload dLedger_lightest_42 rfl ?_
      refine x_ishr dLedger_lightest_44 ?_
      refine x_iconst (v := 1) dLedger_lightest_45 rfl ?_
      refine x_iand dLedger_lightest_46 ?_
      -- at 47: .iconst 1
      have no : ¬ (bt am i = true ∧ I 43 i < I 11 i) → X mLedger_lightest G (2, 0, 0) S1 I L 75 [.ref 35, .int am, .int o.1, .int o.2, .int (nI i), .int (I 10 i * (I 43 i + 1)), a6] [] Post := by
        intro hno
        refine x_iconst (v := 0) dLedger_lightest_75 rfl ?_
        refine x_istore_6 dLedger_lightest_76 rfl rfl ?_
        refine x_iload dLedger_lightest_78 rfl ?_
        -- at 80: .ifCond .eq 20
        refine x_if_eq (tgt := 100) dLedger_lightest_80 (by decide) (fun _ => ?_) (fun h => absurd (by decide) h)
        refine x_iincp_4 dLedger_lightest_100 rfl rfl ?_
        refine x_goto (tgt := 7) dLedger_lightest_103 (by decide) ?_
        -- at 7: .iload 4
        rw [nI_1]
        refine ih (i + 1) o _ _ (by omega) ?_
        rw [hs, if_neg (fun z => hno z.1)]
      refine x_eqi (tst_bit (by omega)) ?_
      by_cases hb : bt am i = true
      · rw [if_pos hb]
        refine x_iconst (v := 1) dLedger_lightest_47 rfl ?_
        -- at 48: .if_icmp .ne 27
        refine x_icmp_ne (tgt := 75) dLedger_lightest_48 (by decide) (fun h => absurd (by decide) h) (fun _ => ?_)
        refine x_aload_n dLedger_lightest_51 rfl ?_
        refine x_getR fl_Ledger_37 rfl dLedger_lightest_52 rfl rfl rfl ?_
        refine x_iload dLedger_lightest_55 rfl ?_
        refine x_ialdJ dLedger_lightest_57 rfl rfl rfl (by omega) ?_
        refine x_aload_n dLedger_lightest_58 rfl ?_
        refine x_getR fl_Ledger_47 rfl dLedger_lightest_59 rfl rfl rfl ?_
        refine x_getR fl_Ledger_187 rfl dLedger_lightest_62 rfl rfl rfl ?_
        refine x_iload dLedger_lightest_65 rfl ?_
        refine x_ialdJ dLedger_lightest_67 rfl rfl rfl (by omega) ?_
        -- at 68: .if_icmp .ge 7
        refine x_icmp_ge (tgt := 75) dLedger_lightest_68 (by decide) (fun c1 => ?_) (fun c1 => ?_)
        · exact no (fun z => absurd z.2 (Int32.not_lt.mpr c1))
        · have htk : bt am i = true ∧ I 43 i < I 11 i := ⟨hb, Int32.not_le.mp c1⟩
          refine x_iconst (v := 1) dLedger_lightest_71 rfl ?_
          refine x_goto (tgt := 76) dLedger_lightest_72 (by decide) ?_
          refine x_istore_6 dLedger_lightest_76 rfl rfl ?_
          refine x_iload dLedger_lightest_78 rfl ?_
          -- at 80: .ifCond .eq 20
          refine x_if_eq (tgt := 100) dLedger_lightest_80 (by decide) (fun h => absurd h (by decide)) (fun _ => ?_)
          refine x_iload_n dLedger_lightest_83 rfl ?_
          refine x_iconst (v := -1) dLedger_lightest_84 rfl ?_
          -- at 85: .if_icmp .eq 9
          refine x_icmp_eq (tgt := 94) dLedger_lightest_85 (by decide) (fun c2 => ?_) (fun c2 => ?_)
          · refine x_iload dLedger_lightest_94 rfl ?_
            refine x_istoren_2 dLedger_lightest_96 rfl rfl ?_
            refine x_iload dLedger_lightest_97 rfl ?_
            refine x_istoren_3 dLedger_lightest_99 rfl rfl ?_
            refine x_iincp_4 dLedger_lightest_100 rfl rfl ?_
            refine x_goto (tgt := 7) dLedger_lightest_103 (by decide) ?_
            -- at 7: .iload 4
            rw [nI_1]
            refine ih (i + 1) (nI i, I 10 i * (I 43 i + 1)) _ _ (by omega) ?_
            rw [hs, if_pos ⟨htk, Or.inl c2⟩]
            rfl
          · refine x_iload dLedger_lightest_88 rfl ?_
            refine x_iload_n dLedger_lightest_90 rfl ?_
            -- at 91: .if_icmp .ge 9
            refine x_icmp_ge (tgt := 100) dLedger_lightest_91 (by decide) (fun c3 => ?_) (fun c3 => ?_)
            · refine x_iincp_4 dLedger_lightest_100 rfl rfl ?_
              refine x_goto (tgt := 7) dLedger_lightest_103 (by decide) ?_
              -- at 7: .iload 4
              rw [nI_1]
              refine ih (i + 1) o _ _ (by omega) ?_
              rw [hs, if_neg (fun z => z.2.elim c2 (fun y => absurd y (Int32.not_lt.mpr c3)))]
            · refine x_iload dLedger_lightest_94 rfl ?_
              refine x_istoren_2 dLedger_lightest_96 rfl rfl ?_
              refine x_iload dLedger_lightest_97 rfl ?_
              refine x_istoren_3 dLedger_lightest_99 rfl rfl ?_
              refine x_iincp_4 dLedger_lightest_100 rfl rfl ?_
              refine x_goto (tgt := 7) dLedger_lightest_103 (by decide) ?_
              -- at 7: .iload 4
              rw [nI_1]
              refine ih (i + 1) (nI i, I 10 i * (I 43 i + 1)) _ _ (by omega) ?_
              rw [hs, if_pos ⟨htk, Or.inr (Int32.not_le.mp c3)⟩]
              rfl
      · rw [if_neg hb]
        refine x_iconst (v := 1) dLedger_lightest_47 rfl ?_
        -- at 48: .if_icmp .ne 27
        refine x_icmp_ne (tgt := 75) dLedger_lightest_48 (by decide) (fun _ => ?_) (fun h => absurd h (by decide))
        exact no (fun z => hb z.1)
  exact loop n 0 (-1, 0) _ _ (by omega) rfl
/-- shared out k times: the loads, or there isn't ROOM -/
def shR (V : IM) (am : Int32) (n k : Nat) : Option (Nat → Int32) := match k with
  | 0 => some (fun _ => 0)
  | j + 1 => match shR V am n j with
    | none => none
    | some E => if (ltR V E am n).1 = -1 then none else some (up1 E (cl (ltR V E am n).1) (E (cl (ltR V E am n).1) + 1))
theorem shR_none {V : IM} {am : Int32} {n j k : Nat} (h : shR V am n j = none) (hjk : j ≤ k) : shR V am n k = none := by
  induction k with
  | zero =>
    obtain rfl : j = 0 := by omega
    exact h
  | succ k ih =>
    by_cases e : j = k + 1
    · subst e; exact h
    · rw [shR, ih (by omega)]
def sp_Ledger_sharesOut : SpT := fun as S I L Post => ∃ (q m n nd : Nat) (P : Nat → List Int32), as = [.ref 35, .int (nI q)] ∧ S = S1 ∧ q < 8 ∧ I 18 4 = nI m ∧ m ≤ 10 ∧ I 4 8 = nI n ∧ n ≤ 8 ∧ (∀ s, s < m → I 37 s = CC (cV I) P n s) ∧ I 15 q = nI nd ∧ nd < 100 ∧
  (shR (cV I) (bs n (evF (cV I) P m q)) n nd = none → ∀ I' : IM, Fr [43] I I' → Post (some (.int 0)) S1 I' L) ∧
  (∀ E, shR (cV I) (bs n (evF (cV I) P m q)) n nd = some E → ∀ I' : IM, Fr [43] I I' → (∀ p, p < 8 → I' 43 p = E p) → Post (some (.int 1)) S1 I' L)
set_option maxHeartbeats 4000000 in
set_option maxRecDepth 100000 in
theorem c_Ledger_sharesOut : Con mLedger_sharesOut 4 0 0 sp_Ledger_sharesOut := by
  refine con_of_X rfl fun G as S I L Post hs => ?_
  obtain ⟨q, m, n, nd, P, rfl, rfl, hq, hm, hm10, hn, hn8, hc, hnd, hnd1, h1, h2⟩ := hs
  refine ⟨3, Nat.le_of_ble_eq_true rfl, ?_⟩
  show X mLedger_sharesOut G _ S1 I L 0 [.ref 35, .int (nI q), .null, .null, .null] [] Post
  refine x_iconst (v := 0) dLedger_sharesOut_0 rfl ?_
  refine x_istoren_2 dLedger_sharesOut_1 rfl rfl ?_
  -- at 2: .iload_n 2
  have loop2 : ∀ (k i : Nat) (I' : IM) (E : Nat → Int32) (a4 : Value), i + k = nd → Fr [43] I I' → shR (cV I) (bs n (evF (cV I) P m q)) n i = some E → (∀ p, p < 8 → I' 43 p = E p) →
      X mLedger_sharesOut G (4, 0, 0) S1 I' L 29 [.ref 35, .int (nI q), .int (bs n (evF (cV I) P m q)), .int (nI i), a4] [] Post := by
    intro k
    induction k with
    | zero =>
      intro i I' E a4 hi hF hE he
      obtain rfl : i = nd := by omega
      refine x_iload_n dLedger_sharesOut_29 rfl ?_
      refine x_aload_n dLedger_sharesOut_30 rfl ?_
      refine x_getR fl_Ledger_51 rfl dLedger_sharesOut_31 rfl rfl rfl ?_
      refine x_getR fl_Ledger_147 rfl dLedger_sharesOut_34 rfl rfl rfl ?_
      refine x_iload_n dLedger_sharesOut_37 rfl ?_
      refine x_ialdJ dLedger_sharesOut_38 rfl rfl rfl (by omega) ?_
      -- at 39: .if_icmp .ge 35
      rw [hF 15 (by decide), hnd]
      refine x_icmp_ge (tgt := 74) dLedger_sharesOut_39 (by decide) (fun _ => ?_) (fun h => absurd (Int32.le_refl _) h)
      refine x_iconst (v := 1) dLedger_sharesOut_74 rfl ?_
      -- at 75: .ireturn
      refine x_ireturn dLedger_sharesOut_75 rfl rfl ?_
      exact h2 E hE I' hF he
    | succ k ih =>
      intro i I' E a4 hi hF hE he
      have eV : cV I' = cV I := cV_fr (hF.wk (by decide))
      refine x_iload_n dLedger_sharesOut_29 rfl ?_
      refine x_aload_n dLedger_sharesOut_30 rfl ?_
      refine x_getR fl_Ledger_51 rfl dLedger_sharesOut_31 rfl rfl rfl ?_
      refine x_getR fl_Ledger_147 rfl dLedger_sharesOut_34 rfl rfl rfl ?_
      refine x_iload_n dLedger_sharesOut_37 rfl ?_
      refine x_ialdJ dLedger_sharesOut_38 rfl rfl rfl (by omega) ?_
      -- at 39: .if_icmp .ge 35
      rw [hF 15 (by decide), hnd]
      refine x_icmp_ge (tgt := 74) dLedger_sharesOut_39 (by decide) (fun h => absurd h (nI_ge (b := nd) (by omega) (by omega))) (fun _ => ?_)
      refine x_aload_n dLedger_sharesOut_42 rfl ?_
      refine x_iload_n dLedger_sharesOut_43 rfl ?_
      -- at 44: .invokevirtual 233
      refine x_callV_1 c_Ledger_lightest ok_Ledger_lightest ml_Ledger_233 dLedger_sharesOut_44 rfl rfl rfl rfl rfl ?_
      refine ⟨n, _, rfl, rfl, by rw [hF 4 (by decide)]; exact hn, hn8, ?_⟩
      rw [eV, ltR_congr (E' := E) n (fun p hp => he p (by omega))]
      have hs : shR (cV I) (bs n (evF (cV I) P m q)) n (i + 1) = if (ltR (cV I) E (bs n (evF (cV I) P m q)) n).1 = -1 then none else some (up1 E (cl (ltR (cV I) E (bs n (evF (cV I) P m q)) n).1) (E (cl (ltR (cV I) E (bs n (evF (cV I) P m q)) n).1) + 1)) := by
        rw [shR, hE]
      have hin := ltR_in (cV I) E (bs n (evF (cV I) P m q)) n
      generalize (ltR (cV I) E (bs n (evF (cV I) P m q)) n).1 = lt at hs hin ⊢
      refine x_istore_4 dLedger_sharesOut_47 rfl rfl ?_
      refine x_iload dLedger_sharesOut_49 rfl ?_
      refine x_iconst (v := -1) dLedger_sharesOut_51 rfl ?_
      -- at 52: .if_icmp .ne 5
      refine x_icmp_ne (tgt := 57) dLedger_sharesOut_52 (by decide) (fun c1 => ?_) (fun c1 => ?_)
      · rw [if_neg c1] at hs
        obtain ⟨p, hp, rfl⟩ := hin.elim (fun z => absurd z c1) id
        rw [cl_nI (by omega)] at hs
        refine x_aload_n dLedger_sharesOut_57 rfl ?_
        refine x_getR fl_Ledger_37 rfl dLedger_sharesOut_58 rfl rfl rfl ?_
        refine x_iload dLedger_sharesOut_61 rfl ?_
        refine x_dup2 dLedger_sharesOut_63 rfl rfl ?_
        refine x_ialdJ dLedger_sharesOut_64 rfl rfl rfl (by omega) ?_
        -- at 65: .iconst 1
        rw [he p (by omega)]
        refine x_iconst (v := 1) dLedger_sharesOut_65 rfl ?_
        refine x_iadd dLedger_sharesOut_66 ?_
        refine x_iastJ dLedger_sharesOut_67 rfl rfl rfl (by omega) ?_
        refine x_iincp_3 dLedger_sharesOut_68 rfl rfl ?_
        refine x_goto (tgt := 29) dLedger_sharesOut_71 (by decide) ?_
        -- at 29: .iload_n 3
        rw [nI_1]
        refine ih (i + 1) _ _ _ (by omega) (hF.up (by decide) _ _) hs (fun j hj => ?_)
        rw [up2_s, up1, up1]
        split
        · rfl
        · exact he j hj
      · rw [if_pos c1] at hs
        refine x_iconst (v := 0) dLedger_sharesOut_55 rfl ?_
        -- at 56: .ireturn
        refine x_ireturn dLedger_sharesOut_56 rfl rfl ?_
        exact h1 (shR_none hs (by omega)) I' hF
  have loop1 : ∀ (k i : Nat) (I' : IM), i + k = 8 → Fr [43] I I' → (∀ p, p < i → I' 43 p = 0) → X mLedger_sharesOut G (4, 0, 0) S1 I' L 2 [.ref 35, .int (nI q), .int (nI i), .null, .null] [] Post := by
    intro k
    induction k with
    | zero =>
      intro i I' hi hF he
      obtain rfl : i = 8 := by omega
      have eV : cV I' = cV I := cV_fr (hF.wk (by decide))
      refine x_iload_n dLedger_sharesOut_2 rfl ?_
      refine x_bipush (v := 8) dLedger_sharesOut_3 rfl ?_
      -- at 5: .if_icmp .ge 16
      refine x_icmp_ge (tgt := 21) dLedger_sharesOut_5 (by decide) (fun _ => ?_) (fun h => absurd (by decide) h)
      refine x_aload_n dLedger_sharesOut_21 rfl ?_
      refine x_iload_n dLedger_sharesOut_22 rfl ?_
      -- at 23: .invokevirtual 230
      refine x_callV_1 c_Ledger_evenBits ok_Ledger_evenBits ml_Ledger_230 dLedger_sharesOut_23 rfl rfl rfl rfl rfl ?_
      refine ⟨q, m, n, P, rfl, rfl, hq, by rw [hF 18 (by decide)]; exact hm, hm10, by rw [hF 4 (by decide)]; exact hn, hn8, fun s hs => by rw [eV, hF 37 (by decide)]; exact hc s hs, ?_⟩
      rw [eV]
      refine x_istoren_2 dLedger_sharesOut_26 rfl rfl ?_
      refine x_iconst (v := 0) dLedger_sharesOut_27 rfl ?_
      refine x_istoren_3 dLedger_sharesOut_28 rfl rfl ?_
      -- at 29: .iload_n 3
      exact loop2 nd 0 I' (fun _ => 0) _ (by omega) hF rfl he
    | succ k ih =>
      intro i I' hi hF he
      refine x_iload_n dLedger_sharesOut_2 rfl ?_
      refine x_bipush (v := 8) dLedger_sharesOut_3 rfl ?_
      -- at 5: .if_icmp .ge 16
      refine x_icmp_ge (tgt := 21) dLedger_sharesOut_5 (by decide) (fun h => absurd h (nI_ge (b := 8) (by omega) (by omega))) (fun _ => ?_)
      refine x_aload_n dLedger_sharesOut_8 rfl ?_
      refine x_getR fl_Ledger_37 rfl dLedger_sharesOut_9 rfl rfl rfl ?_
      refine x_iload_n dLedger_sharesOut_12 rfl ?_
      refine x_iconst (v := 0) dLedger_sharesOut_13 rfl ?_
      refine x_iastJ dLedger_sharesOut_14 rfl rfl rfl (by omega) ?_
      refine x_iincp_2 dLedger_sharesOut_15 rfl rfl ?_
      refine x_goto (tgt := 2) dLedger_sharesOut_18 (by decide) ?_
      -- at 2: .iload_n 2
      rw [nI_1]
      refine ih (i + 1) _ (by omega) (hF.up (by decide) _ _) (fun p hp => ?_)
      rw [up2_s, up1]
      split
      · rfl
      · exact he p (by omega)
  exact loop1 8 0 I (by omega) Fr.rfl (fun p hp => absurd hp (Nat.not_lt_zero p))
end
section
-- 29.bridge
/-! from the class's rows to the state -/
def prog (E : IM) (t j : Nat) : List Int32 := seg E t (sA E t j) (sA E t (j + 1))
/-- rows that speak of the same PEOPLE and SAYINGS -/
def VEq (V E : IM) (n m : Nat) : Prop := (∀ a, a ≤ 13 → a ≠ 9 → V a = E a) ∧ (∀ p, p < n → V 9 p = E 9 p) ∧ ∀ s, s < m → V 14 s = E 14 s ∧ V 15 s = E 15 s ∧ V 16 s = E 16 s ∧ V 17 s = E 17 s
theorem where_eq {V E : IM} {n m : Nat} (h : VEq V E n m) {p : Nat} (hp : p < n) (t : Int32) : whereV V p t = whereV E p t := by
  unfold whereV startV
  rw [h.1 2 (by omega) (by omega), h.1 3 (by omega) (by omega), h.1 5 (by omega) (by omega), h.2.1 p hp]
theorem hear_eq {V E : IM} {n m : Nat} (h : VEq V E n m) (P : Nat → List Int32) {s p : Nat} (hs : s < m) (hp : p < n) : hearV V P s p = hearV E P s p := by
  obtain ⟨a14, a15, a16, a17⟩ := h.2.2 s hs
  unfold hearV farV
  rw [where_eq h hp, a15, a16, a17, h.1 0 (by omega) (by omega), h.1 1 (by omega) (by omega), h.1 2 (by omega) (by omega), h.1 4 (by omega) (by omega), h.1 5 (by omega) (by omega)]
theorem CC_eq {V E : IM} {n m : Nat} (h : VEq V E n m) (P : Nat → List Int32) {s : Nat} (hs : s < m) : CC V P n s = CC E P n s :=
  bs_congr n (fun p hp => by unfold clF; rw [hear_eq h P hs hp])
theorem can_eq {V E : IM} {n m : Nat} (h : VEq V E n m) (p q : Nat) : canV V p q = canV E p q := by
  unfold canV
  rw [h.1 6 (by omega) (by omega), h.1 10 (by omega) (by omega)]
theorem share_eq {V E : IM} {n m : Nat} (h : VEq V E n m) (P : Nat → List Int32) {s : Nat} (hs : s < m) (c : Int32) (p : Nat) : shareV V P c s p = shareV E P c s p := by
  obtain ⟨a14, a15, a16, a17⟩ := h.2.2 s hs
  unfold shareV
  rw [a14, a17, can_eq h, h.1 2 (by omega) (by omega), h.1 11 (by omega) (by omega)]
theorem maxR_eq {V E : IM} {n m : Nat} (h : VEq V E n m) {D D' : Nat → Int32} {w : Int32} : ∀ k : Nat, k ≤ m → (∀ s, s < k → D s = D' s) → maxR V D w k = maxR E D' w k := by
  intro k
  induction k with
  | zero => intro _ _; rfl
  | succ j ih =>
    intro hk hD
    rw [maxR, maxR, ih (by omega) (fun s hs => hD s (by omega)), hD j (by omega), (h.2.2 j (by omega)).1]
theorem strR_eq {V E : IM} {n m : Nat} (h : VEq V E n m) (o : Nat → Int32) : ∀ k : Nat, strR V o k = strR E o k := by
  intro k
  induction k with
  | zero => rfl
  | succ j ih => rw [strR, strR, ih, strS, strS, h.1 13 (by omega) (by omega)]
theorem owes_eq {V E : IM} {n m : Nat} (h : VEq V E n m) {D D' : Nat → Nat → Int32} {nq : Nat} {w : Int32} {k : Nat} (hk : k ≤ m) (hD : ∀ p, p < n → ∀ s, s < k → D p s = D' p s) {I' : IM} (ho : OwesN V D n nq w k I') : OwesN E D' n nq w k I' := by
  intro p hp
  have h2 := ho p hp
  unfold Owes1 tot1 fin1 str1 at h2 ⊢
  rw [maxR_eq h (D' := D' p) k hk (hD p hp), strR_eq h, h.1 8 (by omega) (by omega)] at h2
  exact h2
theorem done_eq {V E : IM} {n m : Nat} (h : VEq V E n m) (k : Nat) {R R' : Nat → Nat → Int32} {q : Nat} (hR : ∀ p, p < k → R p q = R' p q) : doneV V k R q = doneV E k R' q := by
  have e : ∀ j, j ≤ k → doneA V R q j = doneA E R' q j := by
    intro j
    induction j with
    | zero => intro _; rfl
    | succ i ih => intro hj; rw [doneA, doneA, ih (by omega), can_eq h, hR i (by omega)]
  unfold doneV
  rw [e k (Nat.le_refl _), h.1 11 (by omega) (by omega)]
theorem keeps_eq {V E : IM} {n m : Nat} (h : VEq V E n m) (k : Nat) {R R' : Nat → Nat → Int32} {q : Nat} (hR : ∀ p, p < k → R p q = R' p q) : keepsV V k R q = keepsV E k R' q := by
  unfold keepsV
  rw [done_eq h k hR, h.1 11 (by omega) (by omega)]
theorem kept_eq {V E : IM} {n m : Nat} (h : VEq V E n m) (k nq : Nat) (hq : nq ≤ 8) {R R' : Nat → Nat → Int32} (hR : ∀ p, p < k → ∀ q, q < 8 → R p q = R' p q) : keptV V k nq R = keptV E k nq R' :=
  bs_congr nq (fun q hq2 => keeps_eq h k (fun p hp => hR p hp q (by omega)))
theorem worth_eq {V E : IM} {n m : Nat} (h : VEq V E n m) (k : Nat) {R R' : Nat → Nat → Int32} (hR : ∀ p, p < k → ∀ q, q < 8 → R p q = R' p q) : ∀ nq, nq ≤ 8 → worthV V k R nq = worthV E k R' nq := by
  intro nq
  induction nq with
  | zero => intro _; rfl
  | succ i ih => intro hq; rw [worthV, worthV, ih (by omega), keeps_eq h k (fun p hp => hR p hp i (by omega)), h.1 12 (by omega) (by omega)]
theorem pain_eq {V E : IM} {n m : Nat} (h : VEq V E n m) (P : Nat → List Int32) {T T' : Nat → Int32} : ∀ k, (∀ p, p < k → T p = T' p) → painA V P T k = painA E P T' k := by
  intro k
  induction k with
  | zero => intro _; rfl
  | succ i ih => intro hT; rw [painA, painA, ih (fun p hp => hT p (by omega)), painV, painV, hT i (by omega), h.1 4 (by omega) (by omega), h.1 7 (by omega) (by omega)]
theorem full_eq {V E : IM} {n m : Nat} (h : VEq V E n m) {T T' : Nat → Int32} (k : Nat) (hT : ∀ p, p < k → T p = T' p) : fullV V T k = fullV E T' k :=
  bs_congr k (fun p hp => by rw [hT p hp, h.1 8 (by omega) (by omega)])
/-- the law's programs; who hears CLEARLY; what is owed, in all, struck, BEYOND, by the first m SAYINGS but w -/
def PE (E : IM) : Nat → List Int32 := prog E (wN E)
def OE (E : IM) (P : Nat → List Int32) (C : Nat → Int32) (w : Int32) (m p : Nat) : (Nat → Int32) × Int32 × Int32 := fin1 E (DD E P C p) (qN E) w m p
def RE (E : IM) (P : Nat → List Int32) (C : Nat → Int32) (w : Int32) (m : Nat) : Nat → Nat → Int32 := fun p => (OE E P C w m p).1
def TE (E : IM) (P : Nat → List Int32) (C : Nat → Int32) (w : Int32) (m : Nat) : Nat → Int32 := fun p => tot1 E (DD E P C p) (qN E) w m p
def cOk (I : IM) : Prop := Inv (cE I)
theorem cE_pN (I : IM) : pN (cE I) = cl (I 4 8) := rfl
theorem cE_qN (I : IM) : qN (cE I) = cl (I 13 4) := rfl
theorem cE_sN (I : IM) : sN (cE I) = cl (I 18 4) := rfl
theorem cE_tN (I : IM) : tN (cE I) = cl (I 30 2) := rfl
theorem cVE (I : IM) : VEq (cV I) (cE I) (pN (cE I)) (sN (cE I)) := by
  refine ⟨fun a ha h9 => ?_, fun p hp => ?_, fun s hs => ⟨?_, ?_, ?_, ?_⟩⟩
  · rcases (show a = 0 ∨ a = 1 ∨ a = 2 ∨ a = 3 ∨ a = 4 ∨ a = 5 ∨ a = 6 ∨ a = 7 ∨ a = 8 ∨ a = 10 ∨ a = 11 ∨ a = 12 ∨ a = 13 by omega) with rfl | rfl | rfl | rfl | rfl | rfl | rfl | rfl | rfl | rfl | rfl | rfl | rfl <;> rfl
  · exact (mk_lt hp).symm
  · exact (mk_lt hs).symm
  · exact (mk_lt hs).symm
  · exact (mk_lt hs).symm
  · exact (mk_lt hs).symm
theorem cOk.ppl {I : IM} (h : cOk I) : PplOk I (pN (cE I)) := by
  obtain ⟨⟨h1, h2, h3⟩, -⟩ := h
  refine ⟨h1, h2, fun p hp => ?_⟩
  obtain ⟨a1, a2, a3, a4, a5, a6, a7, a8⟩ := h3 p hp
  refine ⟨a1, a2, a4, ?_⟩
  have e : cE I 9 p = cV I 9 p := mk_lt hp
  rw [e] at a8
  exact a8
theorem cOk.vow {I : IM} (h : cOk I) : VowOk I (qN (cE I)) := by
  obtain ⟨-, ⟨h1, h2, h3⟩, -⟩ := h
  refine ⟨h1, h2, fun j hj => ?_⟩
  obtain ⟨-, -, -, a⟩ := h3 j hj
  rcases a with e | ⟨c, hc, e⟩
  · exact Or.inl e
  · exact Or.inr ⟨c, by omega, e⟩
theorem cOk.say {I : IM} (h : cOk I) : I 18 4 = nI (sN (cE I)) ∧ sN (cE I) ≤ 10 ∧ ∀ s, s < sN (cE I) → SayV (cV I) s := by
  obtain ⟨-, ⟨-, hq8, -⟩, ⟨h1, h2, h3⟩, -⟩ := h
  refine ⟨h1, h2, fun s hs => ?_⟩
  obtain ⟨⟨q, hq, a1⟩, a2, a3, -⟩ := h3 s hs
  have e14 : cE I 14 s = cV I 14 s := mk_lt hs
  have e15 : cE I 15 s = cV I 15 s := mk_lt hs
  have e16 : cE I 16 s = cV I 16 s := mk_lt hs
  rw [e14] at a1
  rw [e15] at a2
  rw [e16] at a3
  exact ⟨⟨q, by omega, a1⟩, a2, a3⟩
theorem cOk.txt {I : IM} (h : cOk I) {t : Nat} (ht : t < tN (cE I)) : TxtC I (prog (cE I) t) t := by
  obtain ⟨-, -, -, ⟨h1, h2, h3, h4⟩, -⟩ := h
  obtain ⟨a1, a2, b0, b1, b2, a3, a4⟩ := h4 t ht
  have htt : t < cl (I 30 2) := ht
  have st : ∀ j, j < 4 → cE I 30 (4 * t + j) = I 32 (t * 4 + j) := fun j hj => by
    have e : cE I 30 (4 * t + j) = I 32 (4 * t + j) := mk_lt (by omega)
    rw [e, Nat.mul_comm]
  refine ⟨by omega, fun j hj => ⟨sA (cE I) t j, ?_, ?_, ?_, ?_, a4 j hj⟩⟩
  · rw [← st j (by omega), a1 j (by omega)]
  · rw [Nat.add_assoc, ← st (j + 1) (by omega), a1 (j + 1) (by omega)]
    have hle : sA (cE I) t j ≤ sA (cE I) t (j + 1) := by
      rcases (show j = 0 ∨ j = 1 ∨ j = 2 by omega) with rfl | rfl | rfl
      · exact b0
      · exact b1
      · exact b2
    congr 1
    simp [prog, seg]
    omega
  · have hle : sA (cE I) t (j + 1) ≤ 160 := by
      rcases (show j = 0 ∨ j = 1 ∨ j = 2 by omega) with rfl | rfl | rfl
      · exact Nat.le_trans b1 (Nat.le_trans b2 a3)
      · exact Nat.le_trans b2 a3
      · exact a3
    have hle2 : sA (cE I) t j ≤ sA (cE I) t (j + 1) := by
      rcases (show j = 0 ∨ j = 1 ∨ j = 2 by omega) with rfl | rfl | rfl
      · exact b0
      · exact b1
      · exact b2
    simp [prog, seg]
    omega
  · intro i hi
    have hi2 : i < sA (cE I) t (j + 1) - sA (cE I) t j := by simpa [prog, seg] using hi
    have hle : sA (cE I) t (j + 1) ≤ sA (cE I) t 3 := by
      rcases (show j = 0 ∨ j = 1 ∨ j = 2 by omega) with rfl | rfl | rfl
      · exact Nat.le_trans b1 b2
      · exact b2
      · exact Nat.le_refl _
    have e1 : (prog (cE I) t j).getD i 0 = cE I 31 (200 * t + (sA (cE I) t j + i)) := by
      simp [prog, seg, List.getD_eq_getElem?_getD, hi2]
    rw [e1]
    have d1 : (200 * t + (sA (cE I) t j + i)) / 200 = t := by omega
    have d2 : (200 * t + (sA (cE I) t j + i)) % 200 = sA (cE I) t j + i := by omega
    have e3 : cl (I 32 (4 * t + 3)) = sA (cE I) t 3 := by
      have e : cE I 30 (4 * t + 3) = I 32 (4 * t + 3) := mk_lt (by omega)
      rw [← e]
      rfl
    show _ = if (200 * t + (sA (cE I) t j + i)) / 200 < cl (I 30 2) ∧ (200 * t + (sA (cE I) t j + i)) % 200 < cl (I 32 (4 * ((200 * t + (sA (cE I) t j + i)) / 200) + 3)) then enc (I 31 (160 * ((200 * t + (sA (cE I) t j + i)) / 200) + (200 * t + (sA (cE I) t j + i)) % 200)) else 0
    rw [d1, d2, e3, if_pos ⟨ht, by omega⟩]
    congr 2
    omega
end
