/-! bits (rows b_ pasted from the kit's laws, as they are given for pasting) -/
def bt (x : Int32) (i : Nat) : Bool := x.toBitVec.getLsbD i
theorem b_ext {x y : Int32} (h : ∀ i, i < 32 → bt x i = bt y i) : x = y := Int32.toBitVec_inj.mp (BitVec.eq_of_getLsbD_eq (fun i hi => h i hi))
theorem b_or (x y : Int32) (i : Nat) : bt (x ||| y) i = (bt x i || bt y i) := by unfold bt; rw [Int32.toBitVec_or, BitVec.getLsbD_or]
theorem b_and (x y : Int32) (i : Nat) : bt (x &&& y) i = (bt x i && bt y i) := by unfold bt; rw [Int32.toBitVec_and, BitVec.getLsbD_and]
theorem b_xor (x y : Int32) (i : Nat) : bt (x ^^^ y) i = (bt x i ^^ bt y i) := by unfold bt; rw [Int32.toBitVec_xor, BitVec.getLsbD_xor]
theorem b_big {x : Int32} {i : Nat} (h : 32 ≤ i) : bt x i = false := BitVec.getLsbD_of_ge _ _ h
theorem b_m1 : ∀ i, i < 32 → bt (-1) i = true := by decide +kernel
theorem b_0 (i : Nat) : bt 0 i = false := BitVec.getLsbD_zero
theorem s_l : ∀ n, n < 32 → ((nI n &&& 31).toBitVec.smod 32).toNat = n := by decide +kernel
theorem s_u : ∀ n, n < 32 → (((nI n).toUInt32 &&& Int32.toUInt32 31).toBitVec % 32).toNat = n := by decide +kernel
theorem b_shl (n : Nat) (hn : n < 32) (x : Int32) {i : Nat} (hi : i < 32) : bt (x <<< (nI n &&& 31)) i = (decide (n ≤ i) && bt x (i - n)) := by
  unfold bt
  rw [Int32.toBitVec_shiftLeft]
  show (x.toBitVec <<< ((nI n &&& 31).toBitVec.smod 32).toNat).getLsbD i = _
  rw [s_l n hn, BitVec.getLsbD_shiftLeft]
  rcases Nat.lt_or_ge i n with h | h
  · simp [h, Nat.not_le.mpr h]
  · simp [hi, h, Nat.not_lt.mpr h]
theorem b_ushr (n : Nat) (hn : n < 32) (x : Int32) (i : Nat) : bt ((x.toUInt32 >>> ((nI n).toUInt32 &&& Int32.toUInt32 31)).toInt32) i = bt x (n + i) := by
  show (x.toUInt32 >>> ((nI n).toUInt32 &&& Int32.toUInt32 31)).toBitVec.getLsbD i = x.toUInt32.toBitVec.getLsbD (n + i)
  rw [UInt32.toBitVec_shiftRight]
  show (x.toUInt32.toBitVec >>> (((nI n).toUInt32 &&& Int32.toUInt32 31).toBitVec % 32).toNat).getLsbD i = _
  rw [s_u n hn, BitVec.getLsbD_ushiftRight]
theorem b_sshr (n : Nat) (hn : n < 32) (x : Int32) {i : Nat} (hi : i < 32) : bt (x >>> (nI n &&& 31)) i = if n + i < 32 then bt x (n + i) else bt x 31 := by
  unfold bt
  rw [Int32.toBitVec_shiftRight]
  show (x.toBitVec.sshiftRight ((nI n &&& 31).toBitVec.smod 32).toNat).getLsbD i = _
  rw [s_l n hn, BitVec.getLsbD_sshiftRight, BitVec.msb_eq_getLsbD_last]
  simp [hi]
/-- a set as the bits of an int -/
def one (p : Nat) : Int32 := (1 : Int32) <<< (nI p &&& 31)
def bs (n : Nat) (f : Nat → Bool) : Int32 := match n with
  | 0 => 0
  | k + 1 => if f k then bs k f ||| one k else bs k f
def setB (x : Int32) (p : Nat) (b : Bool) : Int32 := if b then x ||| one p else x &&& (one p ^^^ (-1))
theorem bt_one {p i : Nat} (hp : p < 32) (hi : i < 32) : bt (one p) i = decide (i = p) := by
  have h : ∀ p, p < 32 → ∀ i, i < 32 → bt (one p) i = decide (i = p) := by decide +kernel
  exact h p hp i hi
theorem bt_bs (f : Nat → Bool) : ∀ (n : Nat), n ≤ 32 → ∀ i, i < 32 → bt (bs n f) i = (decide (i < n) && f i) := by
  intro n
  induction n with
  | zero => intro _ i _; simp [bs, b_0]
  | succ k ih =>
    intro hk i hi
    rw [bs]
    have h1 := ih (by omega) i hi
    by_cases e : i = k
    · subst e
      split
      · rw [b_or, h1, bt_one hi hi]
        simp_all
      · rw [h1]
        simp_all
    · have h2 : decide (i < k + 1) = decide (i < k) := by
        by_cases h3 : i < k
        · simp [h3]; omega
        · simp [h3]; omega
      split
      · rw [b_or, h1, bt_one (by omega) hi, h2]
        simp [e]
      · rw [h1, h2]
theorem bt_setB {x : Int32} {p i : Nat} {b : Bool} (hp : p < 32) (hi : i < 32) : bt (setB x p b) i = if i = p then b else bt x i := by
  unfold setB
  cases b
  · simp only [Bool.false_eq_true, if_false]
    rw [b_and, b_xor, bt_one hp hi, b_m1 i hi]
    by_cases e : i = p <;> simp [e]
  · simp only [if_true]
    rw [b_or, bt_one hp hi]
    by_cases e : i = p <;> simp [e]
theorem setB_next (f : Nat → Bool) {p : Nat} (hp : p < 32) (b : Bool) (hb : b = f p) : setB (bs p f) p b = bs (p + 1) f := by
  refine b_ext fun i hi => ?_
  rw [bt_setB hp hi, bt_bs f p (by omega) i hi, bt_bs f (p + 1) (by omega) i hi, hb]
  by_cases e : i = p
  · subst e; simp
  · rw [if_neg e]
    congr 1
    by_cases h3 : i < p
    · simp [h3]; omega
    · simp [h3]; omega
theorem setB_in (f : Nat → Bool) {n p : Nat} (hp : p < n) (hn : n ≤ 32) (b : Bool) : setB (bs n f) p b = bs n (fun i => if i = p then b else f i) := by
  refine b_ext fun i hi => ?_
  rw [bt_setB (by omega) hi, bt_bs f n hn i hi, bt_bs _ n hn i hi]
  by_cases e : i = p
  · subst e; simp [hp]
  · simp [e]
theorem bs_congr {f g : Nat → Bool} : ∀ (n : Nat), (∀ i, i < n → f i = g i) → bs n f = bs n g := by
  intro n
  induction n with
  | zero => intro _; rfl
  | succ k ih =>
    intro h
    rw [bs, bs, h k (by omega), ih (fun i hi => h i (by omega))]
theorem tst_bit {x : Int32} {p : Nat} (hp : p < 32) : (x >>> (nI p &&& 31)) &&& 1 = if bt x p then 1 else 0 := by
  refine b_ext fun i hi => ?_
  rw [b_and, b_sshr p hp x hi]
  have h1 : bt 1 i = decide (i = 0) := by
    have h : ∀ i, i < 32 → bt 1 i = decide (i = 0) := by decide +kernel
    exact h i hi
  rw [h1]
  by_cases e : i = 0
  · subst e
    simp [hp]
    cases bt x p <;> decide
  · simp [e]
    cases bt x p
    · simp [b_0]
    · simp [h1, e]
