/-! what is heard and owed, over rows by numbers (as the state has them, but of all rows, and as one has moved now) -/
def cV (I : IM) : IM := fun a => match a with
  | 0 => I 2 | 1 => I 3 | 2 => I 5 | 3 => I 6 | 4 => I 7 | 5 => I 8 | 6 => I 9 | 7 => I 10 | 8 => I 11
  | 9 => I 12 | 10 => I 14 | 11 => I 15 | 12 => I 16 | 13 => I 17
  | 14 => I 19 | 15 => I 20 | 16 => I 21 | 17 => I 22 | _ => fun _ => 0
def bnd (x m : Int32) : Int32 := imax 0 (imin x m)
def startV (V : IM) (p : Nat) : Int32 := if V 9 p = -1 then V 3 p else V 9 p
def whereV (V : IM) (p : Nat) (t : Int32) : Int32 := whK (V 2 p) (startV V p) (V 5 p) t
def farV (V : IM) (s p : Nat) : Int32 := V 0 (cl (whereV V p (V 16 s)) * 6 + cl (V 15 s))
def nm6 (a b c d e f : Int32) : Nat → Int32 := fun j => match j with
  | 0 => a | 1 => b | 2 => c | 3 => d | 4 => e | 5 => f | _ => 0
def hearV (V : IM) (P : Nat → List Int32) (s p : Nat) : Int32 := hrK (V 2 p) (V 5 p) (bnd (valP (nm6 (V 17 s) (farV V s p) (V 4 p) 0 0 (V 1 (cl (V 16 s)))) (P 0)) 100) (V 17 s)
def PerV (V : IM) (p : Nat) : Prop := rng (V 2 p) 6 ∧ rng (V 3 p) 6 ∧ rng (V 5 p) 10 ∧ rng1 (V 9 p) 6
def SayV (V : IM) (s : Nat) : Prop := rng (V 14 s) 8 ∧ rng (V 15 s) 6 ∧ rng (V 16 s) 6
/-- the class holds the three programs of a text -/
def TxtC (I : IM) (P : Nat → List Int32) (t : Nat) : Prop := t < 6 ∧ ∀ j, j < 3 → ∃ a, I 32 (t * 4 + j) = nI a ∧ I 32 (t * 4 + j + 1) = nI (a + (P j).length) ∧ a + (P j).length ≤ 160 ∧ (∀ i, i < (P j).length → enc (I 31 (t * 160 + a + i)) = (P j).getD i 0) ∧ wfR (P j) 0 = some 1
theorem TxtC.fr {I I' : IM} {P : Nat → List Int32} {t : Nat} (h : TxtC I P t) (h1 : I' 32 = I 32) (h2 : I' 31 = I 31) : TxtC I' P t := by
  unfold TxtC
  rw [h1, h2]
  exact h
theorem runP_congr {nm nm' : Nat → Int32} (hn : ∀ j, j < 6 → nm j = nm' j) : ∀ (l st : List Int32) (h o : Nat), wfR l h = some o → runP nm l st = runP nm' l st := by
  intro l
  induction l with
  | nil => intro st h o _; rfl
  | cons c t ih =>
    intro st h o hw
    have e : stp nm c st = stp nm' c st := by
      unfold stp
      by_cases h1 : 100000 ≤ c
      · simp [h1]
      · simp only [h1, if_false]
        by_cases h2 : c < 11
        · simp only [h2, if_true]
          have h3 : 0 ≤ c ∧ c < 6 := by
            unfold wfR at hw
            by_cases h4 : (100000 ≤ c ∧ c < 110000) ∨ (0 ≤ c ∧ c < 6)
            · exact h4.elim (fun z => absurd z.1 h1) id
            · rw [if_neg h4] at hw
              by_cases h5 : c = 13 ∨ c = 19
              · rcases h5 with rfl | rfl <;> exact absurd h2 (by decide)
              · rw [if_neg h5] at hw
                by_cases h6 : c = 11 ∨ c = 12 ∨ (14 ≤ c ∧ c ≤ 18)
                · rcases h6 with rfl | rfl | h6
                  · exact absurd h2 (by decide)
                  · exact absurd h2 (by decide)
                  · exact absurd (Int32.lt_of_lt_of_le h2 (by decide : (11 : Int32) ≤ 14)) (Int32.not_lt.mpr h6.1)
                · rw [if_neg h6] at hw
                  cases hw
          obtain ⟨k, hk, ek⟩ := rng_of (n := 6) rfl (by omega) h3.1 h3.2
          have e2 : cl c = k := by
            rw [ek]
            exact nI_clamp (by omega)
          rw [e2, hn k hk]
        · simp only [h2, if_false]
    rw [runP, runP, e]
    unfold wfR at hw
    split at hw
    · exact ih _ _ _ hw
    · split at hw
      · split at hw
        · exact ih _ _ _ hw
        · cases hw
      · split at hw
        · split at hw
          · exact ih _ _ _ hw
          · cases hw
        · cases hw
theorem valP_congr {nm nm' : Nat → Int32} {l : List Int32} {h o : Nat} (hn : ∀ j, j < 6 → nm j = nm' j) (hw : wfR l h = some o) : valP nm l = valP nm' l := by
  unfold valP
  rw [runP_congr hn l [] h o hw]
theorem where_rng {V : IM} {p m : Nat} (h : PerV V p) (hm : m < 6) : ∃ w, w < 6 ∧ whereV V p (nI m) = nI w := by
  obtain ⟨⟨k, hk, ek⟩, ⟨ho, hho, eho⟩, ⟨mo, hmo, emo⟩, hmv⟩ := h
  have hst : ∃ b, b < 6 ∧ startV V p = nI b := by
    unfold startV
    split
    · exact ⟨ho, hho, eho⟩
    · rename_i q
      rcases hmv with e | ⟨b, hb, e⟩
      · exact absurd e q
      · exact ⟨b, hb, e⟩
  obtain ⟨b, hb, eb⟩ := hst
  unfold whereV whK
  rw [eb]
  split
  · split
    · exact ⟨0, by omega, rfl⟩
    · have hd : ∃ d, 1 ≤ d ∧ d < 11 ∧ imax 1 (V 5 p) = nI d := by
        rw [emo]
        by_cases h1 : 1 ≤ mo
        · exact ⟨mo, h1, by omega, imax1n h1 (by omega)⟩
        · obtain rfl : mo = 0 := by omega
          exact ⟨1, by omega, by omega, rfl⟩
      obtain ⟨d, hd1, hd2, ed⟩ := hd
      rw [ed, pk_div (by omega) (by omega) (by omega), nI_add]
      exact ⟨(b + m / d) % 6, Nat.mod_lt _ (by omega), pk_rem (d := 6) (by have : m / d ≤ m := Nat.div_le_self _ _; omega) (by omega) (by omega)⟩
  · exact ⟨b, hb, rfl⟩
theorem cl_nI {k : Nat} (h : k < 2 ^ 31) : cl (nI k) = k := nI_clamp h
