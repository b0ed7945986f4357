section
-- 08.decode-class
/-! instructions out of their bytes -/
def byt (code : ByteArray) (p n : Nat) : Prop := ∃ h : p < code.size, (code[p]'h).toNat = n
abbrev BL (code : ByteArray) (a : Nat) (l : List Nat) : Prop := ((code.data.toList.drop a).take l.length).map (fun x => x.toNat) = l
theorem byt_of {code : ByteArray} {a : Nat} {l : List Nat} (h : BL code a l) {j n : Nat} (hj : l[j]? = some n) : byt code (a + j) n := by
  have h1 : (((code.data.toList.drop a).take l.length).map (fun x => x.toNat))[j]? = some n := by rw [h]; exact hj
  have hlt : j < l.length := (List.getElem?_eq_some_iff.mp hj).1
  rw [List.getElem?_map, List.getElem?_take_of_lt hlt, List.getElem?_drop, Option.map_eq_some_iff] at h1
  obtain ⟨x, hx, hn⟩ := h1
  obtain ⟨hl, hx2⟩ := List.getElem?_eq_some_iff.mp hx
  have hs : a + j < code.size := by
    rw [Array.length_toList] at hl
    exact hl
  refine ⟨hs, ?_⟩
  rw [← hn, ← hx2]
  rfl
theorem rd_bind {α β : Type} (x : Jvm.ClassFile.Decoder α) (f : α → Jvm.ClassFile.Decoder β) (code : ByteArray) (p : Nat) : Jvm.ClassFile.Reader.runAt (x >>= f) code p = match Jvm.ClassFile.Reader.runAt x code p with | .ok (v, s) => Jvm.ClassFile.Reader.runAt (f v) code s | .error e => .error e := by
  show (ReaderT.run (x >>= f) code).run p = _
  simp only [ReaderT.run_bind, StateT.run_bind]
  cases h : (ReaderT.run x code).run p with
  | ok q => simp only [Jvm.ClassFile.Reader.runAt, h]; rfl
  | error e => simp only [Jvm.ClassFile.Reader.runAt, h]; rfl
theorem rd_u1 {code : ByteArray} {p n : Nat} (h : byt code p n) : Jvm.ClassFile.Reader.runAt (Jvm.ClassFile.Reader.u1 : Jvm.ClassFile.Decoder Nat) code p = .ok (n, p + 1) := by
  obtain ⟨hp, hn⟩ := h
  subst hn
  show (if h : p < code.size then (do set (p + 1); pure (code[p]'h).toNat : Jvm.ClassFile.Decoder Nat) else throw (Jvm.ClassFile.HasTruncated.truncated p) : Jvm.ClassFile.Decoder Nat) code p = _
  rw [dif_pos hp]
  rfl
theorem rd_u2 {code : ByteArray} {p a b : Nat} (h1 : byt code p a) (h2 : byt code (p + 1) b) : Jvm.ClassFile.Reader.runAt (Jvm.ClassFile.Reader.u2 : Jvm.ClassFile.Decoder Nat) code p = .ok (a * 256 + b, p + 2) := by
  unfold Jvm.ClassFile.Reader.u2
  rw [rd_bind, rd_u1 h1]
  show Jvm.ClassFile.Reader.runAt (Jvm.ClassFile.Reader.u1 >>= fun lo => pure (a * 256 + lo) : Jvm.ClassFile.Decoder Nat) code (p + 1) = _
  rw [rd_bind, rd_u1 h2]
  rfl
theorem rd_map {α β : Type} (f : α → β) (x : Jvm.ClassFile.Decoder α) (code : ByteArray) (p : Nat) {v : α} {s : Nat} (h : Jvm.ClassFile.Reader.runAt x code p = .ok (v, s)) : Jvm.ClassFile.Reader.runAt (f <$> x) code p = .ok (f v, s) := by
  have e : (f <$> x) = (x >>= fun v => pure (f v)) := rfl
  rw [e, rd_bind, h]
  rfl
theorem dec_1 {code : ByteArray} {pc op : Nat} (h : byt code pc op) (f : Nat → Jvm.ClassFile.Decoder Instr) (hf : Jvm.ClassFile.Decoder.instr pc = (Jvm.ClassFile.Reader.u1 >>= f)) {i : Instr} {n : Nat} (hi : Jvm.ClassFile.Reader.runAt (f op) code (pc + 1) = .ok (i, pc + n)) : decode code pc = .ok (i, n) := by
  have e : Jvm.ClassFile.Reader.runAt (Jvm.ClassFile.Decoder.instr pc) code pc = .ok (i, pc + n) := by
    rw [hf, rd_bind, rd_u1 h]
    exact hi
  have e2 : decode code pc = (match Jvm.ClassFile.Reader.runAt (Jvm.ClassFile.Decoder.instr pc) code pc with | .ok (i, s) => .ok (i, s - pc) | .error e => .error e) := by
    unfold decode
    cases Jvm.ClassFile.Reader.runAt (Jvm.ClassFile.Decoder.instr pc) code pc <;> rfl
  rw [e2, e]
  show Except.ok (i, pc + n - pc) = _
  rw [Nat.add_sub_cancel_left]
theorem o2 {code : ByteArray} {pc : Nat} (h : byt code pc 2) : decode code pc = .ok (.iconst (-1), 1) := dec_1 h _ rfl rfl
theorem o3 {code : ByteArray} {pc : Nat} (h : byt code pc 3) : decode code pc = .ok (.iconst 0, 1) := dec_1 h _ rfl rfl
theorem o4 {code : ByteArray} {pc : Nat} (h : byt code pc 4) : decode code pc = .ok (.iconst 1, 1) := dec_1 h _ rfl rfl
theorem o5 {code : ByteArray} {pc : Nat} (h : byt code pc 5) : decode code pc = .ok (.iconst 2, 1) := dec_1 h _ rfl rfl
theorem o6 {code : ByteArray} {pc : Nat} (h : byt code pc 6) : decode code pc = .ok (.iconst 3, 1) := dec_1 h _ rfl rfl
theorem o7 {code : ByteArray} {pc : Nat} (h : byt code pc 7) : decode code pc = .ok (.iconst 4, 1) := dec_1 h _ rfl rfl
theorem o8 {code : ByteArray} {pc : Nat} (h : byt code pc 8) : decode code pc = .ok (.iconst 5, 1) := dec_1 h _ rfl rfl
theorem o9 {code : ByteArray} {pc : Nat} (h : byt code pc 9) : decode code pc = .ok (.lconst 0, 1) := dec_1 h _ rfl rfl
theorem o10 {code : ByteArray} {pc : Nat} (h : byt code pc 10) : decode code pc = .ok (.lconst 1, 1) := dec_1 h _ rfl rfl
theorem o16 {code : ByteArray} {pc a : Nat} {q : Int} (h : byt code pc 16) (h1 : byt code (pc + 1) a) (hq : Jvm.ClassFile.Reader.signed 8 a = q) : decode code pc = .ok (.bipush q, 2) := dec_1 h _ rfl (by
  subst hq
  show Jvm.ClassFile.Reader.runAt ((Jvm.ClassFile.Reader.signed 8 <$> Jvm.ClassFile.Reader.u1) >>= fun x => pure (.bipush x) : Jvm.ClassFile.Decoder Instr) code (pc + 1) = _
  rw [rd_bind, rd_map _ _ _ _ (rd_u1 h1)]
  rfl)
theorem o17 {code : ByteArray} {pc a b : Nat} {q : Int} (h : byt code pc 17) (h1 : byt code (pc + 1) a) (h2 : byt code (pc + 2) b) (hq : Jvm.ClassFile.Reader.signed 16 (a * 256 + b) = q) : decode code pc = .ok (.sipush q, 3) := dec_1 h _ rfl (by
  subst hq
  show Jvm.ClassFile.Reader.runAt ((Jvm.ClassFile.Reader.signed 16 <$> Jvm.ClassFile.Reader.u2) >>= fun x => pure (.sipush x) : Jvm.ClassFile.Decoder Instr) code (pc + 1) = _
  rw [rd_bind, rd_map _ _ _ _ (rd_u2 h1 h2)]
  rfl)
theorem o18 {code : ByteArray} {pc a : Nat} (h : byt code pc 18) (h1 : byt code (pc + 1) a) : decode code pc = .ok (.ldc a, 2) := dec_1 h _ rfl (by
  show Jvm.ClassFile.Reader.runAt (Jvm.ClassFile.Reader.u1 >>= fun x => pure (.ldc x) : Jvm.ClassFile.Decoder Instr) code (pc + 1) = _
  rw [rd_bind, rd_u1 h1]
  rfl)
theorem o19 {code : ByteArray} {pc a b q : Nat} (h : byt code pc 19) (h1 : byt code (pc + 1) a) (h2 : byt code (pc + 2) b) (hq : a * 256 + b = q) : decode code pc = .ok (.ldc_w q, 3) := dec_1 h _ rfl (by
  subst hq
  show Jvm.ClassFile.Reader.runAt (Jvm.ClassFile.Reader.u2 >>= fun x => pure (.ldc_w x) : Jvm.ClassFile.Decoder Instr) code (pc + 1) = _
  rw [rd_bind, rd_u2 h1 h2]
  rfl)
theorem o20 {code : ByteArray} {pc a b q : Nat} (h : byt code pc 20) (h1 : byt code (pc + 1) a) (h2 : byt code (pc + 2) b) (hq : a * 256 + b = q) : decode code pc = .ok (.ldc2_w q, 3) := dec_1 h _ rfl (by
  subst hq
  show Jvm.ClassFile.Reader.runAt (Jvm.ClassFile.Reader.u2 >>= fun x => pure (.ldc2_w x) : Jvm.ClassFile.Decoder Instr) code (pc + 1) = _
  rw [rd_bind, rd_u2 h1 h2]
  rfl)
theorem o21 {code : ByteArray} {pc a : Nat} (h : byt code pc 21) (h1 : byt code (pc + 1) a) : decode code pc = .ok (.iload a, 2) := dec_1 h _ rfl (by
  show Jvm.ClassFile.Reader.runAt (Jvm.ClassFile.Reader.u1 >>= fun x => pure (.iload x) : Jvm.ClassFile.Decoder Instr) code (pc + 1) = _
  rw [rd_bind, rd_u1 h1]
  rfl)
theorem o22 {code : ByteArray} {pc a : Nat} (h : byt code pc 22) (h1 : byt code (pc + 1) a) : decode code pc = .ok (.lload a, 2) := dec_1 h _ rfl (by
  show Jvm.ClassFile.Reader.runAt (Jvm.ClassFile.Reader.u1 >>= fun x => pure (.lload x) : Jvm.ClassFile.Decoder Instr) code (pc + 1) = _
  rw [rd_bind, rd_u1 h1]
  rfl)
theorem o25 {code : ByteArray} {pc a : Nat} (h : byt code pc 25) (h1 : byt code (pc + 1) a) : decode code pc = .ok (.aload a, 2) := dec_1 h _ rfl (by
  show Jvm.ClassFile.Reader.runAt (Jvm.ClassFile.Reader.u1 >>= fun x => pure (.aload x) : Jvm.ClassFile.Decoder Instr) code (pc + 1) = _
  rw [rd_bind, rd_u1 h1]
  rfl)
theorem o26 {code : ByteArray} {pc : Nat} (h : byt code pc 26) : decode code pc = .ok (.iload_n 0, 1) := dec_1 h _ rfl rfl
theorem o27 {code : ByteArray} {pc : Nat} (h : byt code pc 27) : decode code pc = .ok (.iload_n 1, 1) := dec_1 h _ rfl rfl
theorem o28 {code : ByteArray} {pc : Nat} (h : byt code pc 28) : decode code pc = .ok (.iload_n 2, 1) := dec_1 h _ rfl rfl
theorem o29 {code : ByteArray} {pc : Nat} (h : byt code pc 29) : decode code pc = .ok (.iload_n 3, 1) := dec_1 h _ rfl rfl
theorem o30 {code : ByteArray} {pc : Nat} (h : byt code pc 30) : decode code pc = .ok (.lload_n 0, 1) := dec_1 h _ rfl rfl
theorem o32 {code : ByteArray} {pc : Nat} (h : byt code pc 32) : decode code pc = .ok (.lload_n 2, 1) := dec_1 h _ rfl rfl
theorem o33 {code : ByteArray} {pc : Nat} (h : byt code pc 33) : decode code pc = .ok (.lload_n 3, 1) := dec_1 h _ rfl rfl
theorem o42 {code : ByteArray} {pc : Nat} (h : byt code pc 42) : decode code pc = .ok (.aload_n 0, 1) := dec_1 h _ rfl rfl
theorem o43 {code : ByteArray} {pc : Nat} (h : byt code pc 43) : decode code pc = .ok (.aload_n 1, 1) := dec_1 h _ rfl rfl
theorem o44 {code : ByteArray} {pc : Nat} (h : byt code pc 44) : decode code pc = .ok (.aload_n 2, 1) := dec_1 h _ rfl rfl
theorem o45 {code : ByteArray} {pc : Nat} (h : byt code pc 45) : decode code pc = .ok (.aload_n 3, 1) := dec_1 h _ rfl rfl
theorem o46 {code : ByteArray} {pc : Nat} (h : byt code pc 46) : decode code pc = .ok (.iaload, 1) := dec_1 h _ rfl rfl
theorem o51 {code : ByteArray} {pc : Nat} (h : byt code pc 51) : decode code pc = .ok (.baload, 1) := dec_1 h _ rfl rfl
theorem o54 {code : ByteArray} {pc a : Nat} (h : byt code pc 54) (h1 : byt code (pc + 1) a) : decode code pc = .ok (.istore a, 2) := dec_1 h _ rfl (by
  show Jvm.ClassFile.Reader.runAt (Jvm.ClassFile.Reader.u1 >>= fun x => pure (.istore x) : Jvm.ClassFile.Decoder Instr) code (pc + 1) = _
  rw [rd_bind, rd_u1 h1]
  rfl)
theorem o55 {code : ByteArray} {pc a : Nat} (h : byt code pc 55) (h1 : byt code (pc + 1) a) : decode code pc = .ok (.lstore a, 2) := dec_1 h _ rfl (by
  show Jvm.ClassFile.Reader.runAt (Jvm.ClassFile.Reader.u1 >>= fun x => pure (.lstore x) : Jvm.ClassFile.Decoder Instr) code (pc + 1) = _
  rw [rd_bind, rd_u1 h1]
  rfl)
theorem o58 {code : ByteArray} {pc a : Nat} (h : byt code pc 58) (h1 : byt code (pc + 1) a) : decode code pc = .ok (.astore a, 2) := dec_1 h _ rfl (by
  show Jvm.ClassFile.Reader.runAt (Jvm.ClassFile.Reader.u1 >>= fun x => pure (.astore x) : Jvm.ClassFile.Decoder Instr) code (pc + 1) = _
  rw [rd_bind, rd_u1 h1]
  rfl)
theorem o59 {code : ByteArray} {pc : Nat} (h : byt code pc 59) : decode code pc = .ok (.istore_n 0, 1) := dec_1 h _ rfl rfl
theorem o60 {code : ByteArray} {pc : Nat} (h : byt code pc 60) : decode code pc = .ok (.istore_n 1, 1) := dec_1 h _ rfl rfl
theorem o61 {code : ByteArray} {pc : Nat} (h : byt code pc 61) : decode code pc = .ok (.istore_n 2, 1) := dec_1 h _ rfl rfl
theorem o62 {code : ByteArray} {pc : Nat} (h : byt code pc 62) : decode code pc = .ok (.istore_n 3, 1) := dec_1 h _ rfl rfl
theorem o65 {code : ByteArray} {pc : Nat} (h : byt code pc 65) : decode code pc = .ok (.lstore_n 2, 1) := dec_1 h _ rfl rfl
theorem o66 {code : ByteArray} {pc : Nat} (h : byt code pc 66) : decode code pc = .ok (.lstore_n 3, 1) := dec_1 h _ rfl rfl
theorem o76 {code : ByteArray} {pc : Nat} (h : byt code pc 76) : decode code pc = .ok (.astore_n 1, 1) := dec_1 h _ rfl rfl
theorem o77 {code : ByteArray} {pc : Nat} (h : byt code pc 77) : decode code pc = .ok (.astore_n 2, 1) := dec_1 h _ rfl rfl
theorem o79 {code : ByteArray} {pc : Nat} (h : byt code pc 79) : decode code pc = .ok (.iastore, 1) := dec_1 h _ rfl rfl
theorem o87 {code : ByteArray} {pc : Nat} (h : byt code pc 87) : decode code pc = .ok (.pop, 1) := dec_1 h _ rfl rfl
theorem o88 {code : ByteArray} {pc : Nat} (h : byt code pc 88) : decode code pc = .ok (.pop2, 1) := dec_1 h _ rfl rfl
theorem o89 {code : ByteArray} {pc : Nat} (h : byt code pc 89) : decode code pc = .ok (.dup, 1) := dec_1 h _ rfl rfl
theorem o92 {code : ByteArray} {pc : Nat} (h : byt code pc 92) : decode code pc = .ok (.dup2, 1) := dec_1 h _ rfl rfl
theorem o96 {code : ByteArray} {pc : Nat} (h : byt code pc 96) : decode code pc = .ok (.iadd, 1) := dec_1 h _ rfl rfl
theorem o97 {code : ByteArray} {pc : Nat} (h : byt code pc 97) : decode code pc = .ok (.ladd, 1) := dec_1 h _ rfl rfl
theorem o100 {code : ByteArray} {pc : Nat} (h : byt code pc 100) : decode code pc = .ok (.isub, 1) := dec_1 h _ rfl rfl
theorem o101 {code : ByteArray} {pc : Nat} (h : byt code pc 101) : decode code pc = .ok (.lsub, 1) := dec_1 h _ rfl rfl
theorem o104 {code : ByteArray} {pc : Nat} (h : byt code pc 104) : decode code pc = .ok (.imul, 1) := dec_1 h _ rfl rfl
theorem o105 {code : ByteArray} {pc : Nat} (h : byt code pc 105) : decode code pc = .ok (.lmul, 1) := dec_1 h _ rfl rfl
theorem o108 {code : ByteArray} {pc : Nat} (h : byt code pc 108) : decode code pc = .ok (.idiv, 1) := dec_1 h _ rfl rfl
theorem o109 {code : ByteArray} {pc : Nat} (h : byt code pc 109) : decode code pc = .ok (.ldiv, 1) := dec_1 h _ rfl rfl
theorem o112 {code : ByteArray} {pc : Nat} (h : byt code pc 112) : decode code pc = .ok (.irem, 1) := dec_1 h _ rfl rfl
theorem o113 {code : ByteArray} {pc : Nat} (h : byt code pc 113) : decode code pc = .ok (.lrem, 1) := dec_1 h _ rfl rfl
theorem o116 {code : ByteArray} {pc : Nat} (h : byt code pc 116) : decode code pc = .ok (.ineg, 1) := dec_1 h _ rfl rfl
theorem o120 {code : ByteArray} {pc : Nat} (h : byt code pc 120) : decode code pc = .ok (.ishl, 1) := dec_1 h _ rfl rfl
theorem o122 {code : ByteArray} {pc : Nat} (h : byt code pc 122) : decode code pc = .ok (.ishr, 1) := dec_1 h _ rfl rfl
theorem o124 {code : ByteArray} {pc : Nat} (h : byt code pc 124) : decode code pc = .ok (.iushr, 1) := dec_1 h _ rfl rfl
theorem o126 {code : ByteArray} {pc : Nat} (h : byt code pc 126) : decode code pc = .ok (.iand, 1) := dec_1 h _ rfl rfl
theorem o128 {code : ByteArray} {pc : Nat} (h : byt code pc 128) : decode code pc = .ok (.ior, 1) := dec_1 h _ rfl rfl
theorem o130 {code : ByteArray} {pc : Nat} (h : byt code pc 130) : decode code pc = .ok (.ixor, 1) := dec_1 h _ rfl rfl
theorem o132 {code : ByteArray} {pc a b : Nat} {q : Int} (h : byt code pc 132) (h1 : byt code (pc + 1) a) (h2 : byt code (pc + 2) b) (hq : Jvm.ClassFile.Reader.signed 8 b = q) : decode code pc = .ok (.iinc a q, 3) := dec_1 h _ rfl (by
  subst hq
  show Jvm.ClassFile.Reader.runAt (Jvm.ClassFile.Reader.u1 >>= fun x => (Jvm.ClassFile.Reader.signed 8 <$> Jvm.ClassFile.Reader.u1) >>= fun y => pure (.iinc x y) : Jvm.ClassFile.Decoder Instr) code (pc + 1) = _
  rw [rd_bind, rd_u1 h1]
  show Jvm.ClassFile.Reader.runAt ((Jvm.ClassFile.Reader.signed 8 <$> Jvm.ClassFile.Reader.u1) >>= fun y => pure (.iinc a y) : Jvm.ClassFile.Decoder Instr) code (pc + 1 + 1) = _
  rw [rd_bind, rd_map _ _ _ _ (rd_u1 h2)]
  rfl)
theorem o133 {code : ByteArray} {pc : Nat} (h : byt code pc 133) : decode code pc = .ok (.i2l, 1) := dec_1 h _ rfl rfl
theorem o145 {code : ByteArray} {pc : Nat} (h : byt code pc 145) : decode code pc = .ok (.i2b, 1) := dec_1 h _ rfl rfl
theorem o146 {code : ByteArray} {pc : Nat} (h : byt code pc 146) : decode code pc = .ok (.i2c, 1) := dec_1 h _ rfl rfl
theorem o147 {code : ByteArray} {pc : Nat} (h : byt code pc 147) : decode code pc = .ok (.i2s, 1) := dec_1 h _ rfl rfl
theorem o148 {code : ByteArray} {pc : Nat} (h : byt code pc 148) : decode code pc = .ok (.lcmp, 1) := dec_1 h _ rfl rfl
theorem o153 {code : ByteArray} {pc a b : Nat} {q : Int} (h : byt code pc 153) (h1 : byt code (pc + 1) a) (h2 : byt code (pc + 2) b) (hq : Jvm.ClassFile.Reader.signed 16 (a * 256 + b) = q) : decode code pc = .ok (.ifCond .eq q, 3) := dec_1 h _ rfl (by
  subst hq
  show Jvm.ClassFile.Reader.runAt ((Jvm.ClassFile.Reader.signed 16 <$> Jvm.ClassFile.Reader.u2) >>= fun x => pure (.ifCond .eq x) : Jvm.ClassFile.Decoder Instr) code (pc + 1) = _
  rw [rd_bind, rd_map _ _ _ _ (rd_u2 h1 h2)]
  rfl)
theorem o154 {code : ByteArray} {pc a b : Nat} {q : Int} (h : byt code pc 154) (h1 : byt code (pc + 1) a) (h2 : byt code (pc + 2) b) (hq : Jvm.ClassFile.Reader.signed 16 (a * 256 + b) = q) : decode code pc = .ok (.ifCond .ne q, 3) := dec_1 h _ rfl (by
  subst hq
  show Jvm.ClassFile.Reader.runAt ((Jvm.ClassFile.Reader.signed 16 <$> Jvm.ClassFile.Reader.u2) >>= fun x => pure (.ifCond .ne x) : Jvm.ClassFile.Decoder Instr) code (pc + 1) = _
  rw [rd_bind, rd_map _ _ _ _ (rd_u2 h1 h2)]
  rfl)
theorem o155 {code : ByteArray} {pc a b : Nat} {q : Int} (h : byt code pc 155) (h1 : byt code (pc + 1) a) (h2 : byt code (pc + 2) b) (hq : Jvm.ClassFile.Reader.signed 16 (a * 256 + b) = q) : decode code pc = .ok (.ifCond .lt q, 3) := dec_1 h _ rfl (by
  subst hq
  show Jvm.ClassFile.Reader.runAt ((Jvm.ClassFile.Reader.signed 16 <$> Jvm.ClassFile.Reader.u2) >>= fun x => pure (.ifCond .lt x) : Jvm.ClassFile.Decoder Instr) code (pc + 1) = _
  rw [rd_bind, rd_map _ _ _ _ (rd_u2 h1 h2)]
  rfl)
theorem o156 {code : ByteArray} {pc a b : Nat} {q : Int} (h : byt code pc 156) (h1 : byt code (pc + 1) a) (h2 : byt code (pc + 2) b) (hq : Jvm.ClassFile.Reader.signed 16 (a * 256 + b) = q) : decode code pc = .ok (.ifCond .ge q, 3) := dec_1 h _ rfl (by
  subst hq
  show Jvm.ClassFile.Reader.runAt ((Jvm.ClassFile.Reader.signed 16 <$> Jvm.ClassFile.Reader.u2) >>= fun x => pure (.ifCond .ge x) : Jvm.ClassFile.Decoder Instr) code (pc + 1) = _
  rw [rd_bind, rd_map _ _ _ _ (rd_u2 h1 h2)]
  rfl)
theorem o157 {code : ByteArray} {pc a b : Nat} {q : Int} (h : byt code pc 157) (h1 : byt code (pc + 1) a) (h2 : byt code (pc + 2) b) (hq : Jvm.ClassFile.Reader.signed 16 (a * 256 + b) = q) : decode code pc = .ok (.ifCond .gt q, 3) := dec_1 h _ rfl (by
  subst hq
  show Jvm.ClassFile.Reader.runAt ((Jvm.ClassFile.Reader.signed 16 <$> Jvm.ClassFile.Reader.u2) >>= fun x => pure (.ifCond .gt x) : Jvm.ClassFile.Decoder Instr) code (pc + 1) = _
  rw [rd_bind, rd_map _ _ _ _ (rd_u2 h1 h2)]
  rfl)
theorem o158 {code : ByteArray} {pc a b : Nat} {q : Int} (h : byt code pc 158) (h1 : byt code (pc + 1) a) (h2 : byt code (pc + 2) b) (hq : Jvm.ClassFile.Reader.signed 16 (a * 256 + b) = q) : decode code pc = .ok (.ifCond .le q, 3) := dec_1 h _ rfl (by
  subst hq
  show Jvm.ClassFile.Reader.runAt ((Jvm.ClassFile.Reader.signed 16 <$> Jvm.ClassFile.Reader.u2) >>= fun x => pure (.ifCond .le x) : Jvm.ClassFile.Decoder Instr) code (pc + 1) = _
  rw [rd_bind, rd_map _ _ _ _ (rd_u2 h1 h2)]
  rfl)
theorem o159 {code : ByteArray} {pc a b : Nat} {q : Int} (h : byt code pc 159) (h1 : byt code (pc + 1) a) (h2 : byt code (pc + 2) b) (hq : Jvm.ClassFile.Reader.signed 16 (a * 256 + b) = q) : decode code pc = .ok (.if_icmp .eq q, 3) := dec_1 h _ rfl (by
  subst hq
  show Jvm.ClassFile.Reader.runAt ((Jvm.ClassFile.Reader.signed 16 <$> Jvm.ClassFile.Reader.u2) >>= fun x => pure (.if_icmp .eq x) : Jvm.ClassFile.Decoder Instr) code (pc + 1) = _
  rw [rd_bind, rd_map _ _ _ _ (rd_u2 h1 h2)]
  rfl)
theorem o160 {code : ByteArray} {pc a b : Nat} {q : Int} (h : byt code pc 160) (h1 : byt code (pc + 1) a) (h2 : byt code (pc + 2) b) (hq : Jvm.ClassFile.Reader.signed 16 (a * 256 + b) = q) : decode code pc = .ok (.if_icmp .ne q, 3) := dec_1 h _ rfl (by
  subst hq
  show Jvm.ClassFile.Reader.runAt ((Jvm.ClassFile.Reader.signed 16 <$> Jvm.ClassFile.Reader.u2) >>= fun x => pure (.if_icmp .ne x) : Jvm.ClassFile.Decoder Instr) code (pc + 1) = _
  rw [rd_bind, rd_map _ _ _ _ (rd_u2 h1 h2)]
  rfl)
theorem o161 {code : ByteArray} {pc a b : Nat} {q : Int} (h : byt code pc 161) (h1 : byt code (pc + 1) a) (h2 : byt code (pc + 2) b) (hq : Jvm.ClassFile.Reader.signed 16 (a * 256 + b) = q) : decode code pc = .ok (.if_icmp .lt q, 3) := dec_1 h _ rfl (by
  subst hq
  show Jvm.ClassFile.Reader.runAt ((Jvm.ClassFile.Reader.signed 16 <$> Jvm.ClassFile.Reader.u2) >>= fun x => pure (.if_icmp .lt x) : Jvm.ClassFile.Decoder Instr) code (pc + 1) = _
  rw [rd_bind, rd_map _ _ _ _ (rd_u2 h1 h2)]
  rfl)
theorem o162 {code : ByteArray} {pc a b : Nat} {q : Int} (h : byt code pc 162) (h1 : byt code (pc + 1) a) (h2 : byt code (pc + 2) b) (hq : Jvm.ClassFile.Reader.signed 16 (a * 256 + b) = q) : decode code pc = .ok (.if_icmp .ge q, 3) := dec_1 h _ rfl (by
  subst hq
  show Jvm.ClassFile.Reader.runAt ((Jvm.ClassFile.Reader.signed 16 <$> Jvm.ClassFile.Reader.u2) >>= fun x => pure (.if_icmp .ge x) : Jvm.ClassFile.Decoder Instr) code (pc + 1) = _
  rw [rd_bind, rd_map _ _ _ _ (rd_u2 h1 h2)]
  rfl)
theorem o163 {code : ByteArray} {pc a b : Nat} {q : Int} (h : byt code pc 163) (h1 : byt code (pc + 1) a) (h2 : byt code (pc + 2) b) (hq : Jvm.ClassFile.Reader.signed 16 (a * 256 + b) = q) : decode code pc = .ok (.if_icmp .gt q, 3) := dec_1 h _ rfl (by
  subst hq
  show Jvm.ClassFile.Reader.runAt ((Jvm.ClassFile.Reader.signed 16 <$> Jvm.ClassFile.Reader.u2) >>= fun x => pure (.if_icmp .gt x) : Jvm.ClassFile.Decoder Instr) code (pc + 1) = _
  rw [rd_bind, rd_map _ _ _ _ (rd_u2 h1 h2)]
  rfl)
theorem o164 {code : ByteArray} {pc a b : Nat} {q : Int} (h : byt code pc 164) (h1 : byt code (pc + 1) a) (h2 : byt code (pc + 2) b) (hq : Jvm.ClassFile.Reader.signed 16 (a * 256 + b) = q) : decode code pc = .ok (.if_icmp .le q, 3) := dec_1 h _ rfl (by
  subst hq
  show Jvm.ClassFile.Reader.runAt ((Jvm.ClassFile.Reader.signed 16 <$> Jvm.ClassFile.Reader.u2) >>= fun x => pure (.if_icmp .le x) : Jvm.ClassFile.Decoder Instr) code (pc + 1) = _
  rw [rd_bind, rd_map _ _ _ _ (rd_u2 h1 h2)]
  rfl)
theorem o167 {code : ByteArray} {pc a b : Nat} {q : Int} (h : byt code pc 167) (h1 : byt code (pc + 1) a) (h2 : byt code (pc + 2) b) (hq : Jvm.ClassFile.Reader.signed 16 (a * 256 + b) = q) : decode code pc = .ok (.goto q, 3) := dec_1 h _ rfl (by
  subst hq
  show Jvm.ClassFile.Reader.runAt ((Jvm.ClassFile.Reader.signed 16 <$> Jvm.ClassFile.Reader.u2) >>= fun x => pure (.goto x) : Jvm.ClassFile.Decoder Instr) code (pc + 1) = _
  rw [rd_bind, rd_map _ _ _ _ (rd_u2 h1 h2)]
  rfl)
theorem o172 {code : ByteArray} {pc : Nat} (h : byt code pc 172) : decode code pc = .ok (.ireturn, 1) := dec_1 h _ rfl rfl
theorem o173 {code : ByteArray} {pc : Nat} (h : byt code pc 173) : decode code pc = .ok (.lreturn, 1) := dec_1 h _ rfl rfl
theorem o177 {code : ByteArray} {pc : Nat} (h : byt code pc 177) : decode code pc = .ok (.return_, 1) := dec_1 h _ rfl rfl
theorem o178 {code : ByteArray} {pc a b q : Nat} (h : byt code pc 178) (h1 : byt code (pc + 1) a) (h2 : byt code (pc + 2) b) (hq : a * 256 + b = q) : decode code pc = .ok (.getstatic q, 3) := dec_1 h _ rfl (by
  subst hq
  show Jvm.ClassFile.Reader.runAt (Jvm.ClassFile.Reader.u2 >>= fun x => pure (.getstatic x) : Jvm.ClassFile.Decoder Instr) code (pc + 1) = _
  rw [rd_bind, rd_u2 h1 h2]
  rfl)
theorem o180 {code : ByteArray} {pc a b q : Nat} (h : byt code pc 180) (h1 : byt code (pc + 1) a) (h2 : byt code (pc + 2) b) (hq : a * 256 + b = q) : decode code pc = .ok (.getfield q, 3) := dec_1 h _ rfl (by
  subst hq
  show Jvm.ClassFile.Reader.runAt (Jvm.ClassFile.Reader.u2 >>= fun x => pure (.getfield x) : Jvm.ClassFile.Decoder Instr) code (pc + 1) = _
  rw [rd_bind, rd_u2 h1 h2]
  rfl)
theorem o181 {code : ByteArray} {pc a b q : Nat} (h : byt code pc 181) (h1 : byt code (pc + 1) a) (h2 : byt code (pc + 2) b) (hq : a * 256 + b = q) : decode code pc = .ok (.putfield q, 3) := dec_1 h _ rfl (by
  subst hq
  show Jvm.ClassFile.Reader.runAt (Jvm.ClassFile.Reader.u2 >>= fun x => pure (.putfield x) : Jvm.ClassFile.Decoder Instr) code (pc + 1) = _
  rw [rd_bind, rd_u2 h1 h2]
  rfl)
theorem o182 {code : ByteArray} {pc a b q : Nat} (h : byt code pc 182) (h1 : byt code (pc + 1) a) (h2 : byt code (pc + 2) b) (hq : a * 256 + b = q) : decode code pc = .ok (.invokevirtual q, 3) := dec_1 h _ rfl (by
  subst hq
  show Jvm.ClassFile.Reader.runAt (Jvm.ClassFile.Reader.u2 >>= fun x => pure (.invokevirtual x) : Jvm.ClassFile.Decoder Instr) code (pc + 1) = _
  rw [rd_bind, rd_u2 h1 h2]
  rfl)
theorem o183 {code : ByteArray} {pc a b q : Nat} (h : byt code pc 183) (h1 : byt code (pc + 1) a) (h2 : byt code (pc + 2) b) (hq : a * 256 + b = q) : decode code pc = .ok (.invokespecial q, 3) := dec_1 h _ rfl (by
  subst hq
  show Jvm.ClassFile.Reader.runAt (Jvm.ClassFile.Reader.u2 >>= fun x => pure (.invokespecial x) : Jvm.ClassFile.Decoder Instr) code (pc + 1) = _
  rw [rd_bind, rd_u2 h1 h2]
  rfl)
theorem o184 {code : ByteArray} {pc a b q : Nat} (h : byt code pc 184) (h1 : byt code (pc + 1) a) (h2 : byt code (pc + 2) b) (hq : a * 256 + b = q) : decode code pc = .ok (.invokestatic q, 3) := dec_1 h _ rfl (by
  subst hq
  show Jvm.ClassFile.Reader.runAt (Jvm.ClassFile.Reader.u2 >>= fun x => pure (.invokestatic x) : Jvm.ClassFile.Decoder Instr) code (pc + 1) = _
  rw [rd_bind, rd_u2 h1 h2]
  rfl)
theorem o187 {code : ByteArray} {pc a b q : Nat} (h : byt code pc 187) (h1 : byt code (pc + 1) a) (h2 : byt code (pc + 2) b) (hq : a * 256 + b = q) : decode code pc = .ok (.new q, 3) := dec_1 h _ rfl (by
  subst hq
  show Jvm.ClassFile.Reader.runAt (Jvm.ClassFile.Reader.u2 >>= fun x => pure (.new x) : Jvm.ClassFile.Decoder Instr) code (pc + 1) = _
  rw [rd_bind, rd_u2 h1 h2]
  rfl)
theorem o188 {code : ByteArray} {pc : Nat} (h : byt code pc 188) (h1 : byt code (pc + 1) 10) : decode code pc = .ok (.newarray .int, 2) := dec_1 h _ rfl (by
  have e : Jvm.ClassFile.Reader.runAt (Jvm.ClassFile.Decoder.newarray pc) code (pc + 1) = .ok (.newarray .int, pc + 2) := by
    unfold Jvm.ClassFile.Decoder.newarray
    rw [rd_bind, rd_u1 h1]
    rfl
  exact e)
theorem o190 {code : ByteArray} {pc : Nat} (h : byt code pc 190) : decode code pc = .ok (.arraylength, 1) := dec_1 h _ rfl rfl
theorem o191 {code : ByteArray} {pc : Nat} (h : byt code pc 191) : decode code pc = .ok (.athrow, 1) := dec_1 h _ rfl rfl
def bFolk_init_b0 : List Nat := [42, 183, 0, 3, 42, 16, 8, 188, 10, 181, 0, 9, 42, 16, 8, 188, 10, 181, 0, 15, 42, 16, 8, 188, 10, 181, 0, 18, 42, 16, 8, 188, 10, 181, 0, 21, 42, 16]
theorem hFolk_init_b0 : BL (mcc mFolk_init) 0 bFolk_init_b0 := by decide +kernel
theorem dFolk_init_0 : decode (mcc mFolk_init) 0 = .ok (.aload_n 0, 1) := o42 (byt_of hFolk_init_b0 (j := 0) rfl)
theorem dFolk_init_1 : decode (mcc mFolk_init) 1 = .ok (.invokespecial 3, 3) := o183 (a := 0) (b := 3) (byt_of hFolk_init_b0 (j := 1) rfl) (byt_of hFolk_init_b0 (j := 2) rfl) (byt_of hFolk_init_b0 (j := 3) rfl) rfl
theorem dFolk_init_4 : decode (mcc mFolk_init) 4 = .ok (.aload_n 0, 1) := o42 (byt_of hFolk_init_b0 (j := 4) rfl)
theorem dFolk_init_5 : decode (mcc mFolk_init) 5 = .ok (.bipush 8, 2) := o16 (a := 8) (byt_of hFolk_init_b0 (j := 5) rfl) (byt_of hFolk_init_b0 (j := 6) rfl) rfl
theorem dFolk_init_7 : decode (mcc mFolk_init) 7 = .ok (.newarray .int, 2) := o188 (byt_of hFolk_init_b0 (j := 7) rfl) (byt_of hFolk_init_b0 (j := 8) rfl)
theorem dFolk_init_9 : decode (mcc mFolk_init) 9 = .ok (.putfield 9, 3) := o181 (a := 0) (b := 9) (byt_of hFolk_init_b0 (j := 9) rfl) (byt_of hFolk_init_b0 (j := 10) rfl) (byt_of hFolk_init_b0 (j := 11) rfl) rfl
theorem dFolk_init_12 : decode (mcc mFolk_init) 12 = .ok (.aload_n 0, 1) := o42 (byt_of hFolk_init_b0 (j := 12) rfl)
theorem dFolk_init_13 : decode (mcc mFolk_init) 13 = .ok (.bipush 8, 2) := o16 (a := 8) (byt_of hFolk_init_b0 (j := 13) rfl) (byt_of hFolk_init_b0 (j := 14) rfl) rfl
theorem dFolk_init_15 : decode (mcc mFolk_init) 15 = .ok (.newarray .int, 2) := o188 (byt_of hFolk_init_b0 (j := 15) rfl) (byt_of hFolk_init_b0 (j := 16) rfl)
theorem dFolk_init_17 : decode (mcc mFolk_init) 17 = .ok (.putfield 15, 3) := o181 (a := 0) (b := 15) (byt_of hFolk_init_b0 (j := 17) rfl) (byt_of hFolk_init_b0 (j := 18) rfl) (byt_of hFolk_init_b0 (j := 19) rfl) rfl
theorem dFolk_init_20 : decode (mcc mFolk_init) 20 = .ok (.aload_n 0, 1) := o42 (byt_of hFolk_init_b0 (j := 20) rfl)
theorem dFolk_init_21 : decode (mcc mFolk_init) 21 = .ok (.bipush 8, 2) := o16 (a := 8) (byt_of hFolk_init_b0 (j := 21) rfl) (byt_of hFolk_init_b0 (j := 22) rfl) rfl
theorem dFolk_init_23 : decode (mcc mFolk_init) 23 = .ok (.newarray .int, 2) := o188 (byt_of hFolk_init_b0 (j := 23) rfl) (byt_of hFolk_init_b0 (j := 24) rfl)
theorem dFolk_init_25 : decode (mcc mFolk_init) 25 = .ok (.putfield 18, 3) := o181 (a := 0) (b := 18) (byt_of hFolk_init_b0 (j := 25) rfl) (byt_of hFolk_init_b0 (j := 26) rfl) (byt_of hFolk_init_b0 (j := 27) rfl) rfl
theorem dFolk_init_28 : decode (mcc mFolk_init) 28 = .ok (.aload_n 0, 1) := o42 (byt_of hFolk_init_b0 (j := 28) rfl)
theorem dFolk_init_29 : decode (mcc mFolk_init) 29 = .ok (.bipush 8, 2) := o16 (a := 8) (byt_of hFolk_init_b0 (j := 29) rfl) (byt_of hFolk_init_b0 (j := 30) rfl) rfl
theorem dFolk_init_31 : decode (mcc mFolk_init) 31 = .ok (.newarray .int, 2) := o188 (byt_of hFolk_init_b0 (j := 31) rfl) (byt_of hFolk_init_b0 (j := 32) rfl)
def bFolk_init_b1 : List Nat := [10, 181, 0, 21, 42, 16, 8, 188, 10, 181, 0, 24, 42, 16, 8, 188, 10, 181, 0, 27, 42, 16, 8, 188, 10, 181, 0, 30, 42, 16, 8, 188, 10, 181, 0, 33, 42, 3]
theorem hFolk_init_b1 : BL (mcc mFolk_init) 32 bFolk_init_b1 := by decide +kernel
theorem dFolk_init_33 : decode (mcc mFolk_init) 33 = .ok (.putfield 21, 3) := o181 (a := 0) (b := 21) (byt_of hFolk_init_b1 (j := 1) rfl) (byt_of hFolk_init_b1 (j := 2) rfl) (byt_of hFolk_init_b1 (j := 3) rfl) rfl
theorem dFolk_init_36 : decode (mcc mFolk_init) 36 = .ok (.aload_n 0, 1) := o42 (byt_of hFolk_init_b1 (j := 4) rfl)
theorem dFolk_init_37 : decode (mcc mFolk_init) 37 = .ok (.bipush 8, 2) := o16 (a := 8) (byt_of hFolk_init_b1 (j := 5) rfl) (byt_of hFolk_init_b1 (j := 6) rfl) rfl
theorem dFolk_init_39 : decode (mcc mFolk_init) 39 = .ok (.newarray .int, 2) := o188 (byt_of hFolk_init_b1 (j := 7) rfl) (byt_of hFolk_init_b1 (j := 8) rfl)
theorem dFolk_init_41 : decode (mcc mFolk_init) 41 = .ok (.putfield 24, 3) := o181 (a := 0) (b := 24) (byt_of hFolk_init_b1 (j := 9) rfl) (byt_of hFolk_init_b1 (j := 10) rfl) (byt_of hFolk_init_b1 (j := 11) rfl) rfl
theorem dFolk_init_44 : decode (mcc mFolk_init) 44 = .ok (.aload_n 0, 1) := o42 (byt_of hFolk_init_b1 (j := 12) rfl)
theorem dFolk_init_45 : decode (mcc mFolk_init) 45 = .ok (.bipush 8, 2) := o16 (a := 8) (byt_of hFolk_init_b1 (j := 13) rfl) (byt_of hFolk_init_b1 (j := 14) rfl) rfl
theorem dFolk_init_47 : decode (mcc mFolk_init) 47 = .ok (.newarray .int, 2) := o188 (byt_of hFolk_init_b1 (j := 15) rfl) (byt_of hFolk_init_b1 (j := 16) rfl)
theorem dFolk_init_49 : decode (mcc mFolk_init) 49 = .ok (.putfield 27, 3) := o181 (a := 0) (b := 27) (byt_of hFolk_init_b1 (j := 17) rfl) (byt_of hFolk_init_b1 (j := 18) rfl) (byt_of hFolk_init_b1 (j := 19) rfl) rfl
theorem dFolk_init_52 : decode (mcc mFolk_init) 52 = .ok (.aload_n 0, 1) := o42 (byt_of hFolk_init_b1 (j := 20) rfl)
theorem dFolk_init_53 : decode (mcc mFolk_init) 53 = .ok (.bipush 8, 2) := o16 (a := 8) (byt_of hFolk_init_b1 (j := 21) rfl) (byt_of hFolk_init_b1 (j := 22) rfl) rfl
theorem dFolk_init_55 : decode (mcc mFolk_init) 55 = .ok (.newarray .int, 2) := o188 (byt_of hFolk_init_b1 (j := 23) rfl) (byt_of hFolk_init_b1 (j := 24) rfl)
theorem dFolk_init_57 : decode (mcc mFolk_init) 57 = .ok (.putfield 30, 3) := o181 (a := 0) (b := 30) (byt_of hFolk_init_b1 (j := 25) rfl) (byt_of hFolk_init_b1 (j := 26) rfl) (byt_of hFolk_init_b1 (j := 27) rfl) rfl
theorem dFolk_init_60 : decode (mcc mFolk_init) 60 = .ok (.aload_n 0, 1) := o42 (byt_of hFolk_init_b1 (j := 28) rfl)
theorem dFolk_init_61 : decode (mcc mFolk_init) 61 = .ok (.bipush 8, 2) := o16 (a := 8) (byt_of hFolk_init_b1 (j := 29) rfl) (byt_of hFolk_init_b1 (j := 30) rfl) rfl
theorem dFolk_init_63 : decode (mcc mFolk_init) 63 = .ok (.newarray .int, 2) := o188 (byt_of hFolk_init_b1 (j := 31) rfl) (byt_of hFolk_init_b1 (j := 32) rfl)
def bFolk_init_b2 : List Nat := [10, 181, 0, 33, 42, 3, 181, 0, 36, 177]
theorem hFolk_init_b2 : BL (mcc mFolk_init) 64 bFolk_init_b2 := by decide +kernel
theorem dFolk_init_65 : decode (mcc mFolk_init) 65 = .ok (.putfield 33, 3) := o181 (a := 0) (b := 33) (byt_of hFolk_init_b2 (j := 1) rfl) (byt_of hFolk_init_b2 (j := 2) rfl) (byt_of hFolk_init_b2 (j := 3) rfl) rfl
theorem dFolk_init_68 : decode (mcc mFolk_init) 68 = .ok (.aload_n 0, 1) := o42 (byt_of hFolk_init_b2 (j := 4) rfl)
theorem dFolk_init_69 : decode (mcc mFolk_init) 69 = .ok (.iconst 0, 1) := o3 (byt_of hFolk_init_b2 (j := 5) rfl)
theorem dFolk_init_70 : decode (mcc mFolk_init) 70 = .ok (.putfield 36, 3) := o181 (a := 0) (b := 36) (byt_of hFolk_init_b2 (j := 6) rfl) (byt_of hFolk_init_b2 (j := 7) rfl) (byt_of hFolk_init_b2 (j := 8) rfl) rfl
theorem dFolk_init_73 : decode (mcc mFolk_init) 73 = .ok (.return_, 1) := o177 (byt_of hFolk_init_b2 (j := 9) rfl)
def bFolk_has_b0 : List Nat := [27, 3, 42, 180, 0, 36, 4, 100, 184, 0, 40, 172]
theorem hFolk_has_b0 : BL (mcc mFolk_has) 0 bFolk_has_b0 := by decide +kernel
theorem dFolk_has_0 : decode (mcc mFolk_has) 0 = .ok (.iload_n 1, 1) := o27 (byt_of hFolk_has_b0 (j := 0) rfl)
theorem dFolk_has_1 : decode (mcc mFolk_has) 1 = .ok (.iconst 0, 1) := o3 (byt_of hFolk_has_b0 (j := 1) rfl)
theorem dFolk_has_2 : decode (mcc mFolk_has) 2 = .ok (.aload_n 0, 1) := o42 (byt_of hFolk_has_b0 (j := 2) rfl)
theorem dFolk_has_3 : decode (mcc mFolk_has) 3 = .ok (.getfield 36, 3) := o180 (a := 0) (b := 36) (byt_of hFolk_has_b0 (j := 3) rfl) (byt_of hFolk_has_b0 (j := 4) rfl) (byt_of hFolk_has_b0 (j := 5) rfl) rfl
theorem dFolk_has_6 : decode (mcc mFolk_has) 6 = .ok (.iconst 1, 1) := o4 (byt_of hFolk_has_b0 (j := 6) rfl)
theorem dFolk_has_7 : decode (mcc mFolk_has) 7 = .ok (.isub, 1) := o100 (byt_of hFolk_has_b0 (j := 7) rfl)
theorem dFolk_has_8 : decode (mcc mFolk_has) 8 = .ok (.invokestatic 40, 3) := o184 (a := 0) (b := 40) (byt_of hFolk_has_b0 (j := 8) rfl) (byt_of hFolk_has_b0 (j := 9) rfl) (byt_of hFolk_has_b0 (j := 10) rfl) rfl
theorem dFolk_has_11 : decode (mcc mFolk_has) 11 = .ok (.ireturn, 1) := o172 (byt_of hFolk_has_b0 (j := 11) rfl)
def bFolk_add_b0 : List Nat := [42, 180, 0, 36, 54, 5, 42, 180, 0, 9, 21, 5, 27, 79, 42, 180, 0, 15, 21, 5, 28, 16, 100, 108, 79, 42, 180, 0, 18, 21, 5, 28, 16, 10, 108, 16, 10, 112]
theorem hFolk_add_b0 : BL (mcc mFolk_add) 0 bFolk_add_b0 := by decide +kernel
theorem dFolk_add_0 : decode (mcc mFolk_add) 0 = .ok (.aload_n 0, 1) := o42 (byt_of hFolk_add_b0 (j := 0) rfl)
theorem dFolk_add_1 : decode (mcc mFolk_add) 1 = .ok (.getfield 36, 3) := o180 (a := 0) (b := 36) (byt_of hFolk_add_b0 (j := 1) rfl) (byt_of hFolk_add_b0 (j := 2) rfl) (byt_of hFolk_add_b0 (j := 3) rfl) rfl
theorem dFolk_add_4 : decode (mcc mFolk_add) 4 = .ok (.istore 5, 2) := o54 (a := 5) (byt_of hFolk_add_b0 (j := 4) rfl) (byt_of hFolk_add_b0 (j := 5) rfl)
theorem dFolk_add_6 : decode (mcc mFolk_add) 6 = .ok (.aload_n 0, 1) := o42 (byt_of hFolk_add_b0 (j := 6) rfl)
theorem dFolk_add_7 : decode (mcc mFolk_add) 7 = .ok (.getfield 9, 3) := o180 (a := 0) (b := 9) (byt_of hFolk_add_b0 (j := 7) rfl) (byt_of hFolk_add_b0 (j := 8) rfl) (byt_of hFolk_add_b0 (j := 9) rfl) rfl
theorem dFolk_add_10 : decode (mcc mFolk_add) 10 = .ok (.iload 5, 2) := o21 (a := 5) (byt_of hFolk_add_b0 (j := 10) rfl) (byt_of hFolk_add_b0 (j := 11) rfl)
theorem dFolk_add_12 : decode (mcc mFolk_add) 12 = .ok (.iload_n 1, 1) := o27 (byt_of hFolk_add_b0 (j := 12) rfl)
theorem dFolk_add_13 : decode (mcc mFolk_add) 13 = .ok (.iastore, 1) := o79 (byt_of hFolk_add_b0 (j := 13) rfl)
theorem dFolk_add_14 : decode (mcc mFolk_add) 14 = .ok (.aload_n 0, 1) := o42 (byt_of hFolk_add_b0 (j := 14) rfl)
theorem dFolk_add_15 : decode (mcc mFolk_add) 15 = .ok (.getfield 15, 3) := o180 (a := 0) (b := 15) (byt_of hFolk_add_b0 (j := 15) rfl) (byt_of hFolk_add_b0 (j := 16) rfl) (byt_of hFolk_add_b0 (j := 17) rfl) rfl
theorem dFolk_add_18 : decode (mcc mFolk_add) 18 = .ok (.iload 5, 2) := o21 (a := 5) (byt_of hFolk_add_b0 (j := 18) rfl) (byt_of hFolk_add_b0 (j := 19) rfl)
theorem dFolk_add_20 : decode (mcc mFolk_add) 20 = .ok (.iload_n 2, 1) := o28 (byt_of hFolk_add_b0 (j := 20) rfl)
theorem dFolk_add_21 : decode (mcc mFolk_add) 21 = .ok (.bipush 100, 2) := o16 (a := 100) (byt_of hFolk_add_b0 (j := 21) rfl) (byt_of hFolk_add_b0 (j := 22) rfl) rfl
theorem dFolk_add_23 : decode (mcc mFolk_add) 23 = .ok (.idiv, 1) := o108 (byt_of hFolk_add_b0 (j := 23) rfl)
theorem dFolk_add_24 : decode (mcc mFolk_add) 24 = .ok (.iastore, 1) := o79 (byt_of hFolk_add_b0 (j := 24) rfl)
theorem dFolk_add_25 : decode (mcc mFolk_add) 25 = .ok (.aload_n 0, 1) := o42 (byt_of hFolk_add_b0 (j := 25) rfl)
theorem dFolk_add_26 : decode (mcc mFolk_add) 26 = .ok (.getfield 18, 3) := o180 (a := 0) (b := 18) (byt_of hFolk_add_b0 (j := 26) rfl) (byt_of hFolk_add_b0 (j := 27) rfl) (byt_of hFolk_add_b0 (j := 28) rfl) rfl
theorem dFolk_add_29 : decode (mcc mFolk_add) 29 = .ok (.iload 5, 2) := o21 (a := 5) (byt_of hFolk_add_b0 (j := 29) rfl) (byt_of hFolk_add_b0 (j := 30) rfl)
theorem dFolk_add_31 : decode (mcc mFolk_add) 31 = .ok (.iload_n 2, 1) := o28 (byt_of hFolk_add_b0 (j := 31) rfl)
def bFolk_add_b1 : List Nat := [16, 10, 108, 16, 10, 112, 79, 42, 180, 0, 21, 21, 5, 28, 16, 10, 112, 79, 42, 180, 0, 24, 21, 5, 29, 79, 42, 180, 0, 27, 21, 5, 21, 4, 16, 100, 108, 79]
theorem hFolk_add_b1 : BL (mcc mFolk_add) 32 bFolk_add_b1 := by decide +kernel
theorem dFolk_add_32 : decode (mcc mFolk_add) 32 = .ok (.bipush 10, 2) := o16 (a := 10) (byt_of hFolk_add_b1 (j := 0) rfl) (byt_of hFolk_add_b1 (j := 1) rfl) rfl
theorem dFolk_add_34 : decode (mcc mFolk_add) 34 = .ok (.idiv, 1) := o108 (byt_of hFolk_add_b1 (j := 2) rfl)
theorem dFolk_add_35 : decode (mcc mFolk_add) 35 = .ok (.bipush 10, 2) := o16 (a := 10) (byt_of hFolk_add_b1 (j := 3) rfl) (byt_of hFolk_add_b1 (j := 4) rfl) rfl
theorem dFolk_add_37 : decode (mcc mFolk_add) 37 = .ok (.irem, 1) := o112 (byt_of hFolk_add_b1 (j := 5) rfl)
theorem dFolk_add_38 : decode (mcc mFolk_add) 38 = .ok (.iastore, 1) := o79 (byt_of hFolk_add_b1 (j := 6) rfl)
theorem dFolk_add_39 : decode (mcc mFolk_add) 39 = .ok (.aload_n 0, 1) := o42 (byt_of hFolk_add_b1 (j := 7) rfl)
theorem dFolk_add_40 : decode (mcc mFolk_add) 40 = .ok (.getfield 21, 3) := o180 (a := 0) (b := 21) (byt_of hFolk_add_b1 (j := 8) rfl) (byt_of hFolk_add_b1 (j := 9) rfl) (byt_of hFolk_add_b1 (j := 10) rfl) rfl
theorem dFolk_add_43 : decode (mcc mFolk_add) 43 = .ok (.iload 5, 2) := o21 (a := 5) (byt_of hFolk_add_b1 (j := 11) rfl) (byt_of hFolk_add_b1 (j := 12) rfl)
theorem dFolk_add_45 : decode (mcc mFolk_add) 45 = .ok (.iload_n 2, 1) := o28 (byt_of hFolk_add_b1 (j := 13) rfl)
theorem dFolk_add_46 : decode (mcc mFolk_add) 46 = .ok (.bipush 10, 2) := o16 (a := 10) (byt_of hFolk_add_b1 (j := 14) rfl) (byt_of hFolk_add_b1 (j := 15) rfl) rfl
theorem dFolk_add_48 : decode (mcc mFolk_add) 48 = .ok (.irem, 1) := o112 (byt_of hFolk_add_b1 (j := 16) rfl)
theorem dFolk_add_49 : decode (mcc mFolk_add) 49 = .ok (.iastore, 1) := o79 (byt_of hFolk_add_b1 (j := 17) rfl)
theorem dFolk_add_50 : decode (mcc mFolk_add) 50 = .ok (.aload_n 0, 1) := o42 (byt_of hFolk_add_b1 (j := 18) rfl)
theorem dFolk_add_51 : decode (mcc mFolk_add) 51 = .ok (.getfield 24, 3) := o180 (a := 0) (b := 24) (byt_of hFolk_add_b1 (j := 19) rfl) (byt_of hFolk_add_b1 (j := 20) rfl) (byt_of hFolk_add_b1 (j := 21) rfl) rfl
theorem dFolk_add_54 : decode (mcc mFolk_add) 54 = .ok (.iload 5, 2) := o21 (a := 5) (byt_of hFolk_add_b1 (j := 22) rfl) (byt_of hFolk_add_b1 (j := 23) rfl)
theorem dFolk_add_56 : decode (mcc mFolk_add) 56 = .ok (.iload_n 3, 1) := o29 (byt_of hFolk_add_b1 (j := 24) rfl)
theorem dFolk_add_57 : decode (mcc mFolk_add) 57 = .ok (.iastore, 1) := o79 (byt_of hFolk_add_b1 (j := 25) rfl)
theorem dFolk_add_58 : decode (mcc mFolk_add) 58 = .ok (.aload_n 0, 1) := o42 (byt_of hFolk_add_b1 (j := 26) rfl)
theorem dFolk_add_59 : decode (mcc mFolk_add) 59 = .ok (.getfield 27, 3) := o180 (a := 0) (b := 27) (byt_of hFolk_add_b1 (j := 27) rfl) (byt_of hFolk_add_b1 (j := 28) rfl) (byt_of hFolk_add_b1 (j := 29) rfl) rfl
theorem dFolk_add_62 : decode (mcc mFolk_add) 62 = .ok (.iload 5, 2) := o21 (a := 5) (byt_of hFolk_add_b1 (j := 30) rfl) (byt_of hFolk_add_b1 (j := 31) rfl)
def bFolk_add_b2 : List Nat := [21, 4, 16, 100, 108, 79, 42, 180, 0, 30, 21, 5, 21, 4, 16, 100, 112, 79, 42, 180, 0, 33, 21, 5, 2, 79, 42, 21, 5, 4, 96, 181, 0, 36, 21, 5, 172]
theorem hFolk_add_b2 : BL (mcc mFolk_add) 64 bFolk_add_b2 := by decide +kernel
theorem dFolk_add_64 : decode (mcc mFolk_add) 64 = .ok (.iload 4, 2) := o21 (a := 4) (byt_of hFolk_add_b2 (j := 0) rfl) (byt_of hFolk_add_b2 (j := 1) rfl)
theorem dFolk_add_66 : decode (mcc mFolk_add) 66 = .ok (.bipush 100, 2) := o16 (a := 100) (byt_of hFolk_add_b2 (j := 2) rfl) (byt_of hFolk_add_b2 (j := 3) rfl) rfl
theorem dFolk_add_68 : decode (mcc mFolk_add) 68 = .ok (.idiv, 1) := o108 (byt_of hFolk_add_b2 (j := 4) rfl)
theorem dFolk_add_69 : decode (mcc mFolk_add) 69 = .ok (.iastore, 1) := o79 (byt_of hFolk_add_b2 (j := 5) rfl)
theorem dFolk_add_70 : decode (mcc mFolk_add) 70 = .ok (.aload_n 0, 1) := o42 (byt_of hFolk_add_b2 (j := 6) rfl)
theorem dFolk_add_71 : decode (mcc mFolk_add) 71 = .ok (.getfield 30, 3) := o180 (a := 0) (b := 30) (byt_of hFolk_add_b2 (j := 7) rfl) (byt_of hFolk_add_b2 (j := 8) rfl) (byt_of hFolk_add_b2 (j := 9) rfl) rfl
theorem dFolk_add_74 : decode (mcc mFolk_add) 74 = .ok (.iload 5, 2) := o21 (a := 5) (byt_of hFolk_add_b2 (j := 10) rfl) (byt_of hFolk_add_b2 (j := 11) rfl)
theorem dFolk_add_76 : decode (mcc mFolk_add) 76 = .ok (.iload 4, 2) := o21 (a := 4) (byt_of hFolk_add_b2 (j := 12) rfl) (byt_of hFolk_add_b2 (j := 13) rfl)
theorem dFolk_add_78 : decode (mcc mFolk_add) 78 = .ok (.bipush 100, 2) := o16 (a := 100) (byt_of hFolk_add_b2 (j := 14) rfl) (byt_of hFolk_add_b2 (j := 15) rfl) rfl
theorem dFolk_add_80 : decode (mcc mFolk_add) 80 = .ok (.irem, 1) := o112 (byt_of hFolk_add_b2 (j := 16) rfl)
theorem dFolk_add_81 : decode (mcc mFolk_add) 81 = .ok (.iastore, 1) := o79 (byt_of hFolk_add_b2 (j := 17) rfl)
theorem dFolk_add_82 : decode (mcc mFolk_add) 82 = .ok (.aload_n 0, 1) := o42 (byt_of hFolk_add_b2 (j := 18) rfl)
theorem dFolk_add_83 : decode (mcc mFolk_add) 83 = .ok (.getfield 33, 3) := o180 (a := 0) (b := 33) (byt_of hFolk_add_b2 (j := 19) rfl) (byt_of hFolk_add_b2 (j := 20) rfl) (byt_of hFolk_add_b2 (j := 21) rfl) rfl
theorem dFolk_add_86 : decode (mcc mFolk_add) 86 = .ok (.iload 5, 2) := o21 (a := 5) (byt_of hFolk_add_b2 (j := 22) rfl) (byt_of hFolk_add_b2 (j := 23) rfl)
theorem dFolk_add_88 : decode (mcc mFolk_add) 88 = .ok (.iconst (-1), 1) := o2 (byt_of hFolk_add_b2 (j := 24) rfl)
theorem dFolk_add_89 : decode (mcc mFolk_add) 89 = .ok (.iastore, 1) := o79 (byt_of hFolk_add_b2 (j := 25) rfl)
theorem dFolk_add_90 : decode (mcc mFolk_add) 90 = .ok (.aload_n 0, 1) := o42 (byt_of hFolk_add_b2 (j := 26) rfl)
theorem dFolk_add_91 : decode (mcc mFolk_add) 91 = .ok (.iload 5, 2) := o21 (a := 5) (byt_of hFolk_add_b2 (j := 27) rfl) (byt_of hFolk_add_b2 (j := 28) rfl)
theorem dFolk_add_93 : decode (mcc mFolk_add) 93 = .ok (.iconst 1, 1) := o4 (byt_of hFolk_add_b2 (j := 29) rfl)
theorem dFolk_add_94 : decode (mcc mFolk_add) 94 = .ok (.iadd, 1) := o96 (byt_of hFolk_add_b2 (j := 30) rfl)
theorem dFolk_add_95 : decode (mcc mFolk_add) 95 = .ok (.putfield 36, 3) := o181 (a := 0) (b := 36) (byt_of hFolk_add_b2 (j := 31) rfl) (byt_of hFolk_add_b2 (j := 32) rfl) (byt_of hFolk_add_b2 (j := 33) rfl) rfl
def bFolk_add_b3 : List Nat := [0, 36, 21, 5, 172]
theorem hFolk_add_b3 : BL (mcc mFolk_add) 96 bFolk_add_b3 := by decide +kernel
theorem dFolk_add_98 : decode (mcc mFolk_add) 98 = .ok (.iload 5, 2) := o21 (a := 5) (byt_of hFolk_add_b3 (j := 2) rfl) (byt_of hFolk_add_b3 (j := 3) rfl)
theorem dFolk_add_100 : decode (mcc mFolk_add) 100 = .ok (.ireturn, 1) := o172 (byt_of hFolk_add_b3 (j := 4) rfl)
def bFolk_isA_b0 : List Nat := [42, 180, 0, 9, 27, 46, 62, 3, 54, 4, 21, 4, 16, 6, 162, 0, 26, 29, 155, 0, 22, 29, 28, 160, 0, 5, 4, 172, 178, 0, 44, 29, 46, 62, 132, 4, 1, 167]
theorem hFolk_isA_b0 : BL (mcc mFolk_isA) 0 bFolk_isA_b0 := by decide +kernel
theorem dFolk_isA_0 : decode (mcc mFolk_isA) 0 = .ok (.aload_n 0, 1) := o42 (byt_of hFolk_isA_b0 (j := 0) rfl)
theorem dFolk_isA_1 : decode (mcc mFolk_isA) 1 = .ok (.getfield 9, 3) := o180 (a := 0) (b := 9) (byt_of hFolk_isA_b0 (j := 1) rfl) (byt_of hFolk_isA_b0 (j := 2) rfl) (byt_of hFolk_isA_b0 (j := 3) rfl) rfl
theorem dFolk_isA_4 : decode (mcc mFolk_isA) 4 = .ok (.iload_n 1, 1) := o27 (byt_of hFolk_isA_b0 (j := 4) rfl)
theorem dFolk_isA_5 : decode (mcc mFolk_isA) 5 = .ok (.iaload, 1) := o46 (byt_of hFolk_isA_b0 (j := 5) rfl)
theorem dFolk_isA_6 : decode (mcc mFolk_isA) 6 = .ok (.istore_n 3, 1) := o62 (byt_of hFolk_isA_b0 (j := 6) rfl)
theorem dFolk_isA_7 : decode (mcc mFolk_isA) 7 = .ok (.iconst 0, 1) := o3 (byt_of hFolk_isA_b0 (j := 7) rfl)
theorem dFolk_isA_8 : decode (mcc mFolk_isA) 8 = .ok (.istore 4, 2) := o54 (a := 4) (byt_of hFolk_isA_b0 (j := 8) rfl) (byt_of hFolk_isA_b0 (j := 9) rfl)
theorem dFolk_isA_10 : decode (mcc mFolk_isA) 10 = .ok (.iload 4, 2) := o21 (a := 4) (byt_of hFolk_isA_b0 (j := 10) rfl) (byt_of hFolk_isA_b0 (j := 11) rfl)
theorem dFolk_isA_12 : decode (mcc mFolk_isA) 12 = .ok (.bipush 6, 2) := o16 (a := 6) (byt_of hFolk_isA_b0 (j := 12) rfl) (byt_of hFolk_isA_b0 (j := 13) rfl) rfl
theorem dFolk_isA_14 : decode (mcc mFolk_isA) 14 = .ok (.if_icmp .ge 26, 3) := o162 (a := 0) (b := 26) (byt_of hFolk_isA_b0 (j := 14) rfl) (byt_of hFolk_isA_b0 (j := 15) rfl) (byt_of hFolk_isA_b0 (j := 16) rfl) rfl
theorem dFolk_isA_17 : decode (mcc mFolk_isA) 17 = .ok (.iload_n 3, 1) := o29 (byt_of hFolk_isA_b0 (j := 17) rfl)
theorem dFolk_isA_18 : decode (mcc mFolk_isA) 18 = .ok (.ifCond .lt 22, 3) := o155 (a := 0) (b := 22) (byt_of hFolk_isA_b0 (j := 18) rfl) (byt_of hFolk_isA_b0 (j := 19) rfl) (byt_of hFolk_isA_b0 (j := 20) rfl) rfl
theorem dFolk_isA_21 : decode (mcc mFolk_isA) 21 = .ok (.iload_n 3, 1) := o29 (byt_of hFolk_isA_b0 (j := 21) rfl)
theorem dFolk_isA_22 : decode (mcc mFolk_isA) 22 = .ok (.iload_n 2, 1) := o28 (byt_of hFolk_isA_b0 (j := 22) rfl)
theorem dFolk_isA_23 : decode (mcc mFolk_isA) 23 = .ok (.if_icmp .ne 5, 3) := o160 (a := 0) (b := 5) (byt_of hFolk_isA_b0 (j := 23) rfl) (byt_of hFolk_isA_b0 (j := 24) rfl) (byt_of hFolk_isA_b0 (j := 25) rfl) rfl
theorem dFolk_isA_26 : decode (mcc mFolk_isA) 26 = .ok (.iconst 1, 1) := o4 (byt_of hFolk_isA_b0 (j := 26) rfl)
theorem dFolk_isA_27 : decode (mcc mFolk_isA) 27 = .ok (.ireturn, 1) := o172 (byt_of hFolk_isA_b0 (j := 27) rfl)
theorem dFolk_isA_28 : decode (mcc mFolk_isA) 28 = .ok (.getstatic 44, 3) := o178 (a := 0) (b := 44) (byt_of hFolk_isA_b0 (j := 28) rfl) (byt_of hFolk_isA_b0 (j := 29) rfl) (byt_of hFolk_isA_b0 (j := 30) rfl) rfl
theorem dFolk_isA_31 : decode (mcc mFolk_isA) 31 = .ok (.iload_n 3, 1) := o29 (byt_of hFolk_isA_b0 (j := 31) rfl)
def bFolk_isA_b1 : List Nat := [46, 62, 132, 4, 1, 167, 255, 229, 3, 172]
theorem hFolk_isA_b1 : BL (mcc mFolk_isA) 32 bFolk_isA_b1 := by decide +kernel
theorem dFolk_isA_32 : decode (mcc mFolk_isA) 32 = .ok (.iaload, 1) := o46 (byt_of hFolk_isA_b1 (j := 0) rfl)
theorem dFolk_isA_33 : decode (mcc mFolk_isA) 33 = .ok (.istore_n 3, 1) := o62 (byt_of hFolk_isA_b1 (j := 1) rfl)
theorem dFolk_isA_34 : decode (mcc mFolk_isA) 34 = .ok (.iinc 4 1, 3) := o132 (a := 4) (b := 1) (byt_of hFolk_isA_b1 (j := 2) rfl) (byt_of hFolk_isA_b1 (j := 3) rfl) (byt_of hFolk_isA_b1 (j := 4) rfl) rfl
theorem dFolk_isA_37 : decode (mcc mFolk_isA) 37 = .ok (.goto (-27), 3) := o167 (a := 255) (b := 229) (byt_of hFolk_isA_b1 (j := 5) rfl) (byt_of hFolk_isA_b1 (j := 6) rfl) (byt_of hFolk_isA_b1 (j := 7) rfl) rfl
theorem dFolk_isA_40 : decode (mcc mFolk_isA) 40 = .ok (.iconst 0, 1) := o3 (byt_of hFolk_isA_b1 (j := 8) rfl)
theorem dFolk_isA_41 : decode (mcc mFolk_isA) 41 = .ok (.ireturn, 1) := o172 (byt_of hFolk_isA_b1 (j := 9) rfl)
def bFolk_startOf_b0 : List Nat := [42, 180, 0, 33, 27, 46, 2, 160, 0, 12, 42, 180, 0, 15, 27, 46, 167, 0, 9, 42, 180, 0, 33, 27, 46, 172]
theorem hFolk_startOf_b0 : BL (mcc mFolk_startOf) 0 bFolk_startOf_b0 := by decide +kernel
theorem dFolk_startOf_0 : decode (mcc mFolk_startOf) 0 = .ok (.aload_n 0, 1) := o42 (byt_of hFolk_startOf_b0 (j := 0) rfl)
theorem dFolk_startOf_1 : decode (mcc mFolk_startOf) 1 = .ok (.getfield 33, 3) := o180 (a := 0) (b := 33) (byt_of hFolk_startOf_b0 (j := 1) rfl) (byt_of hFolk_startOf_b0 (j := 2) rfl) (byt_of hFolk_startOf_b0 (j := 3) rfl) rfl
theorem dFolk_startOf_4 : decode (mcc mFolk_startOf) 4 = .ok (.iload_n 1, 1) := o27 (byt_of hFolk_startOf_b0 (j := 4) rfl)
theorem dFolk_startOf_5 : decode (mcc mFolk_startOf) 5 = .ok (.iaload, 1) := o46 (byt_of hFolk_startOf_b0 (j := 5) rfl)
theorem dFolk_startOf_6 : decode (mcc mFolk_startOf) 6 = .ok (.iconst (-1), 1) := o2 (byt_of hFolk_startOf_b0 (j := 6) rfl)
theorem dFolk_startOf_7 : decode (mcc mFolk_startOf) 7 = .ok (.if_icmp .ne 12, 3) := o160 (a := 0) (b := 12) (byt_of hFolk_startOf_b0 (j := 7) rfl) (byt_of hFolk_startOf_b0 (j := 8) rfl) (byt_of hFolk_startOf_b0 (j := 9) rfl) rfl
theorem dFolk_startOf_10 : decode (mcc mFolk_startOf) 10 = .ok (.aload_n 0, 1) := o42 (byt_of hFolk_startOf_b0 (j := 10) rfl)
theorem dFolk_startOf_11 : decode (mcc mFolk_startOf) 11 = .ok (.getfield 15, 3) := o180 (a := 0) (b := 15) (byt_of hFolk_startOf_b0 (j := 11) rfl) (byt_of hFolk_startOf_b0 (j := 12) rfl) (byt_of hFolk_startOf_b0 (j := 13) rfl) rfl
theorem dFolk_startOf_14 : decode (mcc mFolk_startOf) 14 = .ok (.iload_n 1, 1) := o27 (byt_of hFolk_startOf_b0 (j := 14) rfl)
theorem dFolk_startOf_15 : decode (mcc mFolk_startOf) 15 = .ok (.iaload, 1) := o46 (byt_of hFolk_startOf_b0 (j := 15) rfl)
theorem dFolk_startOf_16 : decode (mcc mFolk_startOf) 16 = .ok (.goto 9, 3) := o167 (a := 0) (b := 9) (byt_of hFolk_startOf_b0 (j := 16) rfl) (byt_of hFolk_startOf_b0 (j := 17) rfl) (byt_of hFolk_startOf_b0 (j := 18) rfl) rfl
theorem dFolk_startOf_19 : decode (mcc mFolk_startOf) 19 = .ok (.aload_n 0, 1) := o42 (byt_of hFolk_startOf_b0 (j := 19) rfl)
theorem dFolk_startOf_20 : decode (mcc mFolk_startOf) 20 = .ok (.getfield 33, 3) := o180 (a := 0) (b := 33) (byt_of hFolk_startOf_b0 (j := 20) rfl) (byt_of hFolk_startOf_b0 (j := 21) rfl) (byt_of hFolk_startOf_b0 (j := 22) rfl) rfl
theorem dFolk_startOf_23 : decode (mcc mFolk_startOf) 23 = .ok (.iload_n 1, 1) := o27 (byt_of hFolk_startOf_b0 (j := 23) rfl)
theorem dFolk_startOf_24 : decode (mcc mFolk_startOf) 24 = .ok (.iaload, 1) := o46 (byt_of hFolk_startOf_b0 (j := 24) rfl)
theorem dFolk_startOf_25 : decode (mcc mFolk_startOf) 25 = .ok (.ireturn, 1) := o172 (byt_of hFolk_startOf_b0 (j := 25) rfl)
def bFolk_placeOf_b0 : List Nat := [42, 27, 182, 0, 47, 62, 42, 27, 4, 182, 0, 51, 154, 0, 5, 29, 172, 42, 180, 0, 9, 27, 46, 6, 160, 0, 15, 28, 5, 159, 0, 8, 28, 6, 160, 0, 5, 3]
theorem hFolk_placeOf_b0 : BL (mcc mFolk_placeOf) 0 bFolk_placeOf_b0 := by decide +kernel
theorem dFolk_placeOf_0 : decode (mcc mFolk_placeOf) 0 = .ok (.aload_n 0, 1) := o42 (byt_of hFolk_placeOf_b0 (j := 0) rfl)
theorem dFolk_placeOf_1 : decode (mcc mFolk_placeOf) 1 = .ok (.iload_n 1, 1) := o27 (byt_of hFolk_placeOf_b0 (j := 1) rfl)
theorem dFolk_placeOf_2 : decode (mcc mFolk_placeOf) 2 = .ok (.invokevirtual 47, 3) := o182 (a := 0) (b := 47) (byt_of hFolk_placeOf_b0 (j := 2) rfl) (byt_of hFolk_placeOf_b0 (j := 3) rfl) (byt_of hFolk_placeOf_b0 (j := 4) rfl) rfl
theorem dFolk_placeOf_5 : decode (mcc mFolk_placeOf) 5 = .ok (.istore_n 3, 1) := o62 (byt_of hFolk_placeOf_b0 (j := 5) rfl)
theorem dFolk_placeOf_6 : decode (mcc mFolk_placeOf) 6 = .ok (.aload_n 0, 1) := o42 (byt_of hFolk_placeOf_b0 (j := 6) rfl)
theorem dFolk_placeOf_7 : decode (mcc mFolk_placeOf) 7 = .ok (.iload_n 1, 1) := o27 (byt_of hFolk_placeOf_b0 (j := 7) rfl)
theorem dFolk_placeOf_8 : decode (mcc mFolk_placeOf) 8 = .ok (.iconst 1, 1) := o4 (byt_of hFolk_placeOf_b0 (j := 8) rfl)
theorem dFolk_placeOf_9 : decode (mcc mFolk_placeOf) 9 = .ok (.invokevirtual 51, 3) := o182 (a := 0) (b := 51) (byt_of hFolk_placeOf_b0 (j := 9) rfl) (byt_of hFolk_placeOf_b0 (j := 10) rfl) (byt_of hFolk_placeOf_b0 (j := 11) rfl) rfl
theorem dFolk_placeOf_12 : decode (mcc mFolk_placeOf) 12 = .ok (.ifCond .ne 5, 3) := o154 (a := 0) (b := 5) (byt_of hFolk_placeOf_b0 (j := 12) rfl) (byt_of hFolk_placeOf_b0 (j := 13) rfl) (byt_of hFolk_placeOf_b0 (j := 14) rfl) rfl
theorem dFolk_placeOf_15 : decode (mcc mFolk_placeOf) 15 = .ok (.iload_n 3, 1) := o29 (byt_of hFolk_placeOf_b0 (j := 15) rfl)
theorem dFolk_placeOf_16 : decode (mcc mFolk_placeOf) 16 = .ok (.ireturn, 1) := o172 (byt_of hFolk_placeOf_b0 (j := 16) rfl)
theorem dFolk_placeOf_17 : decode (mcc mFolk_placeOf) 17 = .ok (.aload_n 0, 1) := o42 (byt_of hFolk_placeOf_b0 (j := 17) rfl)
theorem dFolk_placeOf_18 : decode (mcc mFolk_placeOf) 18 = .ok (.getfield 9, 3) := o180 (a := 0) (b := 9) (byt_of hFolk_placeOf_b0 (j := 18) rfl) (byt_of hFolk_placeOf_b0 (j := 19) rfl) (byt_of hFolk_placeOf_b0 (j := 20) rfl) rfl
theorem dFolk_placeOf_21 : decode (mcc mFolk_placeOf) 21 = .ok (.iload_n 1, 1) := o27 (byt_of hFolk_placeOf_b0 (j := 21) rfl)
theorem dFolk_placeOf_22 : decode (mcc mFolk_placeOf) 22 = .ok (.iaload, 1) := o46 (byt_of hFolk_placeOf_b0 (j := 22) rfl)
theorem dFolk_placeOf_23 : decode (mcc mFolk_placeOf) 23 = .ok (.iconst 3, 1) := o6 (byt_of hFolk_placeOf_b0 (j := 23) rfl)
theorem dFolk_placeOf_24 : decode (mcc mFolk_placeOf) 24 = .ok (.if_icmp .ne 15, 3) := o160 (a := 0) (b := 15) (byt_of hFolk_placeOf_b0 (j := 24) rfl) (byt_of hFolk_placeOf_b0 (j := 25) rfl) (byt_of hFolk_placeOf_b0 (j := 26) rfl) rfl
theorem dFolk_placeOf_27 : decode (mcc mFolk_placeOf) 27 = .ok (.iload_n 2, 1) := o28 (byt_of hFolk_placeOf_b0 (j := 27) rfl)
theorem dFolk_placeOf_28 : decode (mcc mFolk_placeOf) 28 = .ok (.iconst 2, 1) := o5 (byt_of hFolk_placeOf_b0 (j := 28) rfl)
theorem dFolk_placeOf_29 : decode (mcc mFolk_placeOf) 29 = .ok (.if_icmp .eq 8, 3) := o159 (a := 0) (b := 8) (byt_of hFolk_placeOf_b0 (j := 29) rfl) (byt_of hFolk_placeOf_b0 (j := 30) rfl) (byt_of hFolk_placeOf_b0 (j := 31) rfl) rfl
def bFolk_placeOf_b1 : List Nat := [28, 6, 160, 0, 5, 3, 172, 29, 28, 4, 42, 180, 0, 21, 27, 46, 184, 0, 55, 108, 96, 16, 6, 112, 172]
theorem hFolk_placeOf_b1 : BL (mcc mFolk_placeOf) 32 bFolk_placeOf_b1 := by decide +kernel
theorem dFolk_placeOf_32 : decode (mcc mFolk_placeOf) 32 = .ok (.iload_n 2, 1) := o28 (byt_of hFolk_placeOf_b1 (j := 0) rfl)
theorem dFolk_placeOf_33 : decode (mcc mFolk_placeOf) 33 = .ok (.iconst 3, 1) := o6 (byt_of hFolk_placeOf_b1 (j := 1) rfl)
theorem dFolk_placeOf_34 : decode (mcc mFolk_placeOf) 34 = .ok (.if_icmp .ne 5, 3) := o160 (a := 0) (b := 5) (byt_of hFolk_placeOf_b1 (j := 2) rfl) (byt_of hFolk_placeOf_b1 (j := 3) rfl) (byt_of hFolk_placeOf_b1 (j := 4) rfl) rfl
theorem dFolk_placeOf_37 : decode (mcc mFolk_placeOf) 37 = .ok (.iconst 0, 1) := o3 (byt_of hFolk_placeOf_b1 (j := 5) rfl)
theorem dFolk_placeOf_38 : decode (mcc mFolk_placeOf) 38 = .ok (.ireturn, 1) := o172 (byt_of hFolk_placeOf_b1 (j := 6) rfl)
theorem dFolk_placeOf_39 : decode (mcc mFolk_placeOf) 39 = .ok (.iload_n 3, 1) := o29 (byt_of hFolk_placeOf_b1 (j := 7) rfl)
theorem dFolk_placeOf_40 : decode (mcc mFolk_placeOf) 40 = .ok (.iload_n 2, 1) := o28 (byt_of hFolk_placeOf_b1 (j := 8) rfl)
theorem dFolk_placeOf_41 : decode (mcc mFolk_placeOf) 41 = .ok (.iconst 1, 1) := o4 (byt_of hFolk_placeOf_b1 (j := 9) rfl)
theorem dFolk_placeOf_42 : decode (mcc mFolk_placeOf) 42 = .ok (.aload_n 0, 1) := o42 (byt_of hFolk_placeOf_b1 (j := 10) rfl)
theorem dFolk_placeOf_43 : decode (mcc mFolk_placeOf) 43 = .ok (.getfield 21, 3) := o180 (a := 0) (b := 21) (byt_of hFolk_placeOf_b1 (j := 11) rfl) (byt_of hFolk_placeOf_b1 (j := 12) rfl) (byt_of hFolk_placeOf_b1 (j := 13) rfl) rfl
theorem dFolk_placeOf_46 : decode (mcc mFolk_placeOf) 46 = .ok (.iload_n 1, 1) := o27 (byt_of hFolk_placeOf_b1 (j := 14) rfl)
theorem dFolk_placeOf_47 : decode (mcc mFolk_placeOf) 47 = .ok (.iaload, 1) := o46 (byt_of hFolk_placeOf_b1 (j := 15) rfl)
theorem dFolk_placeOf_48 : decode (mcc mFolk_placeOf) 48 = .ok (.invokestatic 55, 3) := o184 (a := 0) (b := 55) (byt_of hFolk_placeOf_b1 (j := 16) rfl) (byt_of hFolk_placeOf_b1 (j := 17) rfl) (byt_of hFolk_placeOf_b1 (j := 18) rfl) rfl
theorem dFolk_placeOf_51 : decode (mcc mFolk_placeOf) 51 = .ok (.idiv, 1) := o108 (byt_of hFolk_placeOf_b1 (j := 19) rfl)
theorem dFolk_placeOf_52 : decode (mcc mFolk_placeOf) 52 = .ok (.iadd, 1) := o96 (byt_of hFolk_placeOf_b1 (j := 20) rfl)
theorem dFolk_placeOf_53 : decode (mcc mFolk_placeOf) 53 = .ok (.bipush 6, 2) := o16 (a := 6) (byt_of hFolk_placeOf_b1 (j := 21) rfl) (byt_of hFolk_placeOf_b1 (j := 22) rfl) rfl
theorem dFolk_placeOf_55 : decode (mcc mFolk_placeOf) 55 = .ok (.irem, 1) := o112 (byt_of hFolk_placeOf_b1 (j := 23) rfl)
theorem dFolk_placeOf_56 : decode (mcc mFolk_placeOf) 56 = .ok (.ireturn, 1) := o172 (byt_of hFolk_placeOf_b1 (j := 24) rfl)
def bFolk_isBound_b0 : List Nat := [42, 180, 0, 9, 27, 46, 7, 159, 0, 7, 4, 167, 0, 4, 3, 172]
theorem hFolk_isBound_b0 : BL (mcc mFolk_isBound) 0 bFolk_isBound_b0 := by decide +kernel
theorem dFolk_isBound_0 : decode (mcc mFolk_isBound) 0 = .ok (.aload_n 0, 1) := o42 (byt_of hFolk_isBound_b0 (j := 0) rfl)
theorem dFolk_isBound_1 : decode (mcc mFolk_isBound) 1 = .ok (.getfield 9, 3) := o180 (a := 0) (b := 9) (byt_of hFolk_isBound_b0 (j := 1) rfl) (byt_of hFolk_isBound_b0 (j := 2) rfl) (byt_of hFolk_isBound_b0 (j := 3) rfl) rfl
theorem dFolk_isBound_4 : decode (mcc mFolk_isBound) 4 = .ok (.iload_n 1, 1) := o27 (byt_of hFolk_isBound_b0 (j := 4) rfl)
theorem dFolk_isBound_5 : decode (mcc mFolk_isBound) 5 = .ok (.iaload, 1) := o46 (byt_of hFolk_isBound_b0 (j := 5) rfl)
theorem dFolk_isBound_6 : decode (mcc mFolk_isBound) 6 = .ok (.iconst 4, 1) := o7 (byt_of hFolk_isBound_b0 (j := 6) rfl)
theorem dFolk_isBound_7 : decode (mcc mFolk_isBound) 7 = .ok (.if_icmp .eq 7, 3) := o159 (a := 0) (b := 7) (byt_of hFolk_isBound_b0 (j := 7) rfl) (byt_of hFolk_isBound_b0 (j := 8) rfl) (byt_of hFolk_isBound_b0 (j := 9) rfl) rfl
theorem dFolk_isBound_10 : decode (mcc mFolk_isBound) 10 = .ok (.iconst 1, 1) := o4 (byt_of hFolk_isBound_b0 (j := 10) rfl)
theorem dFolk_isBound_11 : decode (mcc mFolk_isBound) 11 = .ok (.goto 4, 3) := o167 (a := 0) (b := 4) (byt_of hFolk_isBound_b0 (j := 11) rfl) (byt_of hFolk_isBound_b0 (j := 12) rfl) (byt_of hFolk_isBound_b0 (j := 13) rfl) rfl
theorem dFolk_isBound_14 : decode (mcc mFolk_isBound) 14 = .ok (.iconst 0, 1) := o3 (byt_of hFolk_isBound_b0 (j := 14) rfl)
theorem dFolk_isBound_15 : decode (mcc mFolk_isBound) 15 = .ok (.ireturn, 1) := o172 (byt_of hFolk_isBound_b0 (j := 15) rfl)
def bFolk_canDo_b0 : List Nat := [42, 180, 0, 24, 27, 46, 28, 122, 4, 126, 4, 160, 0, 7, 4, 167, 0, 4, 3, 172]
theorem hFolk_canDo_b0 : BL (mcc mFolk_canDo) 0 bFolk_canDo_b0 := by decide +kernel
theorem dFolk_canDo_0 : decode (mcc mFolk_canDo) 0 = .ok (.aload_n 0, 1) := o42 (byt_of hFolk_canDo_b0 (j := 0) rfl)
theorem dFolk_canDo_1 : decode (mcc mFolk_canDo) 1 = .ok (.getfield 24, 3) := o180 (a := 0) (b := 24) (byt_of hFolk_canDo_b0 (j := 1) rfl) (byt_of hFolk_canDo_b0 (j := 2) rfl) (byt_of hFolk_canDo_b0 (j := 3) rfl) rfl
theorem dFolk_canDo_4 : decode (mcc mFolk_canDo) 4 = .ok (.iload_n 1, 1) := o27 (byt_of hFolk_canDo_b0 (j := 4) rfl)
theorem dFolk_canDo_5 : decode (mcc mFolk_canDo) 5 = .ok (.iaload, 1) := o46 (byt_of hFolk_canDo_b0 (j := 5) rfl)
theorem dFolk_canDo_6 : decode (mcc mFolk_canDo) 6 = .ok (.iload_n 2, 1) := o28 (byt_of hFolk_canDo_b0 (j := 6) rfl)
theorem dFolk_canDo_7 : decode (mcc mFolk_canDo) 7 = .ok (.ishr, 1) := o122 (byt_of hFolk_canDo_b0 (j := 7) rfl)
theorem dFolk_canDo_8 : decode (mcc mFolk_canDo) 8 = .ok (.iconst 1, 1) := o4 (byt_of hFolk_canDo_b0 (j := 8) rfl)
theorem dFolk_canDo_9 : decode (mcc mFolk_canDo) 9 = .ok (.iand, 1) := o126 (byt_of hFolk_canDo_b0 (j := 9) rfl)
theorem dFolk_canDo_10 : decode (mcc mFolk_canDo) 10 = .ok (.iconst 1, 1) := o4 (byt_of hFolk_canDo_b0 (j := 10) rfl)
theorem dFolk_canDo_11 : decode (mcc mFolk_canDo) 11 = .ok (.if_icmp .ne 7, 3) := o160 (a := 0) (b := 7) (byt_of hFolk_canDo_b0 (j := 11) rfl) (byt_of hFolk_canDo_b0 (j := 12) rfl) (byt_of hFolk_canDo_b0 (j := 13) rfl) rfl
theorem dFolk_canDo_14 : decode (mcc mFolk_canDo) 14 = .ok (.iconst 1, 1) := o4 (byt_of hFolk_canDo_b0 (j := 14) rfl)
theorem dFolk_canDo_15 : decode (mcc mFolk_canDo) 15 = .ok (.goto 4, 3) := o167 (a := 0) (b := 4) (byt_of hFolk_canDo_b0 (j := 15) rfl) (byt_of hFolk_canDo_b0 (j := 16) rfl) (byt_of hFolk_canDo_b0 (j := 17) rfl) rfl
theorem dFolk_canDo_18 : decode (mcc mFolk_canDo) 18 = .ok (.iconst 0, 1) := o3 (byt_of hFolk_canDo_b0 (j := 18) rfl)
theorem dFolk_canDo_19 : decode (mcc mFolk_canDo) 19 = .ok (.ireturn, 1) := o172 (byt_of hFolk_canDo_b0 (j := 19) rfl)
def bFolk_hearingOf_b0 : List Nat := [42, 180, 0, 9, 27, 46, 8, 160, 0, 15, 29, 42, 180, 0, 21, 27, 46, 164, 0, 5, 3, 172, 42, 180, 0, 9, 27, 46, 5, 160, 0, 9, 28, 5, 108, 167, 0, 4]
theorem hFolk_hearingOf_b0 : BL (mcc mFolk_hearingOf) 0 bFolk_hearingOf_b0 := by decide +kernel
theorem dFolk_hearingOf_0 : decode (mcc mFolk_hearingOf) 0 = .ok (.aload_n 0, 1) := o42 (byt_of hFolk_hearingOf_b0 (j := 0) rfl)
theorem dFolk_hearingOf_1 : decode (mcc mFolk_hearingOf) 1 = .ok (.getfield 9, 3) := o180 (a := 0) (b := 9) (byt_of hFolk_hearingOf_b0 (j := 1) rfl) (byt_of hFolk_hearingOf_b0 (j := 2) rfl) (byt_of hFolk_hearingOf_b0 (j := 3) rfl) rfl
theorem dFolk_hearingOf_4 : decode (mcc mFolk_hearingOf) 4 = .ok (.iload_n 1, 1) := o27 (byt_of hFolk_hearingOf_b0 (j := 4) rfl)
theorem dFolk_hearingOf_5 : decode (mcc mFolk_hearingOf) 5 = .ok (.iaload, 1) := o46 (byt_of hFolk_hearingOf_b0 (j := 5) rfl)
theorem dFolk_hearingOf_6 : decode (mcc mFolk_hearingOf) 6 = .ok (.iconst 5, 1) := o8 (byt_of hFolk_hearingOf_b0 (j := 6) rfl)
theorem dFolk_hearingOf_7 : decode (mcc mFolk_hearingOf) 7 = .ok (.if_icmp .ne 15, 3) := o160 (a := 0) (b := 15) (byt_of hFolk_hearingOf_b0 (j := 7) rfl) (byt_of hFolk_hearingOf_b0 (j := 8) rfl) (byt_of hFolk_hearingOf_b0 (j := 9) rfl) rfl
theorem dFolk_hearingOf_10 : decode (mcc mFolk_hearingOf) 10 = .ok (.iload_n 3, 1) := o29 (byt_of hFolk_hearingOf_b0 (j := 10) rfl)
theorem dFolk_hearingOf_11 : decode (mcc mFolk_hearingOf) 11 = .ok (.aload_n 0, 1) := o42 (byt_of hFolk_hearingOf_b0 (j := 11) rfl)
theorem dFolk_hearingOf_12 : decode (mcc mFolk_hearingOf) 12 = .ok (.getfield 21, 3) := o180 (a := 0) (b := 21) (byt_of hFolk_hearingOf_b0 (j := 12) rfl) (byt_of hFolk_hearingOf_b0 (j := 13) rfl) (byt_of hFolk_hearingOf_b0 (j := 14) rfl) rfl
theorem dFolk_hearingOf_15 : decode (mcc mFolk_hearingOf) 15 = .ok (.iload_n 1, 1) := o27 (byt_of hFolk_hearingOf_b0 (j := 15) rfl)
theorem dFolk_hearingOf_16 : decode (mcc mFolk_hearingOf) 16 = .ok (.iaload, 1) := o46 (byt_of hFolk_hearingOf_b0 (j := 16) rfl)
theorem dFolk_hearingOf_17 : decode (mcc mFolk_hearingOf) 17 = .ok (.if_icmp .le 5, 3) := o164 (a := 0) (b := 5) (byt_of hFolk_hearingOf_b0 (j := 17) rfl) (byt_of hFolk_hearingOf_b0 (j := 18) rfl) (byt_of hFolk_hearingOf_b0 (j := 19) rfl) rfl
theorem dFolk_hearingOf_20 : decode (mcc mFolk_hearingOf) 20 = .ok (.iconst 0, 1) := o3 (byt_of hFolk_hearingOf_b0 (j := 20) rfl)
theorem dFolk_hearingOf_21 : decode (mcc mFolk_hearingOf) 21 = .ok (.ireturn, 1) := o172 (byt_of hFolk_hearingOf_b0 (j := 21) rfl)
theorem dFolk_hearingOf_22 : decode (mcc mFolk_hearingOf) 22 = .ok (.aload_n 0, 1) := o42 (byt_of hFolk_hearingOf_b0 (j := 22) rfl)
theorem dFolk_hearingOf_23 : decode (mcc mFolk_hearingOf) 23 = .ok (.getfield 9, 3) := o180 (a := 0) (b := 9) (byt_of hFolk_hearingOf_b0 (j := 23) rfl) (byt_of hFolk_hearingOf_b0 (j := 24) rfl) (byt_of hFolk_hearingOf_b0 (j := 25) rfl) rfl
theorem dFolk_hearingOf_26 : decode (mcc mFolk_hearingOf) 26 = .ok (.iload_n 1, 1) := o27 (byt_of hFolk_hearingOf_b0 (j := 26) rfl)
theorem dFolk_hearingOf_27 : decode (mcc mFolk_hearingOf) 27 = .ok (.iaload, 1) := o46 (byt_of hFolk_hearingOf_b0 (j := 27) rfl)
theorem dFolk_hearingOf_28 : decode (mcc mFolk_hearingOf) 28 = .ok (.iconst 2, 1) := o5 (byt_of hFolk_hearingOf_b0 (j := 28) rfl)
theorem dFolk_hearingOf_29 : decode (mcc mFolk_hearingOf) 29 = .ok (.if_icmp .ne 9, 3) := o160 (a := 0) (b := 9) (byt_of hFolk_hearingOf_b0 (j := 29) rfl) (byt_of hFolk_hearingOf_b0 (j := 30) rfl) (byt_of hFolk_hearingOf_b0 (j := 31) rfl) rfl
def bFolk_hearingOf_b1 : List Nat := [28, 5, 108, 167, 0, 4, 28, 172]
theorem hFolk_hearingOf_b1 : BL (mcc mFolk_hearingOf) 32 bFolk_hearingOf_b1 := by decide +kernel
theorem dFolk_hearingOf_32 : decode (mcc mFolk_hearingOf) 32 = .ok (.iload_n 2, 1) := o28 (byt_of hFolk_hearingOf_b1 (j := 0) rfl)
theorem dFolk_hearingOf_33 : decode (mcc mFolk_hearingOf) 33 = .ok (.iconst 2, 1) := o5 (byt_of hFolk_hearingOf_b1 (j := 1) rfl)
theorem dFolk_hearingOf_34 : decode (mcc mFolk_hearingOf) 34 = .ok (.idiv, 1) := o108 (byt_of hFolk_hearingOf_b1 (j := 2) rfl)
theorem dFolk_hearingOf_35 : decode (mcc mFolk_hearingOf) 35 = .ok (.goto 4, 3) := o167 (a := 0) (b := 4) (byt_of hFolk_hearingOf_b1 (j := 3) rfl) (byt_of hFolk_hearingOf_b1 (j := 4) rfl) (byt_of hFolk_hearingOf_b1 (j := 5) rfl) rfl
theorem dFolk_hearingOf_38 : decode (mcc mFolk_hearingOf) 38 = .ok (.iload_n 2, 1) := o28 (byt_of hFolk_hearingOf_b1 (j := 6) rfl)
theorem dFolk_hearingOf_39 : decode (mcc mFolk_hearingOf) 39 = .ok (.ireturn, 1) := o172 (byt_of hFolk_hearingOf_b1 (j := 7) rfl)
def bImage_init_b0 : List Nat := [42, 183, 0, 3, 42, 187, 0, 9, 89, 183, 0, 11, 181, 0, 12, 42, 187, 0, 18, 89, 183, 0, 20, 181, 0, 21, 42, 16, 8, 188, 10, 181, 0, 25, 42, 3, 181, 0]
theorem hImage_init_b0 : BL (mcc mImage_init) 0 bImage_init_b0 := by decide +kernel
theorem dImage_init_0 : decode (mcc mImage_init) 0 = .ok (.aload_n 0, 1) := o42 (byt_of hImage_init_b0 (j := 0) rfl)
theorem dImage_init_1 : decode (mcc mImage_init) 1 = .ok (.invokespecial 3, 3) := o183 (a := 0) (b := 3) (byt_of hImage_init_b0 (j := 1) rfl) (byt_of hImage_init_b0 (j := 2) rfl) (byt_of hImage_init_b0 (j := 3) rfl) rfl
theorem dImage_init_4 : decode (mcc mImage_init) 4 = .ok (.aload_n 0, 1) := o42 (byt_of hImage_init_b0 (j := 4) rfl)
theorem dImage_init_5 : decode (mcc mImage_init) 5 = .ok (.new 9, 3) := o187 (a := 0) (b := 9) (byt_of hImage_init_b0 (j := 5) rfl) (byt_of hImage_init_b0 (j := 6) rfl) (byt_of hImage_init_b0 (j := 7) rfl) rfl
theorem dImage_init_8 : decode (mcc mImage_init) 8 = .ok (.dup, 1) := o89 (byt_of hImage_init_b0 (j := 8) rfl)
theorem dImage_init_9 : decode (mcc mImage_init) 9 = .ok (.invokespecial 11, 3) := o183 (a := 0) (b := 11) (byt_of hImage_init_b0 (j := 9) rfl) (byt_of hImage_init_b0 (j := 10) rfl) (byt_of hImage_init_b0 (j := 11) rfl) rfl
theorem dImage_init_12 : decode (mcc mImage_init) 12 = .ok (.putfield 12, 3) := o181 (a := 0) (b := 12) (byt_of hImage_init_b0 (j := 12) rfl) (byt_of hImage_init_b0 (j := 13) rfl) (byt_of hImage_init_b0 (j := 14) rfl) rfl
theorem dImage_init_15 : decode (mcc mImage_init) 15 = .ok (.aload_n 0, 1) := o42 (byt_of hImage_init_b0 (j := 15) rfl)
theorem dImage_init_16 : decode (mcc mImage_init) 16 = .ok (.new 18, 3) := o187 (a := 0) (b := 18) (byt_of hImage_init_b0 (j := 16) rfl) (byt_of hImage_init_b0 (j := 17) rfl) (byt_of hImage_init_b0 (j := 18) rfl) rfl
theorem dImage_init_19 : decode (mcc mImage_init) 19 = .ok (.dup, 1) := o89 (byt_of hImage_init_b0 (j := 19) rfl)
theorem dImage_init_20 : decode (mcc mImage_init) 20 = .ok (.invokespecial 20, 3) := o183 (a := 0) (b := 20) (byt_of hImage_init_b0 (j := 20) rfl) (byt_of hImage_init_b0 (j := 21) rfl) (byt_of hImage_init_b0 (j := 22) rfl) rfl
theorem dImage_init_23 : decode (mcc mImage_init) 23 = .ok (.putfield 21, 3) := o181 (a := 0) (b := 21) (byt_of hImage_init_b0 (j := 23) rfl) (byt_of hImage_init_b0 (j := 24) rfl) (byt_of hImage_init_b0 (j := 25) rfl) rfl
theorem dImage_init_26 : decode (mcc mImage_init) 26 = .ok (.aload_n 0, 1) := o42 (byt_of hImage_init_b0 (j := 26) rfl)
theorem dImage_init_27 : decode (mcc mImage_init) 27 = .ok (.bipush 8, 2) := o16 (a := 8) (byt_of hImage_init_b0 (j := 27) rfl) (byt_of hImage_init_b0 (j := 28) rfl) rfl
theorem dImage_init_29 : decode (mcc mImage_init) 29 = .ok (.newarray .int, 2) := o188 (byt_of hImage_init_b0 (j := 29) rfl) (byt_of hImage_init_b0 (j := 30) rfl)
theorem dImage_init_31 : decode (mcc mImage_init) 31 = .ok (.putfield 25, 3) := o181 (a := 0) (b := 25) (byt_of hImage_init_b0 (j := 31) rfl) (byt_of hImage_init_b0 (j := 32) rfl) (byt_of hImage_init_b0 (j := 33) rfl) rfl
def bImage_init_b1 : List Nat := [0, 25, 42, 3, 181, 0, 29, 42, 3, 181, 0, 33, 42, 3, 181, 0, 36, 177]
theorem hImage_init_b1 : BL (mcc mImage_init) 32 bImage_init_b1 := by decide +kernel
theorem dImage_init_34 : decode (mcc mImage_init) 34 = .ok (.aload_n 0, 1) := o42 (byt_of hImage_init_b1 (j := 2) rfl)
theorem dImage_init_35 : decode (mcc mImage_init) 35 = .ok (.iconst 0, 1) := o3 (byt_of hImage_init_b1 (j := 3) rfl)
theorem dImage_init_36 : decode (mcc mImage_init) 36 = .ok (.putfield 29, 3) := o181 (a := 0) (b := 29) (byt_of hImage_init_b1 (j := 4) rfl) (byt_of hImage_init_b1 (j := 5) rfl) (byt_of hImage_init_b1 (j := 6) rfl) rfl
theorem dImage_init_39 : decode (mcc mImage_init) 39 = .ok (.aload_n 0, 1) := o42 (byt_of hImage_init_b1 (j := 7) rfl)
theorem dImage_init_40 : decode (mcc mImage_init) 40 = .ok (.iconst 0, 1) := o3 (byt_of hImage_init_b1 (j := 8) rfl)
theorem dImage_init_41 : decode (mcc mImage_init) 41 = .ok (.putfield 33, 3) := o181 (a := 0) (b := 33) (byt_of hImage_init_b1 (j := 9) rfl) (byt_of hImage_init_b1 (j := 10) rfl) (byt_of hImage_init_b1 (j := 11) rfl) rfl
theorem dImage_init_44 : decode (mcc mImage_init) 44 = .ok (.aload_n 0, 1) := o42 (byt_of hImage_init_b1 (j := 12) rfl)
theorem dImage_init_45 : decode (mcc mImage_init) 45 = .ok (.iconst 0, 1) := o3 (byt_of hImage_init_b1 (j := 13) rfl)
theorem dImage_init_46 : decode (mcc mImage_init) 46 = .ok (.putfield 36, 3) := o181 (a := 0) (b := 36) (byt_of hImage_init_b1 (j := 14) rfl) (byt_of hImage_init_b1 (j := 15) rfl) (byt_of hImage_init_b1 (j := 16) rfl) rfl
theorem dImage_init_49 : decode (mcc mImage_init) 49 = .ok (.return_, 1) := o177 (byt_of hImage_init_b1 (j := 17) rfl)
def bImage_keep_b0 : List Nat := [42, 180, 0, 12, 43, 182, 0, 40, 42, 180, 0, 21, 45, 182, 0, 44, 42, 44, 180, 0, 47, 181, 0, 29, 44, 180, 0, 52, 3, 42, 180, 0, 25, 3, 42, 180, 0, 29]
theorem hImage_keep_b0 : BL (mcc mImage_keep) 0 bImage_keep_b0 := by decide +kernel
theorem dImage_keep_0 : decode (mcc mImage_keep) 0 = .ok (.aload_n 0, 1) := o42 (byt_of hImage_keep_b0 (j := 0) rfl)
theorem dImage_keep_1 : decode (mcc mImage_keep) 1 = .ok (.getfield 12, 3) := o180 (a := 0) (b := 12) (byt_of hImage_keep_b0 (j := 1) rfl) (byt_of hImage_keep_b0 (j := 2) rfl) (byt_of hImage_keep_b0 (j := 3) rfl) rfl
theorem dImage_keep_4 : decode (mcc mImage_keep) 4 = .ok (.aload_n 1, 1) := o43 (byt_of hImage_keep_b0 (j := 4) rfl)
theorem dImage_keep_5 : decode (mcc mImage_keep) 5 = .ok (.invokevirtual 40, 3) := o182 (a := 0) (b := 40) (byt_of hImage_keep_b0 (j := 5) rfl) (byt_of hImage_keep_b0 (j := 6) rfl) (byt_of hImage_keep_b0 (j := 7) rfl) rfl
theorem dImage_keep_8 : decode (mcc mImage_keep) 8 = .ok (.aload_n 0, 1) := o42 (byt_of hImage_keep_b0 (j := 8) rfl)
theorem dImage_keep_9 : decode (mcc mImage_keep) 9 = .ok (.getfield 21, 3) := o180 (a := 0) (b := 21) (byt_of hImage_keep_b0 (j := 9) rfl) (byt_of hImage_keep_b0 (j := 10) rfl) (byt_of hImage_keep_b0 (j := 11) rfl) rfl
theorem dImage_keep_12 : decode (mcc mImage_keep) 12 = .ok (.aload_n 3, 1) := o45 (byt_of hImage_keep_b0 (j := 12) rfl)
theorem dImage_keep_13 : decode (mcc mImage_keep) 13 = .ok (.invokevirtual 44, 3) := o182 (a := 0) (b := 44) (byt_of hImage_keep_b0 (j := 13) rfl) (byt_of hImage_keep_b0 (j := 14) rfl) (byt_of hImage_keep_b0 (j := 15) rfl) rfl
theorem dImage_keep_16 : decode (mcc mImage_keep) 16 = .ok (.aload_n 0, 1) := o42 (byt_of hImage_keep_b0 (j := 16) rfl)
theorem dImage_keep_17 : decode (mcc mImage_keep) 17 = .ok (.aload_n 2, 1) := o44 (byt_of hImage_keep_b0 (j := 17) rfl)
theorem dImage_keep_18 : decode (mcc mImage_keep) 18 = .ok (.getfield 47, 3) := o180 (a := 0) (b := 47) (byt_of hImage_keep_b0 (j := 18) rfl) (byt_of hImage_keep_b0 (j := 19) rfl) (byt_of hImage_keep_b0 (j := 20) rfl) rfl
theorem dImage_keep_21 : decode (mcc mImage_keep) 21 = .ok (.putfield 29, 3) := o181 (a := 0) (b := 29) (byt_of hImage_keep_b0 (j := 21) rfl) (byt_of hImage_keep_b0 (j := 22) rfl) (byt_of hImage_keep_b0 (j := 23) rfl) rfl
theorem dImage_keep_24 : decode (mcc mImage_keep) 24 = .ok (.aload_n 2, 1) := o44 (byt_of hImage_keep_b0 (j := 24) rfl)
theorem dImage_keep_25 : decode (mcc mImage_keep) 25 = .ok (.getfield 52, 3) := o180 (a := 0) (b := 52) (byt_of hImage_keep_b0 (j := 25) rfl) (byt_of hImage_keep_b0 (j := 26) rfl) (byt_of hImage_keep_b0 (j := 27) rfl) rfl
theorem dImage_keep_28 : decode (mcc mImage_keep) 28 = .ok (.iconst 0, 1) := o3 (byt_of hImage_keep_b0 (j := 28) rfl)
theorem dImage_keep_29 : decode (mcc mImage_keep) 29 = .ok (.aload_n 0, 1) := o42 (byt_of hImage_keep_b0 (j := 29) rfl)
theorem dImage_keep_30 : decode (mcc mImage_keep) 30 = .ok (.getfield 25, 3) := o180 (a := 0) (b := 25) (byt_of hImage_keep_b0 (j := 30) rfl) (byt_of hImage_keep_b0 (j := 31) rfl) (byt_of hImage_keep_b0 (j := 32) rfl) rfl
def bImage_keep_b1 : List Nat := [25, 3, 42, 180, 0, 29, 184, 0, 53, 42, 25, 4, 180, 0, 59, 181, 0, 33, 42, 4, 181, 0, 36, 177]
theorem hImage_keep_b1 : BL (mcc mImage_keep) 32 bImage_keep_b1 := by decide +kernel
theorem dImage_keep_33 : decode (mcc mImage_keep) 33 = .ok (.iconst 0, 1) := o3 (byt_of hImage_keep_b1 (j := 1) rfl)
theorem dImage_keep_34 : decode (mcc mImage_keep) 34 = .ok (.aload_n 0, 1) := o42 (byt_of hImage_keep_b1 (j := 2) rfl)
theorem dImage_keep_35 : decode (mcc mImage_keep) 35 = .ok (.getfield 29, 3) := o180 (a := 0) (b := 29) (byt_of hImage_keep_b1 (j := 3) rfl) (byt_of hImage_keep_b1 (j := 4) rfl) (byt_of hImage_keep_b1 (j := 5) rfl) rfl
theorem dImage_keep_38 : decode (mcc mImage_keep) 38 = .ok (.invokestatic 53, 3) := o184 (a := 0) (b := 53) (byt_of hImage_keep_b1 (j := 6) rfl) (byt_of hImage_keep_b1 (j := 7) rfl) (byt_of hImage_keep_b1 (j := 8) rfl) rfl
theorem dImage_keep_41 : decode (mcc mImage_keep) 41 = .ok (.aload_n 0, 1) := o42 (byt_of hImage_keep_b1 (j := 9) rfl)
theorem dImage_keep_42 : decode (mcc mImage_keep) 42 = .ok (.aload 4, 2) := o25 (a := 4) (byt_of hImage_keep_b1 (j := 10) rfl) (byt_of hImage_keep_b1 (j := 11) rfl)
theorem dImage_keep_44 : decode (mcc mImage_keep) 44 = .ok (.getfield 59, 3) := o180 (a := 0) (b := 59) (byt_of hImage_keep_b1 (j := 12) rfl) (byt_of hImage_keep_b1 (j := 13) rfl) (byt_of hImage_keep_b1 (j := 14) rfl) rfl
theorem dImage_keep_47 : decode (mcc mImage_keep) 47 = .ok (.putfield 33, 3) := o181 (a := 0) (b := 33) (byt_of hImage_keep_b1 (j := 15) rfl) (byt_of hImage_keep_b1 (j := 16) rfl) (byt_of hImage_keep_b1 (j := 17) rfl) rfl
theorem dImage_keep_50 : decode (mcc mImage_keep) 50 = .ok (.aload_n 0, 1) := o42 (byt_of hImage_keep_b1 (j := 18) rfl)
theorem dImage_keep_51 : decode (mcc mImage_keep) 51 = .ok (.iconst 1, 1) := o4 (byt_of hImage_keep_b1 (j := 19) rfl)
theorem dImage_keep_52 : decode (mcc mImage_keep) 52 = .ok (.putfield 36, 3) := o181 (a := 0) (b := 36) (byt_of hImage_keep_b1 (j := 20) rfl) (byt_of hImage_keep_b1 (j := 21) rfl) (byt_of hImage_keep_b1 (j := 22) rfl) rfl
theorem dImage_keep_55 : decode (mcc mImage_keep) 55 = .ok (.return_, 1) := o177 (byt_of hImage_keep_b1 (j := 23) rfl)
def bImage_giveBack_b0 : List Nat := [43, 42, 180, 0, 12, 182, 0, 40, 45, 42, 180, 0, 21, 182, 0, 44, 42, 180, 0, 25, 3, 44, 180, 0, 52, 3, 42, 180, 0, 29, 184, 0, 53, 25, 4, 42, 180, 0]
theorem hImage_giveBack_b0 : BL (mcc mImage_giveBack) 0 bImage_giveBack_b0 := by decide +kernel
theorem dImage_giveBack_0 : decode (mcc mImage_giveBack) 0 = .ok (.aload_n 1, 1) := o43 (byt_of hImage_giveBack_b0 (j := 0) rfl)
theorem dImage_giveBack_1 : decode (mcc mImage_giveBack) 1 = .ok (.aload_n 0, 1) := o42 (byt_of hImage_giveBack_b0 (j := 1) rfl)
theorem dImage_giveBack_2 : decode (mcc mImage_giveBack) 2 = .ok (.getfield 12, 3) := o180 (a := 0) (b := 12) (byt_of hImage_giveBack_b0 (j := 2) rfl) (byt_of hImage_giveBack_b0 (j := 3) rfl) (byt_of hImage_giveBack_b0 (j := 4) rfl) rfl
theorem dImage_giveBack_5 : decode (mcc mImage_giveBack) 5 = .ok (.invokevirtual 40, 3) := o182 (a := 0) (b := 40) (byt_of hImage_giveBack_b0 (j := 5) rfl) (byt_of hImage_giveBack_b0 (j := 6) rfl) (byt_of hImage_giveBack_b0 (j := 7) rfl) rfl
theorem dImage_giveBack_8 : decode (mcc mImage_giveBack) 8 = .ok (.aload_n 3, 1) := o45 (byt_of hImage_giveBack_b0 (j := 8) rfl)
theorem dImage_giveBack_9 : decode (mcc mImage_giveBack) 9 = .ok (.aload_n 0, 1) := o42 (byt_of hImage_giveBack_b0 (j := 9) rfl)
theorem dImage_giveBack_10 : decode (mcc mImage_giveBack) 10 = .ok (.getfield 21, 3) := o180 (a := 0) (b := 21) (byt_of hImage_giveBack_b0 (j := 10) rfl) (byt_of hImage_giveBack_b0 (j := 11) rfl) (byt_of hImage_giveBack_b0 (j := 12) rfl) rfl
theorem dImage_giveBack_13 : decode (mcc mImage_giveBack) 13 = .ok (.invokevirtual 44, 3) := o182 (a := 0) (b := 44) (byt_of hImage_giveBack_b0 (j := 13) rfl) (byt_of hImage_giveBack_b0 (j := 14) rfl) (byt_of hImage_giveBack_b0 (j := 15) rfl) rfl
theorem dImage_giveBack_16 : decode (mcc mImage_giveBack) 16 = .ok (.aload_n 0, 1) := o42 (byt_of hImage_giveBack_b0 (j := 16) rfl)
theorem dImage_giveBack_17 : decode (mcc mImage_giveBack) 17 = .ok (.getfield 25, 3) := o180 (a := 0) (b := 25) (byt_of hImage_giveBack_b0 (j := 17) rfl) (byt_of hImage_giveBack_b0 (j := 18) rfl) (byt_of hImage_giveBack_b0 (j := 19) rfl) rfl
theorem dImage_giveBack_20 : decode (mcc mImage_giveBack) 20 = .ok (.iconst 0, 1) := o3 (byt_of hImage_giveBack_b0 (j := 20) rfl)
theorem dImage_giveBack_21 : decode (mcc mImage_giveBack) 21 = .ok (.aload_n 2, 1) := o44 (byt_of hImage_giveBack_b0 (j := 21) rfl)
theorem dImage_giveBack_22 : decode (mcc mImage_giveBack) 22 = .ok (.getfield 52, 3) := o180 (a := 0) (b := 52) (byt_of hImage_giveBack_b0 (j := 22) rfl) (byt_of hImage_giveBack_b0 (j := 23) rfl) (byt_of hImage_giveBack_b0 (j := 24) rfl) rfl
theorem dImage_giveBack_25 : decode (mcc mImage_giveBack) 25 = .ok (.iconst 0, 1) := o3 (byt_of hImage_giveBack_b0 (j := 25) rfl)
theorem dImage_giveBack_26 : decode (mcc mImage_giveBack) 26 = .ok (.aload_n 0, 1) := o42 (byt_of hImage_giveBack_b0 (j := 26) rfl)
theorem dImage_giveBack_27 : decode (mcc mImage_giveBack) 27 = .ok (.getfield 29, 3) := o180 (a := 0) (b := 29) (byt_of hImage_giveBack_b0 (j := 27) rfl) (byt_of hImage_giveBack_b0 (j := 28) rfl) (byt_of hImage_giveBack_b0 (j := 29) rfl) rfl
theorem dImage_giveBack_30 : decode (mcc mImage_giveBack) 30 = .ok (.invokestatic 53, 3) := o184 (a := 0) (b := 53) (byt_of hImage_giveBack_b0 (j := 30) rfl) (byt_of hImage_giveBack_b0 (j := 31) rfl) (byt_of hImage_giveBack_b0 (j := 32) rfl) rfl
def bImage_giveBack_b1 : List Nat := [53, 25, 4, 42, 180, 0, 33, 181, 0, 59, 177]
theorem hImage_giveBack_b1 : BL (mcc mImage_giveBack) 32 bImage_giveBack_b1 := by decide +kernel
theorem dImage_giveBack_33 : decode (mcc mImage_giveBack) 33 = .ok (.aload 4, 2) := o25 (a := 4) (byt_of hImage_giveBack_b1 (j := 1) rfl) (byt_of hImage_giveBack_b1 (j := 2) rfl)
theorem dImage_giveBack_35 : decode (mcc mImage_giveBack) 35 = .ok (.aload_n 0, 1) := o42 (byt_of hImage_giveBack_b1 (j := 3) rfl)
theorem dImage_giveBack_36 : decode (mcc mImage_giveBack) 36 = .ok (.getfield 33, 3) := o180 (a := 0) (b := 33) (byt_of hImage_giveBack_b1 (j := 4) rfl) (byt_of hImage_giveBack_b1 (j := 5) rfl) (byt_of hImage_giveBack_b1 (j := 6) rfl) rfl
theorem dImage_giveBack_39 : decode (mcc mImage_giveBack) 39 = .ok (.putfield 59, 3) := o181 (a := 0) (b := 59) (byt_of hImage_giveBack_b1 (j := 7) rfl) (byt_of hImage_giveBack_b1 (j := 8) rfl) (byt_of hImage_giveBack_b1 (j := 9) rfl) rfl
theorem dImage_giveBack_42 : decode (mcc mImage_giveBack) 42 = .ok (.return_, 1) := o177 (byt_of hImage_giveBack_b1 (j := 10) rfl)
def bLedger_init_b0 : List Nat := [42, 183, 0, 3, 42, 3, 181, 0, 9, 42, 16, 88, 188, 10, 181, 0, 15, 42, 16, 11, 188, 10, 181, 0, 19, 42, 16, 88, 188, 10, 181, 0, 22, 42, 16, 64, 188, 10]
theorem hLedger_init_b0 : BL (mcc mLedger_init) 0 bLedger_init_b0 := by decide +kernel
theorem dLedger_init_0 : decode (mcc mLedger_init) 0 = .ok (.aload_n 0, 1) := o42 (byt_of hLedger_init_b0 (j := 0) rfl)
theorem dLedger_init_1 : decode (mcc mLedger_init) 1 = .ok (.invokespecial 3, 3) := o183 (a := 0) (b := 3) (byt_of hLedger_init_b0 (j := 1) rfl) (byt_of hLedger_init_b0 (j := 2) rfl) (byt_of hLedger_init_b0 (j := 3) rfl) rfl
theorem dLedger_init_4 : decode (mcc mLedger_init) 4 = .ok (.aload_n 0, 1) := o42 (byt_of hLedger_init_b0 (j := 4) rfl)
theorem dLedger_init_5 : decode (mcc mLedger_init) 5 = .ok (.iconst 0, 1) := o3 (byt_of hLedger_init_b0 (j := 5) rfl)
theorem dLedger_init_6 : decode (mcc mLedger_init) 6 = .ok (.putfield 9, 3) := o181 (a := 0) (b := 9) (byt_of hLedger_init_b0 (j := 6) rfl) (byt_of hLedger_init_b0 (j := 7) rfl) (byt_of hLedger_init_b0 (j := 8) rfl) rfl
theorem dLedger_init_9 : decode (mcc mLedger_init) 9 = .ok (.aload_n 0, 1) := o42 (byt_of hLedger_init_b0 (j := 9) rfl)
theorem dLedger_init_10 : decode (mcc mLedger_init) 10 = .ok (.bipush 88, 2) := o16 (a := 88) (byt_of hLedger_init_b0 (j := 10) rfl) (byt_of hLedger_init_b0 (j := 11) rfl) rfl
theorem dLedger_init_12 : decode (mcc mLedger_init) 12 = .ok (.newarray .int, 2) := o188 (byt_of hLedger_init_b0 (j := 12) rfl) (byt_of hLedger_init_b0 (j := 13) rfl)
theorem dLedger_init_14 : decode (mcc mLedger_init) 14 = .ok (.putfield 15, 3) := o181 (a := 0) (b := 15) (byt_of hLedger_init_b0 (j := 14) rfl) (byt_of hLedger_init_b0 (j := 15) rfl) (byt_of hLedger_init_b0 (j := 16) rfl) rfl
theorem dLedger_init_17 : decode (mcc mLedger_init) 17 = .ok (.aload_n 0, 1) := o42 (byt_of hLedger_init_b0 (j := 17) rfl)
theorem dLedger_init_18 : decode (mcc mLedger_init) 18 = .ok (.bipush 11, 2) := o16 (a := 11) (byt_of hLedger_init_b0 (j := 18) rfl) (byt_of hLedger_init_b0 (j := 19) rfl) rfl
theorem dLedger_init_20 : decode (mcc mLedger_init) 20 = .ok (.newarray .int, 2) := o188 (byt_of hLedger_init_b0 (j := 20) rfl) (byt_of hLedger_init_b0 (j := 21) rfl)
theorem dLedger_init_22 : decode (mcc mLedger_init) 22 = .ok (.putfield 19, 3) := o181 (a := 0) (b := 19) (byt_of hLedger_init_b0 (j := 22) rfl) (byt_of hLedger_init_b0 (j := 23) rfl) (byt_of hLedger_init_b0 (j := 24) rfl) rfl
theorem dLedger_init_25 : decode (mcc mLedger_init) 25 = .ok (.aload_n 0, 1) := o42 (byt_of hLedger_init_b0 (j := 25) rfl)
theorem dLedger_init_26 : decode (mcc mLedger_init) 26 = .ok (.bipush 88, 2) := o16 (a := 88) (byt_of hLedger_init_b0 (j := 26) rfl) (byt_of hLedger_init_b0 (j := 27) rfl) rfl
theorem dLedger_init_28 : decode (mcc mLedger_init) 28 = .ok (.newarray .int, 2) := o188 (byt_of hLedger_init_b0 (j := 28) rfl) (byt_of hLedger_init_b0 (j := 29) rfl)
theorem dLedger_init_30 : decode (mcc mLedger_init) 30 = .ok (.putfield 22, 3) := o181 (a := 0) (b := 22) (byt_of hLedger_init_b0 (j := 30) rfl) (byt_of hLedger_init_b0 (j := 31) rfl) (byt_of hLedger_init_b0 (j := 32) rfl) rfl
def bLedger_init_b1 : List Nat := [22, 42, 16, 64, 188, 10, 181, 0, 25, 42, 16, 8, 188, 10, 181, 0, 28, 42, 16, 8, 188, 10, 181, 0, 31, 42, 16, 8, 188, 10, 181, 0, 34, 42, 16, 8, 188, 10]
theorem hLedger_init_b1 : BL (mcc mLedger_init) 32 bLedger_init_b1 := by decide +kernel
theorem dLedger_init_33 : decode (mcc mLedger_init) 33 = .ok (.aload_n 0, 1) := o42 (byt_of hLedger_init_b1 (j := 1) rfl)
theorem dLedger_init_34 : decode (mcc mLedger_init) 34 = .ok (.bipush 64, 2) := o16 (a := 64) (byt_of hLedger_init_b1 (j := 2) rfl) (byt_of hLedger_init_b1 (j := 3) rfl) rfl
theorem dLedger_init_36 : decode (mcc mLedger_init) 36 = .ok (.newarray .int, 2) := o188 (byt_of hLedger_init_b1 (j := 4) rfl) (byt_of hLedger_init_b1 (j := 5) rfl)
theorem dLedger_init_38 : decode (mcc mLedger_init) 38 = .ok (.putfield 25, 3) := o181 (a := 0) (b := 25) (byt_of hLedger_init_b1 (j := 6) rfl) (byt_of hLedger_init_b1 (j := 7) rfl) (byt_of hLedger_init_b1 (j := 8) rfl) rfl
theorem dLedger_init_41 : decode (mcc mLedger_init) 41 = .ok (.aload_n 0, 1) := o42 (byt_of hLedger_init_b1 (j := 9) rfl)
theorem dLedger_init_42 : decode (mcc mLedger_init) 42 = .ok (.bipush 8, 2) := o16 (a := 8) (byt_of hLedger_init_b1 (j := 10) rfl) (byt_of hLedger_init_b1 (j := 11) rfl) rfl
theorem dLedger_init_44 : decode (mcc mLedger_init) 44 = .ok (.newarray .int, 2) := o188 (byt_of hLedger_init_b1 (j := 12) rfl) (byt_of hLedger_init_b1 (j := 13) rfl)
theorem dLedger_init_46 : decode (mcc mLedger_init) 46 = .ok (.putfield 28, 3) := o181 (a := 0) (b := 28) (byt_of hLedger_init_b1 (j := 14) rfl) (byt_of hLedger_init_b1 (j := 15) rfl) (byt_of hLedger_init_b1 (j := 16) rfl) rfl
theorem dLedger_init_49 : decode (mcc mLedger_init) 49 = .ok (.aload_n 0, 1) := o42 (byt_of hLedger_init_b1 (j := 17) rfl)
theorem dLedger_init_50 : decode (mcc mLedger_init) 50 = .ok (.bipush 8, 2) := o16 (a := 8) (byt_of hLedger_init_b1 (j := 18) rfl) (byt_of hLedger_init_b1 (j := 19) rfl) rfl
theorem dLedger_init_52 : decode (mcc mLedger_init) 52 = .ok (.newarray .int, 2) := o188 (byt_of hLedger_init_b1 (j := 20) rfl) (byt_of hLedger_init_b1 (j := 21) rfl)
theorem dLedger_init_54 : decode (mcc mLedger_init) 54 = .ok (.putfield 31, 3) := o181 (a := 0) (b := 31) (byt_of hLedger_init_b1 (j := 22) rfl) (byt_of hLedger_init_b1 (j := 23) rfl) (byt_of hLedger_init_b1 (j := 24) rfl) rfl
theorem dLedger_init_57 : decode (mcc mLedger_init) 57 = .ok (.aload_n 0, 1) := o42 (byt_of hLedger_init_b1 (j := 25) rfl)
theorem dLedger_init_58 : decode (mcc mLedger_init) 58 = .ok (.bipush 8, 2) := o16 (a := 8) (byt_of hLedger_init_b1 (j := 26) rfl) (byt_of hLedger_init_b1 (j := 27) rfl) rfl
theorem dLedger_init_60 : decode (mcc mLedger_init) 60 = .ok (.newarray .int, 2) := o188 (byt_of hLedger_init_b1 (j := 28) rfl) (byt_of hLedger_init_b1 (j := 29) rfl)
theorem dLedger_init_62 : decode (mcc mLedger_init) 62 = .ok (.putfield 34, 3) := o181 (a := 0) (b := 34) (byt_of hLedger_init_b1 (j := 30) rfl) (byt_of hLedger_init_b1 (j := 31) rfl) (byt_of hLedger_init_b1 (j := 32) rfl) rfl
def bLedger_init_b2 : List Nat := [34, 42, 16, 8, 188, 10, 181, 0, 37, 42, 16, 6, 188, 10, 181, 0, 40, 42, 43, 181, 0, 43, 42, 44, 181, 0, 47, 42, 45, 181, 0, 51, 42, 25, 4, 181, 0, 55]
theorem hLedger_init_b2 : BL (mcc mLedger_init) 64 bLedger_init_b2 := by decide +kernel
theorem dLedger_init_65 : decode (mcc mLedger_init) 65 = .ok (.aload_n 0, 1) := o42 (byt_of hLedger_init_b2 (j := 1) rfl)
theorem dLedger_init_66 : decode (mcc mLedger_init) 66 = .ok (.bipush 8, 2) := o16 (a := 8) (byt_of hLedger_init_b2 (j := 2) rfl) (byt_of hLedger_init_b2 (j := 3) rfl) rfl
theorem dLedger_init_68 : decode (mcc mLedger_init) 68 = .ok (.newarray .int, 2) := o188 (byt_of hLedger_init_b2 (j := 4) rfl) (byt_of hLedger_init_b2 (j := 5) rfl)
theorem dLedger_init_70 : decode (mcc mLedger_init) 70 = .ok (.putfield 37, 3) := o181 (a := 0) (b := 37) (byt_of hLedger_init_b2 (j := 6) rfl) (byt_of hLedger_init_b2 (j := 7) rfl) (byt_of hLedger_init_b2 (j := 8) rfl) rfl
theorem dLedger_init_73 : decode (mcc mLedger_init) 73 = .ok (.aload_n 0, 1) := o42 (byt_of hLedger_init_b2 (j := 9) rfl)
theorem dLedger_init_74 : decode (mcc mLedger_init) 74 = .ok (.bipush 6, 2) := o16 (a := 6) (byt_of hLedger_init_b2 (j := 10) rfl) (byt_of hLedger_init_b2 (j := 11) rfl) rfl
theorem dLedger_init_76 : decode (mcc mLedger_init) 76 = .ok (.newarray .int, 2) := o188 (byt_of hLedger_init_b2 (j := 12) rfl) (byt_of hLedger_init_b2 (j := 13) rfl)
theorem dLedger_init_78 : decode (mcc mLedger_init) 78 = .ok (.putfield 40, 3) := o181 (a := 0) (b := 40) (byt_of hLedger_init_b2 (j := 14) rfl) (byt_of hLedger_init_b2 (j := 15) rfl) (byt_of hLedger_init_b2 (j := 16) rfl) rfl
theorem dLedger_init_81 : decode (mcc mLedger_init) 81 = .ok (.aload_n 0, 1) := o42 (byt_of hLedger_init_b2 (j := 17) rfl)
theorem dLedger_init_82 : decode (mcc mLedger_init) 82 = .ok (.aload_n 1, 1) := o43 (byt_of hLedger_init_b2 (j := 18) rfl)
theorem dLedger_init_83 : decode (mcc mLedger_init) 83 = .ok (.putfield 43, 3) := o181 (a := 0) (b := 43) (byt_of hLedger_init_b2 (j := 19) rfl) (byt_of hLedger_init_b2 (j := 20) rfl) (byt_of hLedger_init_b2 (j := 21) rfl) rfl
theorem dLedger_init_86 : decode (mcc mLedger_init) 86 = .ok (.aload_n 0, 1) := o42 (byt_of hLedger_init_b2 (j := 22) rfl)
theorem dLedger_init_87 : decode (mcc mLedger_init) 87 = .ok (.aload_n 2, 1) := o44 (byt_of hLedger_init_b2 (j := 23) rfl)
theorem dLedger_init_88 : decode (mcc mLedger_init) 88 = .ok (.putfield 47, 3) := o181 (a := 0) (b := 47) (byt_of hLedger_init_b2 (j := 24) rfl) (byt_of hLedger_init_b2 (j := 25) rfl) (byt_of hLedger_init_b2 (j := 26) rfl) rfl
theorem dLedger_init_91 : decode (mcc mLedger_init) 91 = .ok (.aload_n 0, 1) := o42 (byt_of hLedger_init_b2 (j := 27) rfl)
theorem dLedger_init_92 : decode (mcc mLedger_init) 92 = .ok (.aload_n 3, 1) := o45 (byt_of hLedger_init_b2 (j := 28) rfl)
theorem dLedger_init_93 : decode (mcc mLedger_init) 93 = .ok (.putfield 51, 3) := o181 (a := 0) (b := 51) (byt_of hLedger_init_b2 (j := 29) rfl) (byt_of hLedger_init_b2 (j := 30) rfl) (byt_of hLedger_init_b2 (j := 31) rfl) rfl
def bLedger_init_b3 : List Nat := [42, 25, 4, 181, 0, 55, 42, 25, 5, 181, 0, 59, 177]
theorem hLedger_init_b3 : BL (mcc mLedger_init) 96 bLedger_init_b3 := by decide +kernel
theorem dLedger_init_96 : decode (mcc mLedger_init) 96 = .ok (.aload_n 0, 1) := o42 (byt_of hLedger_init_b3 (j := 0) rfl)
theorem dLedger_init_97 : decode (mcc mLedger_init) 97 = .ok (.aload 4, 2) := o25 (a := 4) (byt_of hLedger_init_b3 (j := 1) rfl) (byt_of hLedger_init_b3 (j := 2) rfl)
theorem dLedger_init_99 : decode (mcc mLedger_init) 99 = .ok (.putfield 55, 3) := o181 (a := 0) (b := 55) (byt_of hLedger_init_b3 (j := 3) rfl) (byt_of hLedger_init_b3 (j := 4) rfl) (byt_of hLedger_init_b3 (j := 5) rfl) rfl
theorem dLedger_init_102 : decode (mcc mLedger_init) 102 = .ok (.aload_n 0, 1) := o42 (byt_of hLedger_init_b3 (j := 6) rfl)
theorem dLedger_init_103 : decode (mcc mLedger_init) 103 = .ok (.aload 5, 2) := o25 (a := 5) (byt_of hLedger_init_b3 (j := 7) rfl) (byt_of hLedger_init_b3 (j := 8) rfl)
theorem dLedger_init_105 : decode (mcc mLedger_init) 105 = .ok (.putfield 59, 3) := o181 (a := 0) (b := 59) (byt_of hLedger_init_b3 (j := 9) rfl) (byt_of hLedger_init_b3 (j := 10) rfl) (byt_of hLedger_init_b3 (j := 11) rfl) rfl
theorem dLedger_init_108 : decode (mcc mLedger_init) 108 = .ok (.return_, 1) := o177 (byt_of hLedger_init_b3 (j := 12) rfl)
def bLedger_reckon_b0 : List Nat := [42, 27, 182, 0, 63, 42, 182, 0, 67, 177]
theorem hLedger_reckon_b0 : BL (mcc mLedger_reckon) 0 bLedger_reckon_b0 := by decide +kernel
theorem dLedger_reckon_0 : decode (mcc mLedger_reckon) 0 = .ok (.aload_n 0, 1) := o42 (byt_of hLedger_reckon_b0 (j := 0) rfl)
theorem dLedger_reckon_1 : decode (mcc mLedger_reckon) 1 = .ok (.iload_n 1, 1) := o27 (byt_of hLedger_reckon_b0 (j := 1) rfl)
theorem dLedger_reckon_2 : decode (mcc mLedger_reckon) 2 = .ok (.invokevirtual 63, 3) := o182 (a := 0) (b := 63) (byt_of hLedger_reckon_b0 (j := 2) rfl) (byt_of hLedger_reckon_b0 (j := 3) rfl) (byt_of hLedger_reckon_b0 (j := 4) rfl) rfl
theorem dLedger_reckon_5 : decode (mcc mLedger_reckon) 5 = .ok (.aload_n 0, 1) := o42 (byt_of hLedger_reckon_b0 (j := 5) rfl)
theorem dLedger_reckon_6 : decode (mcc mLedger_reckon) 6 = .ok (.invokevirtual 67, 3) := o182 (a := 0) (b := 67) (byt_of hLedger_reckon_b0 (j := 6) rfl) (byt_of hLedger_reckon_b0 (j := 7) rfl) (byt_of hLedger_reckon_b0 (j := 8) rfl) rfl
theorem dLedger_reckon_9 : decode (mcc mLedger_reckon) 9 = .ok (.return_, 1) := o177 (byt_of hLedger_reckon_b0 (j := 9) rfl)
def bLedger_listen_b0 : List Nat := [42, 27, 181, 0, 9, 3, 61, 28, 42, 180, 0, 55, 180, 0, 70, 162, 0, 14, 42, 28, 182, 0, 75, 132, 2, 1, 167, 255, 237, 177]
theorem hLedger_listen_b0 : BL (mcc mLedger_listen) 0 bLedger_listen_b0 := by decide +kernel
theorem dLedger_listen_0 : decode (mcc mLedger_listen) 0 = .ok (.aload_n 0, 1) := o42 (byt_of hLedger_listen_b0 (j := 0) rfl)
theorem dLedger_listen_1 : decode (mcc mLedger_listen) 1 = .ok (.iload_n 1, 1) := o27 (byt_of hLedger_listen_b0 (j := 1) rfl)
theorem dLedger_listen_2 : decode (mcc mLedger_listen) 2 = .ok (.putfield 9, 3) := o181 (a := 0) (b := 9) (byt_of hLedger_listen_b0 (j := 2) rfl) (byt_of hLedger_listen_b0 (j := 3) rfl) (byt_of hLedger_listen_b0 (j := 4) rfl) rfl
theorem dLedger_listen_5 : decode (mcc mLedger_listen) 5 = .ok (.iconst 0, 1) := o3 (byt_of hLedger_listen_b0 (j := 5) rfl)
theorem dLedger_listen_6 : decode (mcc mLedger_listen) 6 = .ok (.istore_n 2, 1) := o61 (byt_of hLedger_listen_b0 (j := 6) rfl)
theorem dLedger_listen_7 : decode (mcc mLedger_listen) 7 = .ok (.iload_n 2, 1) := o28 (byt_of hLedger_listen_b0 (j := 7) rfl)
theorem dLedger_listen_8 : decode (mcc mLedger_listen) 8 = .ok (.aload_n 0, 1) := o42 (byt_of hLedger_listen_b0 (j := 8) rfl)
theorem dLedger_listen_9 : decode (mcc mLedger_listen) 9 = .ok (.getfield 55, 3) := o180 (a := 0) (b := 55) (byt_of hLedger_listen_b0 (j := 9) rfl) (byt_of hLedger_listen_b0 (j := 10) rfl) (byt_of hLedger_listen_b0 (j := 11) rfl) rfl
theorem dLedger_listen_12 : decode (mcc mLedger_listen) 12 = .ok (.getfield 70, 3) := o180 (a := 0) (b := 70) (byt_of hLedger_listen_b0 (j := 12) rfl) (byt_of hLedger_listen_b0 (j := 13) rfl) (byt_of hLedger_listen_b0 (j := 14) rfl) rfl
theorem dLedger_listen_15 : decode (mcc mLedger_listen) 15 = .ok (.if_icmp .ge 14, 3) := o162 (a := 0) (b := 14) (byt_of hLedger_listen_b0 (j := 15) rfl) (byt_of hLedger_listen_b0 (j := 16) rfl) (byt_of hLedger_listen_b0 (j := 17) rfl) rfl
theorem dLedger_listen_18 : decode (mcc mLedger_listen) 18 = .ok (.aload_n 0, 1) := o42 (byt_of hLedger_listen_b0 (j := 18) rfl)
theorem dLedger_listen_19 : decode (mcc mLedger_listen) 19 = .ok (.iload_n 2, 1) := o28 (byt_of hLedger_listen_b0 (j := 19) rfl)
theorem dLedger_listen_20 : decode (mcc mLedger_listen) 20 = .ok (.invokevirtual 75, 3) := o182 (a := 0) (b := 75) (byt_of hLedger_listen_b0 (j := 20) rfl) (byt_of hLedger_listen_b0 (j := 21) rfl) (byt_of hLedger_listen_b0 (j := 22) rfl) rfl
theorem dLedger_listen_23 : decode (mcc mLedger_listen) 23 = .ok (.iinc 2 1, 3) := o132 (a := 2) (b := 1) (byt_of hLedger_listen_b0 (j := 23) rfl) (byt_of hLedger_listen_b0 (j := 24) rfl) (byt_of hLedger_listen_b0 (j := 25) rfl) rfl
theorem dLedger_listen_26 : decode (mcc mLedger_listen) 26 = .ok (.goto (-19), 3) := o167 (a := 255) (b := 237) (byt_of hLedger_listen_b0 (j := 26) rfl) (byt_of hLedger_listen_b0 (j := 27) rfl) (byt_of hLedger_listen_b0 (j := 28) rfl) rfl
theorem dLedger_listen_29 : decode (mcc mLedger_listen) 29 = .ok (.return_, 1) := o177 (byt_of hLedger_listen_b0 (j := 29) rfl)
def bLedger_listenBy_b0 : List Nat := [3, 61, 28, 42, 180, 0, 55, 180, 0, 70, 162, 0, 15, 42, 28, 27, 182, 0, 78, 132, 2, 1, 167, 255, 236, 177]
theorem hLedger_listenBy_b0 : BL (mcc mLedger_listenBy) 0 bLedger_listenBy_b0 := by decide +kernel
theorem dLedger_listenBy_0 : decode (mcc mLedger_listenBy) 0 = .ok (.iconst 0, 1) := o3 (byt_of hLedger_listenBy_b0 (j := 0) rfl)
theorem dLedger_listenBy_1 : decode (mcc mLedger_listenBy) 1 = .ok (.istore_n 2, 1) := o61 (byt_of hLedger_listenBy_b0 (j := 1) rfl)
theorem dLedger_listenBy_2 : decode (mcc mLedger_listenBy) 2 = .ok (.iload_n 2, 1) := o28 (byt_of hLedger_listenBy_b0 (j := 2) rfl)
theorem dLedger_listenBy_3 : decode (mcc mLedger_listenBy) 3 = .ok (.aload_n 0, 1) := o42 (byt_of hLedger_listenBy_b0 (j := 3) rfl)
theorem dLedger_listenBy_4 : decode (mcc mLedger_listenBy) 4 = .ok (.getfield 55, 3) := o180 (a := 0) (b := 55) (byt_of hLedger_listenBy_b0 (j := 4) rfl) (byt_of hLedger_listenBy_b0 (j := 5) rfl) (byt_of hLedger_listenBy_b0 (j := 6) rfl) rfl
theorem dLedger_listenBy_7 : decode (mcc mLedger_listenBy) 7 = .ok (.getfield 70, 3) := o180 (a := 0) (b := 70) (byt_of hLedger_listenBy_b0 (j := 7) rfl) (byt_of hLedger_listenBy_b0 (j := 8) rfl) (byt_of hLedger_listenBy_b0 (j := 9) rfl) rfl
theorem dLedger_listenBy_10 : decode (mcc mLedger_listenBy) 10 = .ok (.if_icmp .ge 15, 3) := o162 (a := 0) (b := 15) (byt_of hLedger_listenBy_b0 (j := 10) rfl) (byt_of hLedger_listenBy_b0 (j := 11) rfl) (byt_of hLedger_listenBy_b0 (j := 12) rfl) rfl
theorem dLedger_listenBy_13 : decode (mcc mLedger_listenBy) 13 = .ok (.aload_n 0, 1) := o42 (byt_of hLedger_listenBy_b0 (j := 13) rfl)
theorem dLedger_listenBy_14 : decode (mcc mLedger_listenBy) 14 = .ok (.iload_n 2, 1) := o28 (byt_of hLedger_listenBy_b0 (j := 14) rfl)
theorem dLedger_listenBy_15 : decode (mcc mLedger_listenBy) 15 = .ok (.iload_n 1, 1) := o27 (byt_of hLedger_listenBy_b0 (j := 15) rfl)
theorem dLedger_listenBy_16 : decode (mcc mLedger_listenBy) 16 = .ok (.invokevirtual 78, 3) := o182 (a := 0) (b := 78) (byt_of hLedger_listenBy_b0 (j := 16) rfl) (byt_of hLedger_listenBy_b0 (j := 17) rfl) (byt_of hLedger_listenBy_b0 (j := 18) rfl) rfl
theorem dLedger_listenBy_19 : decode (mcc mLedger_listenBy) 19 = .ok (.iinc 2 1, 3) := o132 (a := 2) (b := 1) (byt_of hLedger_listenBy_b0 (j := 19) rfl) (byt_of hLedger_listenBy_b0 (j := 20) rfl) (byt_of hLedger_listenBy_b0 (j := 21) rfl) rfl
theorem dLedger_listenBy_22 : decode (mcc mLedger_listenBy) 22 = .ok (.goto (-20), 3) := o167 (a := 255) (b := 236) (byt_of hLedger_listenBy_b0 (j := 22) rfl) (byt_of hLedger_listenBy_b0 (j := 23) rfl) (byt_of hLedger_listenBy_b0 (j := 24) rfl) rfl
theorem dLedger_listenBy_25 : decode (mcc mLedger_listenBy) 25 = .ok (.return_, 1) := o177 (byt_of hLedger_listenBy_b0 (j := 25) rfl)
def bLedger_listenTo_b0 : List Nat := [42, 180, 0, 19, 27, 3, 79, 3, 61, 28, 42, 180, 0, 47, 180, 0, 82, 162, 0, 15, 42, 27, 28, 182, 0, 78, 132, 2, 1, 167, 255, 236, 177]
theorem hLedger_listenTo_b0 : BL (mcc mLedger_listenTo) 0 bLedger_listenTo_b0 := by decide +kernel
theorem dLedger_listenTo_0 : decode (mcc mLedger_listenTo) 0 = .ok (.aload_n 0, 1) := o42 (byt_of hLedger_listenTo_b0 (j := 0) rfl)
theorem dLedger_listenTo_1 : decode (mcc mLedger_listenTo) 1 = .ok (.getfield 19, 3) := o180 (a := 0) (b := 19) (byt_of hLedger_listenTo_b0 (j := 1) rfl) (byt_of hLedger_listenTo_b0 (j := 2) rfl) (byt_of hLedger_listenTo_b0 (j := 3) rfl) rfl
theorem dLedger_listenTo_4 : decode (mcc mLedger_listenTo) 4 = .ok (.iload_n 1, 1) := o27 (byt_of hLedger_listenTo_b0 (j := 4) rfl)
theorem dLedger_listenTo_5 : decode (mcc mLedger_listenTo) 5 = .ok (.iconst 0, 1) := o3 (byt_of hLedger_listenTo_b0 (j := 5) rfl)
theorem dLedger_listenTo_6 : decode (mcc mLedger_listenTo) 6 = .ok (.iastore, 1) := o79 (byt_of hLedger_listenTo_b0 (j := 6) rfl)
theorem dLedger_listenTo_7 : decode (mcc mLedger_listenTo) 7 = .ok (.iconst 0, 1) := o3 (byt_of hLedger_listenTo_b0 (j := 7) rfl)
theorem dLedger_listenTo_8 : decode (mcc mLedger_listenTo) 8 = .ok (.istore_n 2, 1) := o61 (byt_of hLedger_listenTo_b0 (j := 8) rfl)
theorem dLedger_listenTo_9 : decode (mcc mLedger_listenTo) 9 = .ok (.iload_n 2, 1) := o28 (byt_of hLedger_listenTo_b0 (j := 9) rfl)
theorem dLedger_listenTo_10 : decode (mcc mLedger_listenTo) 10 = .ok (.aload_n 0, 1) := o42 (byt_of hLedger_listenTo_b0 (j := 10) rfl)
theorem dLedger_listenTo_11 : decode (mcc mLedger_listenTo) 11 = .ok (.getfield 47, 3) := o180 (a := 0) (b := 47) (byt_of hLedger_listenTo_b0 (j := 11) rfl) (byt_of hLedger_listenTo_b0 (j := 12) rfl) (byt_of hLedger_listenTo_b0 (j := 13) rfl) rfl
theorem dLedger_listenTo_14 : decode (mcc mLedger_listenTo) 14 = .ok (.getfield 82, 3) := o180 (a := 0) (b := 82) (byt_of hLedger_listenTo_b0 (j := 14) rfl) (byt_of hLedger_listenTo_b0 (j := 15) rfl) (byt_of hLedger_listenTo_b0 (j := 16) rfl) rfl
theorem dLedger_listenTo_17 : decode (mcc mLedger_listenTo) 17 = .ok (.if_icmp .ge 15, 3) := o162 (a := 0) (b := 15) (byt_of hLedger_listenTo_b0 (j := 17) rfl) (byt_of hLedger_listenTo_b0 (j := 18) rfl) (byt_of hLedger_listenTo_b0 (j := 19) rfl) rfl
theorem dLedger_listenTo_20 : decode (mcc mLedger_listenTo) 20 = .ok (.aload_n 0, 1) := o42 (byt_of hLedger_listenTo_b0 (j := 20) rfl)
theorem dLedger_listenTo_21 : decode (mcc mLedger_listenTo) 21 = .ok (.iload_n 1, 1) := o27 (byt_of hLedger_listenTo_b0 (j := 21) rfl)
theorem dLedger_listenTo_22 : decode (mcc mLedger_listenTo) 22 = .ok (.iload_n 2, 1) := o28 (byt_of hLedger_listenTo_b0 (j := 22) rfl)
theorem dLedger_listenTo_23 : decode (mcc mLedger_listenTo) 23 = .ok (.invokevirtual 78, 3) := o182 (a := 0) (b := 78) (byt_of hLedger_listenTo_b0 (j := 23) rfl) (byt_of hLedger_listenTo_b0 (j := 24) rfl) (byt_of hLedger_listenTo_b0 (j := 25) rfl) rfl
theorem dLedger_listenTo_26 : decode (mcc mLedger_listenTo) 26 = .ok (.iinc 2 1, 3) := o132 (a := 2) (b := 1) (byt_of hLedger_listenTo_b0 (j := 26) rfl) (byt_of hLedger_listenTo_b0 (j := 27) rfl) (byt_of hLedger_listenTo_b0 (j := 28) rfl) rfl
theorem dLedger_listenTo_29 : decode (mcc mLedger_listenTo) 29 = .ok (.goto (-20), 3) := o167 (a := 255) (b := 236) (byt_of hLedger_listenTo_b0 (j := 29) rfl) (byt_of hLedger_listenTo_b0 (j := 30) rfl) (byt_of hLedger_listenTo_b0 (j := 31) rfl) rfl
def bLedger_listenTo_b1 : List Nat := [177]
theorem hLedger_listenTo_b1 : BL (mcc mLedger_listenTo) 32 bLedger_listenTo_b1 := by decide +kernel
theorem dLedger_listenTo_32 : decode (mcc mLedger_listenTo) 32 = .ok (.return_, 1) := o177 (byt_of hLedger_listenTo_b1 (j := 0) rfl)
def bLedger_listenOne_b0 : List Nat := [42, 180, 0, 55, 180, 0, 85, 27, 46, 62, 42, 180, 0, 59, 182, 0, 88, 42, 180, 0, 59, 180, 0, 93, 3, 42, 180, 0, 55, 180, 0, 96, 27, 46, 79, 42, 180, 0]
theorem hLedger_listenOne_b0 : BL (mcc mLedger_listenOne) 0 bLedger_listenOne_b0 := by decide +kernel
theorem dLedger_listenOne_0 : decode (mcc mLedger_listenOne) 0 = .ok (.aload_n 0, 1) := o42 (byt_of hLedger_listenOne_b0 (j := 0) rfl)
theorem dLedger_listenOne_1 : decode (mcc mLedger_listenOne) 1 = .ok (.getfield 55, 3) := o180 (a := 0) (b := 55) (byt_of hLedger_listenOne_b0 (j := 1) rfl) (byt_of hLedger_listenOne_b0 (j := 2) rfl) (byt_of hLedger_listenOne_b0 (j := 3) rfl) rfl
theorem dLedger_listenOne_4 : decode (mcc mLedger_listenOne) 4 = .ok (.getfield 85, 3) := o180 (a := 0) (b := 85) (byt_of hLedger_listenOne_b0 (j := 4) rfl) (byt_of hLedger_listenOne_b0 (j := 5) rfl) (byt_of hLedger_listenOne_b0 (j := 6) rfl) rfl
theorem dLedger_listenOne_7 : decode (mcc mLedger_listenOne) 7 = .ok (.iload_n 1, 1) := o27 (byt_of hLedger_listenOne_b0 (j := 7) rfl)
theorem dLedger_listenOne_8 : decode (mcc mLedger_listenOne) 8 = .ok (.iaload, 1) := o46 (byt_of hLedger_listenOne_b0 (j := 8) rfl)
theorem dLedger_listenOne_9 : decode (mcc mLedger_listenOne) 9 = .ok (.istore_n 3, 1) := o62 (byt_of hLedger_listenOne_b0 (j := 9) rfl)
theorem dLedger_listenOne_10 : decode (mcc mLedger_listenOne) 10 = .ok (.aload_n 0, 1) := o42 (byt_of hLedger_listenOne_b0 (j := 10) rfl)
theorem dLedger_listenOne_11 : decode (mcc mLedger_listenOne) 11 = .ok (.getfield 59, 3) := o180 (a := 0) (b := 59) (byt_of hLedger_listenOne_b0 (j := 11) rfl) (byt_of hLedger_listenOne_b0 (j := 12) rfl) (byt_of hLedger_listenOne_b0 (j := 13) rfl) rfl
theorem dLedger_listenOne_14 : decode (mcc mLedger_listenOne) 14 = .ok (.invokevirtual 88, 3) := o182 (a := 0) (b := 88) (byt_of hLedger_listenOne_b0 (j := 14) rfl) (byt_of hLedger_listenOne_b0 (j := 15) rfl) (byt_of hLedger_listenOne_b0 (j := 16) rfl) rfl
theorem dLedger_listenOne_17 : decode (mcc mLedger_listenOne) 17 = .ok (.aload_n 0, 1) := o42 (byt_of hLedger_listenOne_b0 (j := 17) rfl)
theorem dLedger_listenOne_18 : decode (mcc mLedger_listenOne) 18 = .ok (.getfield 59, 3) := o180 (a := 0) (b := 59) (byt_of hLedger_listenOne_b0 (j := 18) rfl) (byt_of hLedger_listenOne_b0 (j := 19) rfl) (byt_of hLedger_listenOne_b0 (j := 20) rfl) rfl
theorem dLedger_listenOne_21 : decode (mcc mLedger_listenOne) 21 = .ok (.getfield 93, 3) := o180 (a := 0) (b := 93) (byt_of hLedger_listenOne_b0 (j := 21) rfl) (byt_of hLedger_listenOne_b0 (j := 22) rfl) (byt_of hLedger_listenOne_b0 (j := 23) rfl) rfl
theorem dLedger_listenOne_24 : decode (mcc mLedger_listenOne) 24 = .ok (.iconst 0, 1) := o3 (byt_of hLedger_listenOne_b0 (j := 24) rfl)
theorem dLedger_listenOne_25 : decode (mcc mLedger_listenOne) 25 = .ok (.aload_n 0, 1) := o42 (byt_of hLedger_listenOne_b0 (j := 25) rfl)
theorem dLedger_listenOne_26 : decode (mcc mLedger_listenOne) 26 = .ok (.getfield 55, 3) := o180 (a := 0) (b := 55) (byt_of hLedger_listenOne_b0 (j := 26) rfl) (byt_of hLedger_listenOne_b0 (j := 27) rfl) (byt_of hLedger_listenOne_b0 (j := 28) rfl) rfl
theorem dLedger_listenOne_29 : decode (mcc mLedger_listenOne) 29 = .ok (.getfield 96, 3) := o180 (a := 0) (b := 96) (byt_of hLedger_listenOne_b0 (j := 29) rfl) (byt_of hLedger_listenOne_b0 (j := 30) rfl) (byt_of hLedger_listenOne_b0 (j := 31) rfl) rfl
def bLedger_listenOne_b1 : List Nat := [27, 46, 79, 42, 180, 0, 59, 180, 0, 93, 4, 42, 180, 0, 43, 42, 180, 0, 47, 28, 29, 182, 0, 99, 42, 180, 0, 55, 180, 0, 103, 27, 46, 182, 0, 106, 79, 42]
theorem hLedger_listenOne_b1 : BL (mcc mLedger_listenOne) 32 bLedger_listenOne_b1 := by decide +kernel
theorem dLedger_listenOne_32 : decode (mcc mLedger_listenOne) 32 = .ok (.iload_n 1, 1) := o27 (byt_of hLedger_listenOne_b1 (j := 0) rfl)
theorem dLedger_listenOne_33 : decode (mcc mLedger_listenOne) 33 = .ok (.iaload, 1) := o46 (byt_of hLedger_listenOne_b1 (j := 1) rfl)
theorem dLedger_listenOne_34 : decode (mcc mLedger_listenOne) 34 = .ok (.iastore, 1) := o79 (byt_of hLedger_listenOne_b1 (j := 2) rfl)
theorem dLedger_listenOne_35 : decode (mcc mLedger_listenOne) 35 = .ok (.aload_n 0, 1) := o42 (byt_of hLedger_listenOne_b1 (j := 3) rfl)
theorem dLedger_listenOne_36 : decode (mcc mLedger_listenOne) 36 = .ok (.getfield 59, 3) := o180 (a := 0) (b := 59) (byt_of hLedger_listenOne_b1 (j := 4) rfl) (byt_of hLedger_listenOne_b1 (j := 5) rfl) (byt_of hLedger_listenOne_b1 (j := 6) rfl) rfl
theorem dLedger_listenOne_39 : decode (mcc mLedger_listenOne) 39 = .ok (.getfield 93, 3) := o180 (a := 0) (b := 93) (byt_of hLedger_listenOne_b1 (j := 7) rfl) (byt_of hLedger_listenOne_b1 (j := 8) rfl) (byt_of hLedger_listenOne_b1 (j := 9) rfl) rfl
theorem dLedger_listenOne_42 : decode (mcc mLedger_listenOne) 42 = .ok (.iconst 1, 1) := o4 (byt_of hLedger_listenOne_b1 (j := 10) rfl)
theorem dLedger_listenOne_43 : decode (mcc mLedger_listenOne) 43 = .ok (.aload_n 0, 1) := o42 (byt_of hLedger_listenOne_b1 (j := 11) rfl)
theorem dLedger_listenOne_44 : decode (mcc mLedger_listenOne) 44 = .ok (.getfield 43, 3) := o180 (a := 0) (b := 43) (byt_of hLedger_listenOne_b1 (j := 12) rfl) (byt_of hLedger_listenOne_b1 (j := 13) rfl) (byt_of hLedger_listenOne_b1 (j := 14) rfl) rfl
theorem dLedger_listenOne_47 : decode (mcc mLedger_listenOne) 47 = .ok (.aload_n 0, 1) := o42 (byt_of hLedger_listenOne_b1 (j := 15) rfl)
theorem dLedger_listenOne_48 : decode (mcc mLedger_listenOne) 48 = .ok (.getfield 47, 3) := o180 (a := 0) (b := 47) (byt_of hLedger_listenOne_b1 (j := 16) rfl) (byt_of hLedger_listenOne_b1 (j := 17) rfl) (byt_of hLedger_listenOne_b1 (j := 18) rfl) rfl
theorem dLedger_listenOne_51 : decode (mcc mLedger_listenOne) 51 = .ok (.iload_n 2, 1) := o28 (byt_of hLedger_listenOne_b1 (j := 19) rfl)
theorem dLedger_listenOne_52 : decode (mcc mLedger_listenOne) 52 = .ok (.iload_n 3, 1) := o29 (byt_of hLedger_listenOne_b1 (j := 20) rfl)
theorem dLedger_listenOne_53 : decode (mcc mLedger_listenOne) 53 = .ok (.invokevirtual 99, 3) := o182 (a := 0) (b := 99) (byt_of hLedger_listenOne_b1 (j := 21) rfl) (byt_of hLedger_listenOne_b1 (j := 22) rfl) (byt_of hLedger_listenOne_b1 (j := 23) rfl) rfl
theorem dLedger_listenOne_56 : decode (mcc mLedger_listenOne) 56 = .ok (.aload_n 0, 1) := o42 (byt_of hLedger_listenOne_b1 (j := 24) rfl)
theorem dLedger_listenOne_57 : decode (mcc mLedger_listenOne) 57 = .ok (.getfield 55, 3) := o180 (a := 0) (b := 55) (byt_of hLedger_listenOne_b1 (j := 25) rfl) (byt_of hLedger_listenOne_b1 (j := 26) rfl) (byt_of hLedger_listenOne_b1 (j := 27) rfl) rfl
theorem dLedger_listenOne_60 : decode (mcc mLedger_listenOne) 60 = .ok (.getfield 103, 3) := o180 (a := 0) (b := 103) (byt_of hLedger_listenOne_b1 (j := 28) rfl) (byt_of hLedger_listenOne_b1 (j := 29) rfl) (byt_of hLedger_listenOne_b1 (j := 30) rfl) rfl
theorem dLedger_listenOne_63 : decode (mcc mLedger_listenOne) 63 = .ok (.iload_n 1, 1) := o27 (byt_of hLedger_listenOne_b1 (j := 31) rfl)
def bLedger_listenOne_b2 : List Nat := [46, 182, 0, 106, 79, 42, 180, 0, 59, 180, 0, 93, 5, 42, 180, 0, 47, 180, 0, 111, 28, 46, 79, 42, 180, 0, 59, 180, 0, 93, 8, 42, 180, 0, 43, 180, 0, 114]
theorem hLedger_listenOne_b2 : BL (mcc mLedger_listenOne) 64 bLedger_listenOne_b2 := by decide +kernel
theorem dLedger_listenOne_64 : decode (mcc mLedger_listenOne) 64 = .ok (.iaload, 1) := o46 (byt_of hLedger_listenOne_b2 (j := 0) rfl)
theorem dLedger_listenOne_65 : decode (mcc mLedger_listenOne) 65 = .ok (.invokevirtual 106, 3) := o182 (a := 0) (b := 106) (byt_of hLedger_listenOne_b2 (j := 1) rfl) (byt_of hLedger_listenOne_b2 (j := 2) rfl) (byt_of hLedger_listenOne_b2 (j := 3) rfl) rfl
theorem dLedger_listenOne_68 : decode (mcc mLedger_listenOne) 68 = .ok (.iastore, 1) := o79 (byt_of hLedger_listenOne_b2 (j := 4) rfl)
theorem dLedger_listenOne_69 : decode (mcc mLedger_listenOne) 69 = .ok (.aload_n 0, 1) := o42 (byt_of hLedger_listenOne_b2 (j := 5) rfl)
theorem dLedger_listenOne_70 : decode (mcc mLedger_listenOne) 70 = .ok (.getfield 59, 3) := o180 (a := 0) (b := 59) (byt_of hLedger_listenOne_b2 (j := 6) rfl) (byt_of hLedger_listenOne_b2 (j := 7) rfl) (byt_of hLedger_listenOne_b2 (j := 8) rfl) rfl
theorem dLedger_listenOne_73 : decode (mcc mLedger_listenOne) 73 = .ok (.getfield 93, 3) := o180 (a := 0) (b := 93) (byt_of hLedger_listenOne_b2 (j := 9) rfl) (byt_of hLedger_listenOne_b2 (j := 10) rfl) (byt_of hLedger_listenOne_b2 (j := 11) rfl) rfl
theorem dLedger_listenOne_76 : decode (mcc mLedger_listenOne) 76 = .ok (.iconst 2, 1) := o5 (byt_of hLedger_listenOne_b2 (j := 12) rfl)
theorem dLedger_listenOne_77 : decode (mcc mLedger_listenOne) 77 = .ok (.aload_n 0, 1) := o42 (byt_of hLedger_listenOne_b2 (j := 13) rfl)
theorem dLedger_listenOne_78 : decode (mcc mLedger_listenOne) 78 = .ok (.getfield 47, 3) := o180 (a := 0) (b := 47) (byt_of hLedger_listenOne_b2 (j := 14) rfl) (byt_of hLedger_listenOne_b2 (j := 15) rfl) (byt_of hLedger_listenOne_b2 (j := 16) rfl) rfl
theorem dLedger_listenOne_81 : decode (mcc mLedger_listenOne) 81 = .ok (.getfield 111, 3) := o180 (a := 0) (b := 111) (byt_of hLedger_listenOne_b2 (j := 17) rfl) (byt_of hLedger_listenOne_b2 (j := 18) rfl) (byt_of hLedger_listenOne_b2 (j := 19) rfl) rfl
theorem dLedger_listenOne_84 : decode (mcc mLedger_listenOne) 84 = .ok (.iload_n 2, 1) := o28 (byt_of hLedger_listenOne_b2 (j := 20) rfl)
theorem dLedger_listenOne_85 : decode (mcc mLedger_listenOne) 85 = .ok (.iaload, 1) := o46 (byt_of hLedger_listenOne_b2 (j := 21) rfl)
theorem dLedger_listenOne_86 : decode (mcc mLedger_listenOne) 86 = .ok (.iastore, 1) := o79 (byt_of hLedger_listenOne_b2 (j := 22) rfl)
theorem dLedger_listenOne_87 : decode (mcc mLedger_listenOne) 87 = .ok (.aload_n 0, 1) := o42 (byt_of hLedger_listenOne_b2 (j := 23) rfl)
theorem dLedger_listenOne_88 : decode (mcc mLedger_listenOne) 88 = .ok (.getfield 59, 3) := o180 (a := 0) (b := 59) (byt_of hLedger_listenOne_b2 (j := 24) rfl) (byt_of hLedger_listenOne_b2 (j := 25) rfl) (byt_of hLedger_listenOne_b2 (j := 26) rfl) rfl
theorem dLedger_listenOne_91 : decode (mcc mLedger_listenOne) 91 = .ok (.getfield 93, 3) := o180 (a := 0) (b := 93) (byt_of hLedger_listenOne_b2 (j := 27) rfl) (byt_of hLedger_listenOne_b2 (j := 28) rfl) (byt_of hLedger_listenOne_b2 (j := 29) rfl) rfl
theorem dLedger_listenOne_94 : decode (mcc mLedger_listenOne) 94 = .ok (.iconst 5, 1) := o8 (byt_of hLedger_listenOne_b2 (j := 30) rfl)
theorem dLedger_listenOne_95 : decode (mcc mLedger_listenOne) 95 = .ok (.aload_n 0, 1) := o42 (byt_of hLedger_listenOne_b2 (j := 31) rfl)
def bLedger_listenOne_b3 : List Nat := [180, 0, 43, 180, 0, 114, 29, 46, 79, 42, 180, 0, 59, 42, 180, 0, 9, 3, 182, 0, 117, 16, 100, 184, 0, 120, 54, 4, 42, 180, 0, 47, 28, 21, 4, 42, 180, 0]
theorem hLedger_listenOne_b3 : BL (mcc mLedger_listenOne) 96 bLedger_listenOne_b3 := by decide +kernel
theorem dLedger_listenOne_96 : decode (mcc mLedger_listenOne) 96 = .ok (.getfield 43, 3) := o180 (a := 0) (b := 43) (byt_of hLedger_listenOne_b3 (j := 0) rfl) (byt_of hLedger_listenOne_b3 (j := 1) rfl) (byt_of hLedger_listenOne_b3 (j := 2) rfl) rfl
theorem dLedger_listenOne_99 : decode (mcc mLedger_listenOne) 99 = .ok (.getfield 114, 3) := o180 (a := 0) (b := 114) (byt_of hLedger_listenOne_b3 (j := 3) rfl) (byt_of hLedger_listenOne_b3 (j := 4) rfl) (byt_of hLedger_listenOne_b3 (j := 5) rfl) rfl
theorem dLedger_listenOne_102 : decode (mcc mLedger_listenOne) 102 = .ok (.iload_n 3, 1) := o29 (byt_of hLedger_listenOne_b3 (j := 6) rfl)
theorem dLedger_listenOne_103 : decode (mcc mLedger_listenOne) 103 = .ok (.iaload, 1) := o46 (byt_of hLedger_listenOne_b3 (j := 7) rfl)
theorem dLedger_listenOne_104 : decode (mcc mLedger_listenOne) 104 = .ok (.iastore, 1) := o79 (byt_of hLedger_listenOne_b3 (j := 8) rfl)
theorem dLedger_listenOne_105 : decode (mcc mLedger_listenOne) 105 = .ok (.aload_n 0, 1) := o42 (byt_of hLedger_listenOne_b3 (j := 9) rfl)
theorem dLedger_listenOne_106 : decode (mcc mLedger_listenOne) 106 = .ok (.getfield 59, 3) := o180 (a := 0) (b := 59) (byt_of hLedger_listenOne_b3 (j := 10) rfl) (byt_of hLedger_listenOne_b3 (j := 11) rfl) (byt_of hLedger_listenOne_b3 (j := 12) rfl) rfl
theorem dLedger_listenOne_109 : decode (mcc mLedger_listenOne) 109 = .ok (.aload_n 0, 1) := o42 (byt_of hLedger_listenOne_b3 (j := 13) rfl)
theorem dLedger_listenOne_110 : decode (mcc mLedger_listenOne) 110 = .ok (.getfield 9, 3) := o180 (a := 0) (b := 9) (byt_of hLedger_listenOne_b3 (j := 14) rfl) (byt_of hLedger_listenOne_b3 (j := 15) rfl) (byt_of hLedger_listenOne_b3 (j := 16) rfl) rfl
theorem dLedger_listenOne_113 : decode (mcc mLedger_listenOne) 113 = .ok (.iconst 0, 1) := o3 (byt_of hLedger_listenOne_b3 (j := 17) rfl)
theorem dLedger_listenOne_114 : decode (mcc mLedger_listenOne) 114 = .ok (.invokevirtual 117, 3) := o182 (a := 0) (b := 117) (byt_of hLedger_listenOne_b3 (j := 18) rfl) (byt_of hLedger_listenOne_b3 (j := 19) rfl) (byt_of hLedger_listenOne_b3 (j := 20) rfl) rfl
theorem dLedger_listenOne_117 : decode (mcc mLedger_listenOne) 117 = .ok (.bipush 100, 2) := o16 (a := 100) (byt_of hLedger_listenOne_b3 (j := 21) rfl) (byt_of hLedger_listenOne_b3 (j := 22) rfl) rfl
theorem dLedger_listenOne_119 : decode (mcc mLedger_listenOne) 119 = .ok (.invokestatic 120, 3) := o184 (a := 0) (b := 120) (byt_of hLedger_listenOne_b3 (j := 23) rfl) (byt_of hLedger_listenOne_b3 (j := 24) rfl) (byt_of hLedger_listenOne_b3 (j := 25) rfl) rfl
theorem dLedger_listenOne_122 : decode (mcc mLedger_listenOne) 122 = .ok (.istore 4, 2) := o54 (a := 4) (byt_of hLedger_listenOne_b3 (j := 26) rfl) (byt_of hLedger_listenOne_b3 (j := 27) rfl)
theorem dLedger_listenOne_124 : decode (mcc mLedger_listenOne) 124 = .ok (.aload_n 0, 1) := o42 (byt_of hLedger_listenOne_b3 (j := 28) rfl)
theorem dLedger_listenOne_125 : decode (mcc mLedger_listenOne) 125 = .ok (.getfield 47, 3) := o180 (a := 0) (b := 47) (byt_of hLedger_listenOne_b3 (j := 29) rfl) (byt_of hLedger_listenOne_b3 (j := 30) rfl) (byt_of hLedger_listenOne_b3 (j := 31) rfl) rfl
def bLedger_listenOne_b4 : List Nat := [28, 21, 4, 42, 180, 0, 55, 180, 0, 96, 27, 46, 182, 0, 123, 54, 5, 42, 180, 0, 15, 27, 16, 8, 104, 28, 96, 21, 5, 79, 42, 27, 28, 21, 5, 16, 50, 161]
theorem hLedger_listenOne_b4 : BL (mcc mLedger_listenOne) 128 bLedger_listenOne_b4 := by decide +kernel
theorem dLedger_listenOne_128 : decode (mcc mLedger_listenOne) 128 = .ok (.iload_n 2, 1) := o28 (byt_of hLedger_listenOne_b4 (j := 0) rfl)
theorem dLedger_listenOne_129 : decode (mcc mLedger_listenOne) 129 = .ok (.iload 4, 2) := o21 (a := 4) (byt_of hLedger_listenOne_b4 (j := 1) rfl) (byt_of hLedger_listenOne_b4 (j := 2) rfl)
theorem dLedger_listenOne_131 : decode (mcc mLedger_listenOne) 131 = .ok (.aload_n 0, 1) := o42 (byt_of hLedger_listenOne_b4 (j := 3) rfl)
theorem dLedger_listenOne_132 : decode (mcc mLedger_listenOne) 132 = .ok (.getfield 55, 3) := o180 (a := 0) (b := 55) (byt_of hLedger_listenOne_b4 (j := 4) rfl) (byt_of hLedger_listenOne_b4 (j := 5) rfl) (byt_of hLedger_listenOne_b4 (j := 6) rfl) rfl
theorem dLedger_listenOne_135 : decode (mcc mLedger_listenOne) 135 = .ok (.getfield 96, 3) := o180 (a := 0) (b := 96) (byt_of hLedger_listenOne_b4 (j := 7) rfl) (byt_of hLedger_listenOne_b4 (j := 8) rfl) (byt_of hLedger_listenOne_b4 (j := 9) rfl) rfl
theorem dLedger_listenOne_138 : decode (mcc mLedger_listenOne) 138 = .ok (.iload_n 1, 1) := o27 (byt_of hLedger_listenOne_b4 (j := 10) rfl)
theorem dLedger_listenOne_139 : decode (mcc mLedger_listenOne) 139 = .ok (.iaload, 1) := o46 (byt_of hLedger_listenOne_b4 (j := 11) rfl)
theorem dLedger_listenOne_140 : decode (mcc mLedger_listenOne) 140 = .ok (.invokevirtual 123, 3) := o182 (a := 0) (b := 123) (byt_of hLedger_listenOne_b4 (j := 12) rfl) (byt_of hLedger_listenOne_b4 (j := 13) rfl) (byt_of hLedger_listenOne_b4 (j := 14) rfl) rfl
theorem dLedger_listenOne_143 : decode (mcc mLedger_listenOne) 143 = .ok (.istore 5, 2) := o54 (a := 5) (byt_of hLedger_listenOne_b4 (j := 15) rfl) (byt_of hLedger_listenOne_b4 (j := 16) rfl)
theorem dLedger_listenOne_145 : decode (mcc mLedger_listenOne) 145 = .ok (.aload_n 0, 1) := o42 (byt_of hLedger_listenOne_b4 (j := 17) rfl)
theorem dLedger_listenOne_146 : decode (mcc mLedger_listenOne) 146 = .ok (.getfield 15, 3) := o180 (a := 0) (b := 15) (byt_of hLedger_listenOne_b4 (j := 18) rfl) (byt_of hLedger_listenOne_b4 (j := 19) rfl) (byt_of hLedger_listenOne_b4 (j := 20) rfl) rfl
theorem dLedger_listenOne_149 : decode (mcc mLedger_listenOne) 149 = .ok (.iload_n 1, 1) := o27 (byt_of hLedger_listenOne_b4 (j := 21) rfl)
theorem dLedger_listenOne_150 : decode (mcc mLedger_listenOne) 150 = .ok (.bipush 8, 2) := o16 (a := 8) (byt_of hLedger_listenOne_b4 (j := 22) rfl) (byt_of hLedger_listenOne_b4 (j := 23) rfl) rfl
theorem dLedger_listenOne_152 : decode (mcc mLedger_listenOne) 152 = .ok (.imul, 1) := o104 (byt_of hLedger_listenOne_b4 (j := 24) rfl)
theorem dLedger_listenOne_153 : decode (mcc mLedger_listenOne) 153 = .ok (.iload_n 2, 1) := o28 (byt_of hLedger_listenOne_b4 (j := 25) rfl)
theorem dLedger_listenOne_154 : decode (mcc mLedger_listenOne) 154 = .ok (.iadd, 1) := o96 (byt_of hLedger_listenOne_b4 (j := 26) rfl)
theorem dLedger_listenOne_155 : decode (mcc mLedger_listenOne) 155 = .ok (.iload 5, 2) := o21 (a := 5) (byt_of hLedger_listenOne_b4 (j := 27) rfl) (byt_of hLedger_listenOne_b4 (j := 28) rfl)
theorem dLedger_listenOne_157 : decode (mcc mLedger_listenOne) 157 = .ok (.iastore, 1) := o79 (byt_of hLedger_listenOne_b4 (j := 29) rfl)
theorem dLedger_listenOne_158 : decode (mcc mLedger_listenOne) 158 = .ok (.aload_n 0, 1) := o42 (byt_of hLedger_listenOne_b4 (j := 30) rfl)
theorem dLedger_listenOne_159 : decode (mcc mLedger_listenOne) 159 = .ok (.iload_n 1, 1) := o27 (byt_of hLedger_listenOne_b4 (j := 31) rfl)
def bLedger_listenOne_b5 : List Nat := [28, 21, 5, 16, 50, 161, 0, 7, 4, 167, 0, 4, 3, 182, 0, 127, 177]
theorem hLedger_listenOne_b5 : BL (mcc mLedger_listenOne) 160 bLedger_listenOne_b5 := by decide +kernel
theorem dLedger_listenOne_160 : decode (mcc mLedger_listenOne) 160 = .ok (.iload_n 2, 1) := o28 (byt_of hLedger_listenOne_b5 (j := 0) rfl)
theorem dLedger_listenOne_161 : decode (mcc mLedger_listenOne) 161 = .ok (.iload 5, 2) := o21 (a := 5) (byt_of hLedger_listenOne_b5 (j := 1) rfl) (byt_of hLedger_listenOne_b5 (j := 2) rfl)
theorem dLedger_listenOne_163 : decode (mcc mLedger_listenOne) 163 = .ok (.bipush 50, 2) := o16 (a := 50) (byt_of hLedger_listenOne_b5 (j := 3) rfl) (byt_of hLedger_listenOne_b5 (j := 4) rfl) rfl
theorem dLedger_listenOne_165 : decode (mcc mLedger_listenOne) 165 = .ok (.if_icmp .lt 7, 3) := o161 (a := 0) (b := 7) (byt_of hLedger_listenOne_b5 (j := 5) rfl) (byt_of hLedger_listenOne_b5 (j := 6) rfl) (byt_of hLedger_listenOne_b5 (j := 7) rfl) rfl
theorem dLedger_listenOne_168 : decode (mcc mLedger_listenOne) 168 = .ok (.iconst 1, 1) := o4 (byt_of hLedger_listenOne_b5 (j := 8) rfl)
theorem dLedger_listenOne_169 : decode (mcc mLedger_listenOne) 169 = .ok (.goto 4, 3) := o167 (a := 0) (b := 4) (byt_of hLedger_listenOne_b5 (j := 9) rfl) (byt_of hLedger_listenOne_b5 (j := 10) rfl) (byt_of hLedger_listenOne_b5 (j := 11) rfl) rfl
theorem dLedger_listenOne_172 : decode (mcc mLedger_listenOne) 172 = .ok (.iconst 0, 1) := o3 (byt_of hLedger_listenOne_b5 (j := 12) rfl)
theorem dLedger_listenOne_173 : decode (mcc mLedger_listenOne) 173 = .ok (.invokevirtual 127, 3) := o182 (a := 0) (b := 127) (byt_of hLedger_listenOne_b5 (j := 13) rfl) (byt_of hLedger_listenOne_b5 (j := 14) rfl) (byt_of hLedger_listenOne_b5 (j := 15) rfl) rfl
theorem dLedger_listenOne_176 : decode (mcc mLedger_listenOne) 176 = .ok (.return_, 1) := o177 (byt_of hLedger_listenOne_b5 (j := 16) rfl)
def bLedger_setClear_b0 : List Nat := [42, 180, 0, 19, 27, 29, 153, 0, 16, 42, 180, 0, 19, 27, 46, 4, 28, 120, 128, 167, 0, 15, 42, 180, 0, 19, 27, 46, 4, 28, 120, 2, 130, 126, 79, 177]
theorem hLedger_setClear_b0 : BL (mcc mLedger_setClear) 0 bLedger_setClear_b0 := by decide +kernel
theorem dLedger_setClear_0 : decode (mcc mLedger_setClear) 0 = .ok (.aload_n 0, 1) := o42 (byt_of hLedger_setClear_b0 (j := 0) rfl)
theorem dLedger_setClear_1 : decode (mcc mLedger_setClear) 1 = .ok (.getfield 19, 3) := o180 (a := 0) (b := 19) (byt_of hLedger_setClear_b0 (j := 1) rfl) (byt_of hLedger_setClear_b0 (j := 2) rfl) (byt_of hLedger_setClear_b0 (j := 3) rfl) rfl
theorem dLedger_setClear_4 : decode (mcc mLedger_setClear) 4 = .ok (.iload_n 1, 1) := o27 (byt_of hLedger_setClear_b0 (j := 4) rfl)
theorem dLedger_setClear_5 : decode (mcc mLedger_setClear) 5 = .ok (.iload_n 3, 1) := o29 (byt_of hLedger_setClear_b0 (j := 5) rfl)
theorem dLedger_setClear_6 : decode (mcc mLedger_setClear) 6 = .ok (.ifCond .eq 16, 3) := o153 (a := 0) (b := 16) (byt_of hLedger_setClear_b0 (j := 6) rfl) (byt_of hLedger_setClear_b0 (j := 7) rfl) (byt_of hLedger_setClear_b0 (j := 8) rfl) rfl
theorem dLedger_setClear_9 : decode (mcc mLedger_setClear) 9 = .ok (.aload_n 0, 1) := o42 (byt_of hLedger_setClear_b0 (j := 9) rfl)
theorem dLedger_setClear_10 : decode (mcc mLedger_setClear) 10 = .ok (.getfield 19, 3) := o180 (a := 0) (b := 19) (byt_of hLedger_setClear_b0 (j := 10) rfl) (byt_of hLedger_setClear_b0 (j := 11) rfl) (byt_of hLedger_setClear_b0 (j := 12) rfl) rfl
theorem dLedger_setClear_13 : decode (mcc mLedger_setClear) 13 = .ok (.iload_n 1, 1) := o27 (byt_of hLedger_setClear_b0 (j := 13) rfl)
theorem dLedger_setClear_14 : decode (mcc mLedger_setClear) 14 = .ok (.iaload, 1) := o46 (byt_of hLedger_setClear_b0 (j := 14) rfl)
theorem dLedger_setClear_15 : decode (mcc mLedger_setClear) 15 = .ok (.iconst 1, 1) := o4 (byt_of hLedger_setClear_b0 (j := 15) rfl)
theorem dLedger_setClear_16 : decode (mcc mLedger_setClear) 16 = .ok (.iload_n 2, 1) := o28 (byt_of hLedger_setClear_b0 (j := 16) rfl)
theorem dLedger_setClear_17 : decode (mcc mLedger_setClear) 17 = .ok (.ishl, 1) := o120 (byt_of hLedger_setClear_b0 (j := 17) rfl)
theorem dLedger_setClear_18 : decode (mcc mLedger_setClear) 18 = .ok (.ior, 1) := o128 (byt_of hLedger_setClear_b0 (j := 18) rfl)
theorem dLedger_setClear_19 : decode (mcc mLedger_setClear) 19 = .ok (.goto 15, 3) := o167 (a := 0) (b := 15) (byt_of hLedger_setClear_b0 (j := 19) rfl) (byt_of hLedger_setClear_b0 (j := 20) rfl) (byt_of hLedger_setClear_b0 (j := 21) rfl) rfl
theorem dLedger_setClear_22 : decode (mcc mLedger_setClear) 22 = .ok (.aload_n 0, 1) := o42 (byt_of hLedger_setClear_b0 (j := 22) rfl)
theorem dLedger_setClear_23 : decode (mcc mLedger_setClear) 23 = .ok (.getfield 19, 3) := o180 (a := 0) (b := 19) (byt_of hLedger_setClear_b0 (j := 23) rfl) (byt_of hLedger_setClear_b0 (j := 24) rfl) (byt_of hLedger_setClear_b0 (j := 25) rfl) rfl
theorem dLedger_setClear_26 : decode (mcc mLedger_setClear) 26 = .ok (.iload_n 1, 1) := o27 (byt_of hLedger_setClear_b0 (j := 26) rfl)
theorem dLedger_setClear_27 : decode (mcc mLedger_setClear) 27 = .ok (.iaload, 1) := o46 (byt_of hLedger_setClear_b0 (j := 27) rfl)
theorem dLedger_setClear_28 : decode (mcc mLedger_setClear) 28 = .ok (.iconst 1, 1) := o4 (byt_of hLedger_setClear_b0 (j := 28) rfl)
theorem dLedger_setClear_29 : decode (mcc mLedger_setClear) 29 = .ok (.iload_n 2, 1) := o28 (byt_of hLedger_setClear_b0 (j := 29) rfl)
theorem dLedger_setClear_30 : decode (mcc mLedger_setClear) 30 = .ok (.ishl, 1) := o120 (byt_of hLedger_setClear_b0 (j := 30) rfl)
theorem dLedger_setClear_31 : decode (mcc mLedger_setClear) 31 = .ok (.iconst (-1), 1) := o2 (byt_of hLedger_setClear_b0 (j := 31) rfl)
def bLedger_setClear_b1 : List Nat := [130, 126, 79, 177]
theorem hLedger_setClear_b1 : BL (mcc mLedger_setClear) 32 bLedger_setClear_b1 := by decide +kernel
theorem dLedger_setClear_32 : decode (mcc mLedger_setClear) 32 = .ok (.ixor, 1) := o130 (byt_of hLedger_setClear_b1 (j := 0) rfl)
theorem dLedger_setClear_33 : decode (mcc mLedger_setClear) 33 = .ok (.iand, 1) := o126 (byt_of hLedger_setClear_b1 (j := 1) rfl)
theorem dLedger_setClear_34 : decode (mcc mLedger_setClear) 34 = .ok (.iastore, 1) := o79 (byt_of hLedger_setClear_b1 (j := 2) rfl)
theorem dLedger_setClear_35 : decode (mcc mLedger_setClear) 35 = .ok (.return_, 1) := o177 (byt_of hLedger_setClear_b1 (j := 3) rfl)
def bLedger_bindAll_b0 : List Nat := [3, 60, 27, 42, 180, 0, 55, 180, 0, 70, 162, 0, 14, 42, 27, 182, 0, 131, 132, 1, 1, 167, 255, 237, 42, 42, 180, 0, 55, 180, 0, 70, 2, 182, 0, 134, 177]
theorem hLedger_bindAll_b0 : BL (mcc mLedger_bindAll) 0 bLedger_bindAll_b0 := by decide +kernel
theorem dLedger_bindAll_0 : decode (mcc mLedger_bindAll) 0 = .ok (.iconst 0, 1) := o3 (byt_of hLedger_bindAll_b0 (j := 0) rfl)
theorem dLedger_bindAll_1 : decode (mcc mLedger_bindAll) 1 = .ok (.istore_n 1, 1) := o60 (byt_of hLedger_bindAll_b0 (j := 1) rfl)
theorem dLedger_bindAll_2 : decode (mcc mLedger_bindAll) 2 = .ok (.iload_n 1, 1) := o27 (byt_of hLedger_bindAll_b0 (j := 2) rfl)
theorem dLedger_bindAll_3 : decode (mcc mLedger_bindAll) 3 = .ok (.aload_n 0, 1) := o42 (byt_of hLedger_bindAll_b0 (j := 3) rfl)
theorem dLedger_bindAll_4 : decode (mcc mLedger_bindAll) 4 = .ok (.getfield 55, 3) := o180 (a := 0) (b := 55) (byt_of hLedger_bindAll_b0 (j := 4) rfl) (byt_of hLedger_bindAll_b0 (j := 5) rfl) (byt_of hLedger_bindAll_b0 (j := 6) rfl) rfl
theorem dLedger_bindAll_7 : decode (mcc mLedger_bindAll) 7 = .ok (.getfield 70, 3) := o180 (a := 0) (b := 70) (byt_of hLedger_bindAll_b0 (j := 7) rfl) (byt_of hLedger_bindAll_b0 (j := 8) rfl) (byt_of hLedger_bindAll_b0 (j := 9) rfl) rfl
theorem dLedger_bindAll_10 : decode (mcc mLedger_bindAll) 10 = .ok (.if_icmp .ge 14, 3) := o162 (a := 0) (b := 14) (byt_of hLedger_bindAll_b0 (j := 10) rfl) (byt_of hLedger_bindAll_b0 (j := 11) rfl) (byt_of hLedger_bindAll_b0 (j := 12) rfl) rfl
theorem dLedger_bindAll_13 : decode (mcc mLedger_bindAll) 13 = .ok (.aload_n 0, 1) := o42 (byt_of hLedger_bindAll_b0 (j := 13) rfl)
theorem dLedger_bindAll_14 : decode (mcc mLedger_bindAll) 14 = .ok (.iload_n 1, 1) := o27 (byt_of hLedger_bindAll_b0 (j := 14) rfl)
theorem dLedger_bindAll_15 : decode (mcc mLedger_bindAll) 15 = .ok (.invokevirtual 131, 3) := o182 (a := 0) (b := 131) (byt_of hLedger_bindAll_b0 (j := 15) rfl) (byt_of hLedger_bindAll_b0 (j := 16) rfl) (byt_of hLedger_bindAll_b0 (j := 17) rfl) rfl
theorem dLedger_bindAll_18 : decode (mcc mLedger_bindAll) 18 = .ok (.iinc 1 1, 3) := o132 (a := 1) (b := 1) (byt_of hLedger_bindAll_b0 (j := 18) rfl) (byt_of hLedger_bindAll_b0 (j := 19) rfl) (byt_of hLedger_bindAll_b0 (j := 20) rfl) rfl
theorem dLedger_bindAll_21 : decode (mcc mLedger_bindAll) 21 = .ok (.goto (-19), 3) := o167 (a := 255) (b := 237) (byt_of hLedger_bindAll_b0 (j := 21) rfl) (byt_of hLedger_bindAll_b0 (j := 22) rfl) (byt_of hLedger_bindAll_b0 (j := 23) rfl) rfl
theorem dLedger_bindAll_24 : decode (mcc mLedger_bindAll) 24 = .ok (.aload_n 0, 1) := o42 (byt_of hLedger_bindAll_b0 (j := 24) rfl)
theorem dLedger_bindAll_25 : decode (mcc mLedger_bindAll) 25 = .ok (.aload_n 0, 1) := o42 (byt_of hLedger_bindAll_b0 (j := 25) rfl)
theorem dLedger_bindAll_26 : decode (mcc mLedger_bindAll) 26 = .ok (.getfield 55, 3) := o180 (a := 0) (b := 55) (byt_of hLedger_bindAll_b0 (j := 26) rfl) (byt_of hLedger_bindAll_b0 (j := 27) rfl) (byt_of hLedger_bindAll_b0 (j := 28) rfl) rfl
theorem dLedger_bindAll_29 : decode (mcc mLedger_bindAll) 29 = .ok (.getfield 70, 3) := o180 (a := 0) (b := 70) (byt_of hLedger_bindAll_b0 (j := 29) rfl) (byt_of hLedger_bindAll_b0 (j := 30) rfl) (byt_of hLedger_bindAll_b0 (j := 31) rfl) rfl
def bLedger_bindAll_b1 : List Nat := [2, 182, 0, 134, 177]
theorem hLedger_bindAll_b1 : BL (mcc mLedger_bindAll) 32 bLedger_bindAll_b1 := by decide +kernel
theorem dLedger_bindAll_32 : decode (mcc mLedger_bindAll) 32 = .ok (.iconst (-1), 1) := o2 (byt_of hLedger_bindAll_b1 (j := 0) rfl)
theorem dLedger_bindAll_33 : decode (mcc mLedger_bindAll) 33 = .ok (.invokevirtual 134, 3) := o182 (a := 0) (b := 134) (byt_of hLedger_bindAll_b1 (j := 1) rfl) (byt_of hLedger_bindAll_b1 (j := 2) rfl) (byt_of hLedger_bindAll_b1 (j := 3) rfl) rfl
theorem dLedger_bindAll_36 : decode (mcc mLedger_bindAll) 36 = .ok (.return_, 1) := o177 (byt_of hLedger_bindAll_b1 (j := 4) rfl)
def bLedger_bindBy_b0 : List Nat := [3, 61, 28, 42, 180, 0, 47, 180, 0, 82, 162, 0, 26, 42, 180, 0, 22, 27, 16, 8, 104, 28, 96, 42, 27, 28, 182, 0, 137, 79, 132, 2, 1, 167, 255, 225, 177]
theorem hLedger_bindBy_b0 : BL (mcc mLedger_bindBy) 0 bLedger_bindBy_b0 := by decide +kernel
theorem dLedger_bindBy_0 : decode (mcc mLedger_bindBy) 0 = .ok (.iconst 0, 1) := o3 (byt_of hLedger_bindBy_b0 (j := 0) rfl)
theorem dLedger_bindBy_1 : decode (mcc mLedger_bindBy) 1 = .ok (.istore_n 2, 1) := o61 (byt_of hLedger_bindBy_b0 (j := 1) rfl)
theorem dLedger_bindBy_2 : decode (mcc mLedger_bindBy) 2 = .ok (.iload_n 2, 1) := o28 (byt_of hLedger_bindBy_b0 (j := 2) rfl)
theorem dLedger_bindBy_3 : decode (mcc mLedger_bindBy) 3 = .ok (.aload_n 0, 1) := o42 (byt_of hLedger_bindBy_b0 (j := 3) rfl)
theorem dLedger_bindBy_4 : decode (mcc mLedger_bindBy) 4 = .ok (.getfield 47, 3) := o180 (a := 0) (b := 47) (byt_of hLedger_bindBy_b0 (j := 4) rfl) (byt_of hLedger_bindBy_b0 (j := 5) rfl) (byt_of hLedger_bindBy_b0 (j := 6) rfl) rfl
theorem dLedger_bindBy_7 : decode (mcc mLedger_bindBy) 7 = .ok (.getfield 82, 3) := o180 (a := 0) (b := 82) (byt_of hLedger_bindBy_b0 (j := 7) rfl) (byt_of hLedger_bindBy_b0 (j := 8) rfl) (byt_of hLedger_bindBy_b0 (j := 9) rfl) rfl
theorem dLedger_bindBy_10 : decode (mcc mLedger_bindBy) 10 = .ok (.if_icmp .ge 26, 3) := o162 (a := 0) (b := 26) (byt_of hLedger_bindBy_b0 (j := 10) rfl) (byt_of hLedger_bindBy_b0 (j := 11) rfl) (byt_of hLedger_bindBy_b0 (j := 12) rfl) rfl
theorem dLedger_bindBy_13 : decode (mcc mLedger_bindBy) 13 = .ok (.aload_n 0, 1) := o42 (byt_of hLedger_bindBy_b0 (j := 13) rfl)
theorem dLedger_bindBy_14 : decode (mcc mLedger_bindBy) 14 = .ok (.getfield 22, 3) := o180 (a := 0) (b := 22) (byt_of hLedger_bindBy_b0 (j := 14) rfl) (byt_of hLedger_bindBy_b0 (j := 15) rfl) (byt_of hLedger_bindBy_b0 (j := 16) rfl) rfl
theorem dLedger_bindBy_17 : decode (mcc mLedger_bindBy) 17 = .ok (.iload_n 1, 1) := o27 (byt_of hLedger_bindBy_b0 (j := 17) rfl)
theorem dLedger_bindBy_18 : decode (mcc mLedger_bindBy) 18 = .ok (.bipush 8, 2) := o16 (a := 8) (byt_of hLedger_bindBy_b0 (j := 18) rfl) (byt_of hLedger_bindBy_b0 (j := 19) rfl) rfl
theorem dLedger_bindBy_20 : decode (mcc mLedger_bindBy) 20 = .ok (.imul, 1) := o104 (byt_of hLedger_bindBy_b0 (j := 20) rfl)
theorem dLedger_bindBy_21 : decode (mcc mLedger_bindBy) 21 = .ok (.iload_n 2, 1) := o28 (byt_of hLedger_bindBy_b0 (j := 21) rfl)
theorem dLedger_bindBy_22 : decode (mcc mLedger_bindBy) 22 = .ok (.iadd, 1) := o96 (byt_of hLedger_bindBy_b0 (j := 22) rfl)
theorem dLedger_bindBy_23 : decode (mcc mLedger_bindBy) 23 = .ok (.aload_n 0, 1) := o42 (byt_of hLedger_bindBy_b0 (j := 23) rfl)
theorem dLedger_bindBy_24 : decode (mcc mLedger_bindBy) 24 = .ok (.iload_n 1, 1) := o27 (byt_of hLedger_bindBy_b0 (j := 24) rfl)
theorem dLedger_bindBy_25 : decode (mcc mLedger_bindBy) 25 = .ok (.iload_n 2, 1) := o28 (byt_of hLedger_bindBy_b0 (j := 25) rfl)
theorem dLedger_bindBy_26 : decode (mcc mLedger_bindBy) 26 = .ok (.invokevirtual 137, 3) := o182 (a := 0) (b := 137) (byt_of hLedger_bindBy_b0 (j := 26) rfl) (byt_of hLedger_bindBy_b0 (j := 27) rfl) (byt_of hLedger_bindBy_b0 (j := 28) rfl) rfl
theorem dLedger_bindBy_29 : decode (mcc mLedger_bindBy) 29 = .ok (.iastore, 1) := o79 (byt_of hLedger_bindBy_b0 (j := 29) rfl)
theorem dLedger_bindBy_30 : decode (mcc mLedger_bindBy) 30 = .ok (.iinc 2 1, 3) := o132 (a := 2) (b := 1) (byt_of hLedger_bindBy_b0 (j := 30) rfl) (byt_of hLedger_bindBy_b0 (j := 31) rfl) (byt_of hLedger_bindBy_b0 (j := 32) rfl) rfl
def bLedger_bindBy_b1 : List Nat := [1, 167, 255, 225, 177]
theorem hLedger_bindBy_b1 : BL (mcc mLedger_bindBy) 32 bLedger_bindBy_b1 := by decide +kernel
theorem dLedger_bindBy_33 : decode (mcc mLedger_bindBy) 33 = .ok (.goto (-31), 3) := o167 (a := 255) (b := 225) (byt_of hLedger_bindBy_b1 (j := 1) rfl) (byt_of hLedger_bindBy_b1 (j := 2) rfl) (byt_of hLedger_bindBy_b1 (j := 3) rfl) rfl
theorem dLedger_bindBy_36 : decode (mcc mLedger_bindBy) 36 = .ok (.return_, 1) := o177 (byt_of hLedger_bindBy_b1 (j := 4) rfl)
def bLedger_shareOf_b0 : List Nat := [42, 180, 0, 19, 27, 46, 28, 122, 4, 126, 153, 0, 14, 42, 180, 0, 47, 28, 182, 0, 140, 154, 0, 5, 3, 172, 42, 180, 0, 55, 180, 0, 144, 27, 46, 62, 42, 180]
theorem hLedger_shareOf_b0 : BL (mcc mLedger_shareOf) 0 bLedger_shareOf_b0 := by decide +kernel
theorem dLedger_shareOf_0 : decode (mcc mLedger_shareOf) 0 = .ok (.aload_n 0, 1) := o42 (byt_of hLedger_shareOf_b0 (j := 0) rfl)
theorem dLedger_shareOf_1 : decode (mcc mLedger_shareOf) 1 = .ok (.getfield 19, 3) := o180 (a := 0) (b := 19) (byt_of hLedger_shareOf_b0 (j := 1) rfl) (byt_of hLedger_shareOf_b0 (j := 2) rfl) (byt_of hLedger_shareOf_b0 (j := 3) rfl) rfl
theorem dLedger_shareOf_4 : decode (mcc mLedger_shareOf) 4 = .ok (.iload_n 1, 1) := o27 (byt_of hLedger_shareOf_b0 (j := 4) rfl)
theorem dLedger_shareOf_5 : decode (mcc mLedger_shareOf) 5 = .ok (.iaload, 1) := o46 (byt_of hLedger_shareOf_b0 (j := 5) rfl)
theorem dLedger_shareOf_6 : decode (mcc mLedger_shareOf) 6 = .ok (.iload_n 2, 1) := o28 (byt_of hLedger_shareOf_b0 (j := 6) rfl)
theorem dLedger_shareOf_7 : decode (mcc mLedger_shareOf) 7 = .ok (.ishr, 1) := o122 (byt_of hLedger_shareOf_b0 (j := 7) rfl)
theorem dLedger_shareOf_8 : decode (mcc mLedger_shareOf) 8 = .ok (.iconst 1, 1) := o4 (byt_of hLedger_shareOf_b0 (j := 8) rfl)
theorem dLedger_shareOf_9 : decode (mcc mLedger_shareOf) 9 = .ok (.iand, 1) := o126 (byt_of hLedger_shareOf_b0 (j := 9) rfl)
theorem dLedger_shareOf_10 : decode (mcc mLedger_shareOf) 10 = .ok (.ifCond .eq 14, 3) := o153 (a := 0) (b := 14) (byt_of hLedger_shareOf_b0 (j := 10) rfl) (byt_of hLedger_shareOf_b0 (j := 11) rfl) (byt_of hLedger_shareOf_b0 (j := 12) rfl) rfl
theorem dLedger_shareOf_13 : decode (mcc mLedger_shareOf) 13 = .ok (.aload_n 0, 1) := o42 (byt_of hLedger_shareOf_b0 (j := 13) rfl)
theorem dLedger_shareOf_14 : decode (mcc mLedger_shareOf) 14 = .ok (.getfield 47, 3) := o180 (a := 0) (b := 47) (byt_of hLedger_shareOf_b0 (j := 14) rfl) (byt_of hLedger_shareOf_b0 (j := 15) rfl) (byt_of hLedger_shareOf_b0 (j := 16) rfl) rfl
theorem dLedger_shareOf_17 : decode (mcc mLedger_shareOf) 17 = .ok (.iload_n 2, 1) := o28 (byt_of hLedger_shareOf_b0 (j := 17) rfl)
theorem dLedger_shareOf_18 : decode (mcc mLedger_shareOf) 18 = .ok (.invokevirtual 140, 3) := o182 (a := 0) (b := 140) (byt_of hLedger_shareOf_b0 (j := 18) rfl) (byt_of hLedger_shareOf_b0 (j := 19) rfl) (byt_of hLedger_shareOf_b0 (j := 20) rfl) rfl
theorem dLedger_shareOf_21 : decode (mcc mLedger_shareOf) 21 = .ok (.ifCond .ne 5, 3) := o154 (a := 0) (b := 5) (byt_of hLedger_shareOf_b0 (j := 21) rfl) (byt_of hLedger_shareOf_b0 (j := 22) rfl) (byt_of hLedger_shareOf_b0 (j := 23) rfl) rfl
theorem dLedger_shareOf_24 : decode (mcc mLedger_shareOf) 24 = .ok (.iconst 0, 1) := o3 (byt_of hLedger_shareOf_b0 (j := 24) rfl)
theorem dLedger_shareOf_25 : decode (mcc mLedger_shareOf) 25 = .ok (.ireturn, 1) := o172 (byt_of hLedger_shareOf_b0 (j := 25) rfl)
theorem dLedger_shareOf_26 : decode (mcc mLedger_shareOf) 26 = .ok (.aload_n 0, 1) := o42 (byt_of hLedger_shareOf_b0 (j := 26) rfl)
theorem dLedger_shareOf_27 : decode (mcc mLedger_shareOf) 27 = .ok (.getfield 55, 3) := o180 (a := 0) (b := 55) (byt_of hLedger_shareOf_b0 (j := 27) rfl) (byt_of hLedger_shareOf_b0 (j := 28) rfl) (byt_of hLedger_shareOf_b0 (j := 29) rfl) rfl
theorem dLedger_shareOf_30 : decode (mcc mLedger_shareOf) 30 = .ok (.getfield 144, 3) := o180 (a := 0) (b := 144) (byt_of hLedger_shareOf_b0 (j := 30) rfl) (byt_of hLedger_shareOf_b0 (j := 31) rfl) (byt_of hLedger_shareOf_b0 (j := 32) rfl) rfl
def bLedger_shareOf_b1 : List Nat := [144, 27, 46, 62, 42, 180, 0, 59, 182, 0, 88, 42, 180, 0, 59, 180, 0, 93, 3, 42, 180, 0, 55, 180, 0, 96, 27, 46, 79, 42, 180, 0, 59, 180, 0, 93, 6, 42]
theorem hLedger_shareOf_b1 : BL (mcc mLedger_shareOf) 32 bLedger_shareOf_b1 := by decide +kernel
theorem dLedger_shareOf_33 : decode (mcc mLedger_shareOf) 33 = .ok (.iload_n 1, 1) := o27 (byt_of hLedger_shareOf_b1 (j := 1) rfl)
theorem dLedger_shareOf_34 : decode (mcc mLedger_shareOf) 34 = .ok (.iaload, 1) := o46 (byt_of hLedger_shareOf_b1 (j := 2) rfl)
theorem dLedger_shareOf_35 : decode (mcc mLedger_shareOf) 35 = .ok (.istore_n 3, 1) := o62 (byt_of hLedger_shareOf_b1 (j := 3) rfl)
theorem dLedger_shareOf_36 : decode (mcc mLedger_shareOf) 36 = .ok (.aload_n 0, 1) := o42 (byt_of hLedger_shareOf_b1 (j := 4) rfl)
theorem dLedger_shareOf_37 : decode (mcc mLedger_shareOf) 37 = .ok (.getfield 59, 3) := o180 (a := 0) (b := 59) (byt_of hLedger_shareOf_b1 (j := 5) rfl) (byt_of hLedger_shareOf_b1 (j := 6) rfl) (byt_of hLedger_shareOf_b1 (j := 7) rfl) rfl
theorem dLedger_shareOf_40 : decode (mcc mLedger_shareOf) 40 = .ok (.invokevirtual 88, 3) := o182 (a := 0) (b := 88) (byt_of hLedger_shareOf_b1 (j := 8) rfl) (byt_of hLedger_shareOf_b1 (j := 9) rfl) (byt_of hLedger_shareOf_b1 (j := 10) rfl) rfl
theorem dLedger_shareOf_43 : decode (mcc mLedger_shareOf) 43 = .ok (.aload_n 0, 1) := o42 (byt_of hLedger_shareOf_b1 (j := 11) rfl)
theorem dLedger_shareOf_44 : decode (mcc mLedger_shareOf) 44 = .ok (.getfield 59, 3) := o180 (a := 0) (b := 59) (byt_of hLedger_shareOf_b1 (j := 12) rfl) (byt_of hLedger_shareOf_b1 (j := 13) rfl) (byt_of hLedger_shareOf_b1 (j := 14) rfl) rfl
theorem dLedger_shareOf_47 : decode (mcc mLedger_shareOf) 47 = .ok (.getfield 93, 3) := o180 (a := 0) (b := 93) (byt_of hLedger_shareOf_b1 (j := 15) rfl) (byt_of hLedger_shareOf_b1 (j := 16) rfl) (byt_of hLedger_shareOf_b1 (j := 17) rfl) rfl
theorem dLedger_shareOf_50 : decode (mcc mLedger_shareOf) 50 = .ok (.iconst 0, 1) := o3 (byt_of hLedger_shareOf_b1 (j := 18) rfl)
theorem dLedger_shareOf_51 : decode (mcc mLedger_shareOf) 51 = .ok (.aload_n 0, 1) := o42 (byt_of hLedger_shareOf_b1 (j := 19) rfl)
theorem dLedger_shareOf_52 : decode (mcc mLedger_shareOf) 52 = .ok (.getfield 55, 3) := o180 (a := 0) (b := 55) (byt_of hLedger_shareOf_b1 (j := 20) rfl) (byt_of hLedger_shareOf_b1 (j := 21) rfl) (byt_of hLedger_shareOf_b1 (j := 22) rfl) rfl
theorem dLedger_shareOf_55 : decode (mcc mLedger_shareOf) 55 = .ok (.getfield 96, 3) := o180 (a := 0) (b := 96) (byt_of hLedger_shareOf_b1 (j := 23) rfl) (byt_of hLedger_shareOf_b1 (j := 24) rfl) (byt_of hLedger_shareOf_b1 (j := 25) rfl) rfl
theorem dLedger_shareOf_58 : decode (mcc mLedger_shareOf) 58 = .ok (.iload_n 1, 1) := o27 (byt_of hLedger_shareOf_b1 (j := 26) rfl)
theorem dLedger_shareOf_59 : decode (mcc mLedger_shareOf) 59 = .ok (.iaload, 1) := o46 (byt_of hLedger_shareOf_b1 (j := 27) rfl)
theorem dLedger_shareOf_60 : decode (mcc mLedger_shareOf) 60 = .ok (.iastore, 1) := o79 (byt_of hLedger_shareOf_b1 (j := 28) rfl)
theorem dLedger_shareOf_61 : decode (mcc mLedger_shareOf) 61 = .ok (.aload_n 0, 1) := o42 (byt_of hLedger_shareOf_b1 (j := 29) rfl)
theorem dLedger_shareOf_62 : decode (mcc mLedger_shareOf) 62 = .ok (.getfield 59, 3) := o180 (a := 0) (b := 59) (byt_of hLedger_shareOf_b1 (j := 30) rfl) (byt_of hLedger_shareOf_b1 (j := 31) rfl) (byt_of hLedger_shareOf_b1 (j := 32) rfl) rfl
def bLedger_shareOf_b2 : List Nat := [59, 180, 0, 93, 6, 42, 180, 0, 51, 180, 0, 147, 29, 46, 79, 42, 180, 0, 59, 180, 0, 93, 7, 42, 180, 0, 19, 27, 46, 184, 0, 152, 79, 42, 180, 0, 59, 180]
theorem hLedger_shareOf_b2 : BL (mcc mLedger_shareOf) 64 bLedger_shareOf_b2 := by decide +kernel
theorem dLedger_shareOf_65 : decode (mcc mLedger_shareOf) 65 = .ok (.getfield 93, 3) := o180 (a := 0) (b := 93) (byt_of hLedger_shareOf_b2 (j := 1) rfl) (byt_of hLedger_shareOf_b2 (j := 2) rfl) (byt_of hLedger_shareOf_b2 (j := 3) rfl) rfl
theorem dLedger_shareOf_68 : decode (mcc mLedger_shareOf) 68 = .ok (.iconst 3, 1) := o6 (byt_of hLedger_shareOf_b2 (j := 4) rfl)
theorem dLedger_shareOf_69 : decode (mcc mLedger_shareOf) 69 = .ok (.aload_n 0, 1) := o42 (byt_of hLedger_shareOf_b2 (j := 5) rfl)
theorem dLedger_shareOf_70 : decode (mcc mLedger_shareOf) 70 = .ok (.getfield 51, 3) := o180 (a := 0) (b := 51) (byt_of hLedger_shareOf_b2 (j := 6) rfl) (byt_of hLedger_shareOf_b2 (j := 7) rfl) (byt_of hLedger_shareOf_b2 (j := 8) rfl) rfl
theorem dLedger_shareOf_73 : decode (mcc mLedger_shareOf) 73 = .ok (.getfield 147, 3) := o180 (a := 0) (b := 147) (byt_of hLedger_shareOf_b2 (j := 9) rfl) (byt_of hLedger_shareOf_b2 (j := 10) rfl) (byt_of hLedger_shareOf_b2 (j := 11) rfl) rfl
theorem dLedger_shareOf_76 : decode (mcc mLedger_shareOf) 76 = .ok (.iload_n 3, 1) := o29 (byt_of hLedger_shareOf_b2 (j := 12) rfl)
theorem dLedger_shareOf_77 : decode (mcc mLedger_shareOf) 77 = .ok (.iaload, 1) := o46 (byt_of hLedger_shareOf_b2 (j := 13) rfl)
theorem dLedger_shareOf_78 : decode (mcc mLedger_shareOf) 78 = .ok (.iastore, 1) := o79 (byt_of hLedger_shareOf_b2 (j := 14) rfl)
theorem dLedger_shareOf_79 : decode (mcc mLedger_shareOf) 79 = .ok (.aload_n 0, 1) := o42 (byt_of hLedger_shareOf_b2 (j := 15) rfl)
theorem dLedger_shareOf_80 : decode (mcc mLedger_shareOf) 80 = .ok (.getfield 59, 3) := o180 (a := 0) (b := 59) (byt_of hLedger_shareOf_b2 (j := 16) rfl) (byt_of hLedger_shareOf_b2 (j := 17) rfl) (byt_of hLedger_shareOf_b2 (j := 18) rfl) rfl
theorem dLedger_shareOf_83 : decode (mcc mLedger_shareOf) 83 = .ok (.getfield 93, 3) := o180 (a := 0) (b := 93) (byt_of hLedger_shareOf_b2 (j := 19) rfl) (byt_of hLedger_shareOf_b2 (j := 20) rfl) (byt_of hLedger_shareOf_b2 (j := 21) rfl) rfl
theorem dLedger_shareOf_86 : decode (mcc mLedger_shareOf) 86 = .ok (.iconst 4, 1) := o7 (byt_of hLedger_shareOf_b2 (j := 22) rfl)
theorem dLedger_shareOf_87 : decode (mcc mLedger_shareOf) 87 = .ok (.aload_n 0, 1) := o42 (byt_of hLedger_shareOf_b2 (j := 23) rfl)
theorem dLedger_shareOf_88 : decode (mcc mLedger_shareOf) 88 = .ok (.getfield 19, 3) := o180 (a := 0) (b := 19) (byt_of hLedger_shareOf_b2 (j := 24) rfl) (byt_of hLedger_shareOf_b2 (j := 25) rfl) (byt_of hLedger_shareOf_b2 (j := 26) rfl) rfl
theorem dLedger_shareOf_91 : decode (mcc mLedger_shareOf) 91 = .ok (.iload_n 1, 1) := o27 (byt_of hLedger_shareOf_b2 (j := 27) rfl)
theorem dLedger_shareOf_92 : decode (mcc mLedger_shareOf) 92 = .ok (.iaload, 1) := o46 (byt_of hLedger_shareOf_b2 (j := 28) rfl)
theorem dLedger_shareOf_93 : decode (mcc mLedger_shareOf) 93 = .ok (.invokestatic 152, 3) := o184 (a := 0) (b := 152) (byt_of hLedger_shareOf_b2 (j := 29) rfl) (byt_of hLedger_shareOf_b2 (j := 30) rfl) (byt_of hLedger_shareOf_b2 (j := 31) rfl) rfl
def bLedger_shareOf_b3 : List Nat := [79, 42, 180, 0, 59, 180, 0, 93, 8, 42, 180, 0, 47, 28, 42, 180, 0, 51, 180, 0, 158, 29, 46, 182, 0, 161, 153, 0, 7, 4, 167, 0, 4, 3, 79, 42, 180, 0]
theorem hLedger_shareOf_b3 : BL (mcc mLedger_shareOf) 96 bLedger_shareOf_b3 := by decide +kernel
theorem dLedger_shareOf_96 : decode (mcc mLedger_shareOf) 96 = .ok (.iastore, 1) := o79 (byt_of hLedger_shareOf_b3 (j := 0) rfl)
theorem dLedger_shareOf_97 : decode (mcc mLedger_shareOf) 97 = .ok (.aload_n 0, 1) := o42 (byt_of hLedger_shareOf_b3 (j := 1) rfl)
theorem dLedger_shareOf_98 : decode (mcc mLedger_shareOf) 98 = .ok (.getfield 59, 3) := o180 (a := 0) (b := 59) (byt_of hLedger_shareOf_b3 (j := 2) rfl) (byt_of hLedger_shareOf_b3 (j := 3) rfl) (byt_of hLedger_shareOf_b3 (j := 4) rfl) rfl
theorem dLedger_shareOf_101 : decode (mcc mLedger_shareOf) 101 = .ok (.getfield 93, 3) := o180 (a := 0) (b := 93) (byt_of hLedger_shareOf_b3 (j := 5) rfl) (byt_of hLedger_shareOf_b3 (j := 6) rfl) (byt_of hLedger_shareOf_b3 (j := 7) rfl) rfl
theorem dLedger_shareOf_104 : decode (mcc mLedger_shareOf) 104 = .ok (.iconst 5, 1) := o8 (byt_of hLedger_shareOf_b3 (j := 8) rfl)
theorem dLedger_shareOf_105 : decode (mcc mLedger_shareOf) 105 = .ok (.aload_n 0, 1) := o42 (byt_of hLedger_shareOf_b3 (j := 9) rfl)
theorem dLedger_shareOf_106 : decode (mcc mLedger_shareOf) 106 = .ok (.getfield 47, 3) := o180 (a := 0) (b := 47) (byt_of hLedger_shareOf_b3 (j := 10) rfl) (byt_of hLedger_shareOf_b3 (j := 11) rfl) (byt_of hLedger_shareOf_b3 (j := 12) rfl) rfl
theorem dLedger_shareOf_109 : decode (mcc mLedger_shareOf) 109 = .ok (.iload_n 2, 1) := o28 (byt_of hLedger_shareOf_b3 (j := 13) rfl)
theorem dLedger_shareOf_110 : decode (mcc mLedger_shareOf) 110 = .ok (.aload_n 0, 1) := o42 (byt_of hLedger_shareOf_b3 (j := 14) rfl)
theorem dLedger_shareOf_111 : decode (mcc mLedger_shareOf) 111 = .ok (.getfield 51, 3) := o180 (a := 0) (b := 51) (byt_of hLedger_shareOf_b3 (j := 15) rfl) (byt_of hLedger_shareOf_b3 (j := 16) rfl) (byt_of hLedger_shareOf_b3 (j := 17) rfl) rfl
theorem dLedger_shareOf_114 : decode (mcc mLedger_shareOf) 114 = .ok (.getfield 158, 3) := o180 (a := 0) (b := 158) (byt_of hLedger_shareOf_b3 (j := 18) rfl) (byt_of hLedger_shareOf_b3 (j := 19) rfl) (byt_of hLedger_shareOf_b3 (j := 20) rfl) rfl
theorem dLedger_shareOf_117 : decode (mcc mLedger_shareOf) 117 = .ok (.iload_n 3, 1) := o29 (byt_of hLedger_shareOf_b3 (j := 21) rfl)
theorem dLedger_shareOf_118 : decode (mcc mLedger_shareOf) 118 = .ok (.iaload, 1) := o46 (byt_of hLedger_shareOf_b3 (j := 22) rfl)
theorem dLedger_shareOf_119 : decode (mcc mLedger_shareOf) 119 = .ok (.invokevirtual 161, 3) := o182 (a := 0) (b := 161) (byt_of hLedger_shareOf_b3 (j := 23) rfl) (byt_of hLedger_shareOf_b3 (j := 24) rfl) (byt_of hLedger_shareOf_b3 (j := 25) rfl) rfl
theorem dLedger_shareOf_122 : decode (mcc mLedger_shareOf) 122 = .ok (.ifCond .eq 7, 3) := o153 (a := 0) (b := 7) (byt_of hLedger_shareOf_b3 (j := 26) rfl) (byt_of hLedger_shareOf_b3 (j := 27) rfl) (byt_of hLedger_shareOf_b3 (j := 28) rfl) rfl
theorem dLedger_shareOf_125 : decode (mcc mLedger_shareOf) 125 = .ok (.iconst 1, 1) := o4 (byt_of hLedger_shareOf_b3 (j := 29) rfl)
theorem dLedger_shareOf_126 : decode (mcc mLedger_shareOf) 126 = .ok (.goto 4, 3) := o167 (a := 0) (b := 4) (byt_of hLedger_shareOf_b3 (j := 30) rfl) (byt_of hLedger_shareOf_b3 (j := 31) rfl) (byt_of hLedger_shareOf_b3 (j := 32) rfl) rfl
def bLedger_shareOf_b4 : List Nat := [4, 3, 79, 42, 180, 0, 59, 42, 180, 0, 9, 4, 182, 0, 117, 16, 99, 184, 0, 120, 172]
theorem hLedger_shareOf_b4 : BL (mcc mLedger_shareOf) 128 bLedger_shareOf_b4 := by decide +kernel
theorem dLedger_shareOf_129 : decode (mcc mLedger_shareOf) 129 = .ok (.iconst 0, 1) := o3 (byt_of hLedger_shareOf_b4 (j := 1) rfl)
theorem dLedger_shareOf_130 : decode (mcc mLedger_shareOf) 130 = .ok (.iastore, 1) := o79 (byt_of hLedger_shareOf_b4 (j := 2) rfl)
theorem dLedger_shareOf_131 : decode (mcc mLedger_shareOf) 131 = .ok (.aload_n 0, 1) := o42 (byt_of hLedger_shareOf_b4 (j := 3) rfl)
theorem dLedger_shareOf_132 : decode (mcc mLedger_shareOf) 132 = .ok (.getfield 59, 3) := o180 (a := 0) (b := 59) (byt_of hLedger_shareOf_b4 (j := 4) rfl) (byt_of hLedger_shareOf_b4 (j := 5) rfl) (byt_of hLedger_shareOf_b4 (j := 6) rfl) rfl
theorem dLedger_shareOf_135 : decode (mcc mLedger_shareOf) 135 = .ok (.aload_n 0, 1) := o42 (byt_of hLedger_shareOf_b4 (j := 7) rfl)
theorem dLedger_shareOf_136 : decode (mcc mLedger_shareOf) 136 = .ok (.getfield 9, 3) := o180 (a := 0) (b := 9) (byt_of hLedger_shareOf_b4 (j := 8) rfl) (byt_of hLedger_shareOf_b4 (j := 9) rfl) (byt_of hLedger_shareOf_b4 (j := 10) rfl) rfl
theorem dLedger_shareOf_139 : decode (mcc mLedger_shareOf) 139 = .ok (.iconst 1, 1) := o4 (byt_of hLedger_shareOf_b4 (j := 11) rfl)
theorem dLedger_shareOf_140 : decode (mcc mLedger_shareOf) 140 = .ok (.invokevirtual 117, 3) := o182 (a := 0) (b := 117) (byt_of hLedger_shareOf_b4 (j := 12) rfl) (byt_of hLedger_shareOf_b4 (j := 13) rfl) (byt_of hLedger_shareOf_b4 (j := 14) rfl) rfl
theorem dLedger_shareOf_143 : decode (mcc mLedger_shareOf) 143 = .ok (.bipush 99, 2) := o16 (a := 99) (byt_of hLedger_shareOf_b4 (j := 15) rfl) (byt_of hLedger_shareOf_b4 (j := 16) rfl) rfl
theorem dLedger_shareOf_145 : decode (mcc mLedger_shareOf) 145 = .ok (.invokestatic 120, 3) := o184 (a := 0) (b := 120) (byt_of hLedger_shareOf_b4 (j := 17) rfl) (byt_of hLedger_shareOf_b4 (j := 18) rfl) (byt_of hLedger_shareOf_b4 (j := 19) rfl) rfl
theorem dLedger_shareOf_148 : decode (mcc mLedger_shareOf) 148 = .ok (.ireturn, 1) := o172 (byt_of hLedger_shareOf_b4 (j := 20) rfl)
def bLedger_settle_b0 : List Nat := [3, 62, 29, 42, 180, 0, 47, 180, 0, 82, 162, 0, 16, 42, 29, 27, 28, 182, 0, 165, 132, 3, 1, 167, 255, 235, 177]
theorem hLedger_settle_b0 : BL (mcc mLedger_settle) 0 bLedger_settle_b0 := by decide +kernel
theorem dLedger_settle_0 : decode (mcc mLedger_settle) 0 = .ok (.iconst 0, 1) := o3 (byt_of hLedger_settle_b0 (j := 0) rfl)
theorem dLedger_settle_1 : decode (mcc mLedger_settle) 1 = .ok (.istore_n 3, 1) := o62 (byt_of hLedger_settle_b0 (j := 1) rfl)
theorem dLedger_settle_2 : decode (mcc mLedger_settle) 2 = .ok (.iload_n 3, 1) := o29 (byt_of hLedger_settle_b0 (j := 2) rfl)
theorem dLedger_settle_3 : decode (mcc mLedger_settle) 3 = .ok (.aload_n 0, 1) := o42 (byt_of hLedger_settle_b0 (j := 3) rfl)
theorem dLedger_settle_4 : decode (mcc mLedger_settle) 4 = .ok (.getfield 47, 3) := o180 (a := 0) (b := 47) (byt_of hLedger_settle_b0 (j := 4) rfl) (byt_of hLedger_settle_b0 (j := 5) rfl) (byt_of hLedger_settle_b0 (j := 6) rfl) rfl
theorem dLedger_settle_7 : decode (mcc mLedger_settle) 7 = .ok (.getfield 82, 3) := o180 (a := 0) (b := 82) (byt_of hLedger_settle_b0 (j := 7) rfl) (byt_of hLedger_settle_b0 (j := 8) rfl) (byt_of hLedger_settle_b0 (j := 9) rfl) rfl
theorem dLedger_settle_10 : decode (mcc mLedger_settle) 10 = .ok (.if_icmp .ge 16, 3) := o162 (a := 0) (b := 16) (byt_of hLedger_settle_b0 (j := 10) rfl) (byt_of hLedger_settle_b0 (j := 11) rfl) (byt_of hLedger_settle_b0 (j := 12) rfl) rfl
theorem dLedger_settle_13 : decode (mcc mLedger_settle) 13 = .ok (.aload_n 0, 1) := o42 (byt_of hLedger_settle_b0 (j := 13) rfl)
theorem dLedger_settle_14 : decode (mcc mLedger_settle) 14 = .ok (.iload_n 3, 1) := o29 (byt_of hLedger_settle_b0 (j := 14) rfl)
theorem dLedger_settle_15 : decode (mcc mLedger_settle) 15 = .ok (.iload_n 1, 1) := o27 (byt_of hLedger_settle_b0 (j := 15) rfl)
theorem dLedger_settle_16 : decode (mcc mLedger_settle) 16 = .ok (.iload_n 2, 1) := o28 (byt_of hLedger_settle_b0 (j := 16) rfl)
theorem dLedger_settle_17 : decode (mcc mLedger_settle) 17 = .ok (.invokevirtual 165, 3) := o182 (a := 0) (b := 165) (byt_of hLedger_settle_b0 (j := 17) rfl) (byt_of hLedger_settle_b0 (j := 18) rfl) (byt_of hLedger_settle_b0 (j := 19) rfl) rfl
theorem dLedger_settle_20 : decode (mcc mLedger_settle) 20 = .ok (.iinc 3 1, 3) := o132 (a := 3) (b := 1) (byt_of hLedger_settle_b0 (j := 20) rfl) (byt_of hLedger_settle_b0 (j := 21) rfl) (byt_of hLedger_settle_b0 (j := 22) rfl) rfl
theorem dLedger_settle_23 : decode (mcc mLedger_settle) 23 = .ok (.goto (-21), 3) := o167 (a := 255) (b := 235) (byt_of hLedger_settle_b0 (j := 23) rfl) (byt_of hLedger_settle_b0 (j := 24) rfl) (byt_of hLedger_settle_b0 (j := 25) rfl) rfl
theorem dLedger_settle_26 : decode (mcc mLedger_settle) 26 = .ok (.return_, 1) := o177 (byt_of hLedger_settle_b0 (j := 26) rfl)
def bLedger_settleOne_b0 : List Nat := [3, 54, 4, 21, 4, 16, 8, 162, 0, 22, 42, 180, 0, 25, 27, 16, 8, 104, 21, 4, 96, 3, 79, 132, 4, 1, 167, 255, 233, 3, 54, 4, 21, 4, 28, 162, 0, 61]
theorem hLedger_settleOne_b0 : BL (mcc mLedger_settleOne) 0 bLedger_settleOne_b0 := by decide +kernel
theorem dLedger_settleOne_0 : decode (mcc mLedger_settleOne) 0 = .ok (.iconst 0, 1) := o3 (byt_of hLedger_settleOne_b0 (j := 0) rfl)
theorem dLedger_settleOne_1 : decode (mcc mLedger_settleOne) 1 = .ok (.istore 4, 2) := o54 (a := 4) (byt_of hLedger_settleOne_b0 (j := 1) rfl) (byt_of hLedger_settleOne_b0 (j := 2) rfl)
theorem dLedger_settleOne_3 : decode (mcc mLedger_settleOne) 3 = .ok (.iload 4, 2) := o21 (a := 4) (byt_of hLedger_settleOne_b0 (j := 3) rfl) (byt_of hLedger_settleOne_b0 (j := 4) rfl)
theorem dLedger_settleOne_5 : decode (mcc mLedger_settleOne) 5 = .ok (.bipush 8, 2) := o16 (a := 8) (byt_of hLedger_settleOne_b0 (j := 5) rfl) (byt_of hLedger_settleOne_b0 (j := 6) rfl) rfl
theorem dLedger_settleOne_7 : decode (mcc mLedger_settleOne) 7 = .ok (.if_icmp .ge 22, 3) := o162 (a := 0) (b := 22) (byt_of hLedger_settleOne_b0 (j := 7) rfl) (byt_of hLedger_settleOne_b0 (j := 8) rfl) (byt_of hLedger_settleOne_b0 (j := 9) rfl) rfl
theorem dLedger_settleOne_10 : decode (mcc mLedger_settleOne) 10 = .ok (.aload_n 0, 1) := o42 (byt_of hLedger_settleOne_b0 (j := 10) rfl)
theorem dLedger_settleOne_11 : decode (mcc mLedger_settleOne) 11 = .ok (.getfield 25, 3) := o180 (a := 0) (b := 25) (byt_of hLedger_settleOne_b0 (j := 11) rfl) (byt_of hLedger_settleOne_b0 (j := 12) rfl) (byt_of hLedger_settleOne_b0 (j := 13) rfl) rfl
theorem dLedger_settleOne_14 : decode (mcc mLedger_settleOne) 14 = .ok (.iload_n 1, 1) := o27 (byt_of hLedger_settleOne_b0 (j := 14) rfl)
theorem dLedger_settleOne_15 : decode (mcc mLedger_settleOne) 15 = .ok (.bipush 8, 2) := o16 (a := 8) (byt_of hLedger_settleOne_b0 (j := 15) rfl) (byt_of hLedger_settleOne_b0 (j := 16) rfl) rfl
theorem dLedger_settleOne_17 : decode (mcc mLedger_settleOne) 17 = .ok (.imul, 1) := o104 (byt_of hLedger_settleOne_b0 (j := 17) rfl)
theorem dLedger_settleOne_18 : decode (mcc mLedger_settleOne) 18 = .ok (.iload 4, 2) := o21 (a := 4) (byt_of hLedger_settleOne_b0 (j := 18) rfl) (byt_of hLedger_settleOne_b0 (j := 19) rfl)
theorem dLedger_settleOne_20 : decode (mcc mLedger_settleOne) 20 = .ok (.iadd, 1) := o96 (byt_of hLedger_settleOne_b0 (j := 20) rfl)
theorem dLedger_settleOne_21 : decode (mcc mLedger_settleOne) 21 = .ok (.iconst 0, 1) := o3 (byt_of hLedger_settleOne_b0 (j := 21) rfl)
theorem dLedger_settleOne_22 : decode (mcc mLedger_settleOne) 22 = .ok (.iastore, 1) := o79 (byt_of hLedger_settleOne_b0 (j := 22) rfl)
theorem dLedger_settleOne_23 : decode (mcc mLedger_settleOne) 23 = .ok (.iinc 4 1, 3) := o132 (a := 4) (b := 1) (byt_of hLedger_settleOne_b0 (j := 23) rfl) (byt_of hLedger_settleOne_b0 (j := 24) rfl) (byt_of hLedger_settleOne_b0 (j := 25) rfl) rfl
theorem dLedger_settleOne_26 : decode (mcc mLedger_settleOne) 26 = .ok (.goto (-23), 3) := o167 (a := 255) (b := 233) (byt_of hLedger_settleOne_b0 (j := 26) rfl) (byt_of hLedger_settleOne_b0 (j := 27) rfl) (byt_of hLedger_settleOne_b0 (j := 28) rfl) rfl
theorem dLedger_settleOne_29 : decode (mcc mLedger_settleOne) 29 = .ok (.iconst 0, 1) := o3 (byt_of hLedger_settleOne_b0 (j := 29) rfl)
theorem dLedger_settleOne_30 : decode (mcc mLedger_settleOne) 30 = .ok (.istore 4, 2) := o54 (a := 4) (byt_of hLedger_settleOne_b0 (j := 30) rfl) (byt_of hLedger_settleOne_b0 (j := 31) rfl)
def bLedger_settleOne_b1 : List Nat := [21, 4, 28, 162, 0, 61, 27, 16, 8, 104, 42, 180, 0, 55, 180, 0, 144, 21, 4, 46, 96, 54, 5, 21, 4, 29, 159, 0, 32, 42, 180, 0, 25, 21, 5, 42, 180, 0]
theorem hLedger_settleOne_b1 : BL (mcc mLedger_settleOne) 32 bLedger_settleOne_b1 := by decide +kernel
theorem dLedger_settleOne_32 : decode (mcc mLedger_settleOne) 32 = .ok (.iload 4, 2) := o21 (a := 4) (byt_of hLedger_settleOne_b1 (j := 0) rfl) (byt_of hLedger_settleOne_b1 (j := 1) rfl)
theorem dLedger_settleOne_34 : decode (mcc mLedger_settleOne) 34 = .ok (.iload_n 2, 1) := o28 (byt_of hLedger_settleOne_b1 (j := 2) rfl)
theorem dLedger_settleOne_35 : decode (mcc mLedger_settleOne) 35 = .ok (.if_icmp .ge 61, 3) := o162 (a := 0) (b := 61) (byt_of hLedger_settleOne_b1 (j := 3) rfl) (byt_of hLedger_settleOne_b1 (j := 4) rfl) (byt_of hLedger_settleOne_b1 (j := 5) rfl) rfl
theorem dLedger_settleOne_38 : decode (mcc mLedger_settleOne) 38 = .ok (.iload_n 1, 1) := o27 (byt_of hLedger_settleOne_b1 (j := 6) rfl)
theorem dLedger_settleOne_39 : decode (mcc mLedger_settleOne) 39 = .ok (.bipush 8, 2) := o16 (a := 8) (byt_of hLedger_settleOne_b1 (j := 7) rfl) (byt_of hLedger_settleOne_b1 (j := 8) rfl) rfl
theorem dLedger_settleOne_41 : decode (mcc mLedger_settleOne) 41 = .ok (.imul, 1) := o104 (byt_of hLedger_settleOne_b1 (j := 9) rfl)
theorem dLedger_settleOne_42 : decode (mcc mLedger_settleOne) 42 = .ok (.aload_n 0, 1) := o42 (byt_of hLedger_settleOne_b1 (j := 10) rfl)
theorem dLedger_settleOne_43 : decode (mcc mLedger_settleOne) 43 = .ok (.getfield 55, 3) := o180 (a := 0) (b := 55) (byt_of hLedger_settleOne_b1 (j := 11) rfl) (byt_of hLedger_settleOne_b1 (j := 12) rfl) (byt_of hLedger_settleOne_b1 (j := 13) rfl) rfl
theorem dLedger_settleOne_46 : decode (mcc mLedger_settleOne) 46 = .ok (.getfield 144, 3) := o180 (a := 0) (b := 144) (byt_of hLedger_settleOne_b1 (j := 14) rfl) (byt_of hLedger_settleOne_b1 (j := 15) rfl) (byt_of hLedger_settleOne_b1 (j := 16) rfl) rfl
theorem dLedger_settleOne_49 : decode (mcc mLedger_settleOne) 49 = .ok (.iload 4, 2) := o21 (a := 4) (byt_of hLedger_settleOne_b1 (j := 17) rfl) (byt_of hLedger_settleOne_b1 (j := 18) rfl)
theorem dLedger_settleOne_51 : decode (mcc mLedger_settleOne) 51 = .ok (.iaload, 1) := o46 (byt_of hLedger_settleOne_b1 (j := 19) rfl)
theorem dLedger_settleOne_52 : decode (mcc mLedger_settleOne) 52 = .ok (.iadd, 1) := o96 (byt_of hLedger_settleOne_b1 (j := 20) rfl)
theorem dLedger_settleOne_53 : decode (mcc mLedger_settleOne) 53 = .ok (.istore 5, 2) := o54 (a := 5) (byt_of hLedger_settleOne_b1 (j := 21) rfl) (byt_of hLedger_settleOne_b1 (j := 22) rfl)
theorem dLedger_settleOne_55 : decode (mcc mLedger_settleOne) 55 = .ok (.iload 4, 2) := o21 (a := 4) (byt_of hLedger_settleOne_b1 (j := 23) rfl) (byt_of hLedger_settleOne_b1 (j := 24) rfl)
theorem dLedger_settleOne_57 : decode (mcc mLedger_settleOne) 57 = .ok (.iload_n 3, 1) := o29 (byt_of hLedger_settleOne_b1 (j := 25) rfl)
theorem dLedger_settleOne_58 : decode (mcc mLedger_settleOne) 58 = .ok (.if_icmp .eq 32, 3) := o159 (a := 0) (b := 32) (byt_of hLedger_settleOne_b1 (j := 26) rfl) (byt_of hLedger_settleOne_b1 (j := 27) rfl) (byt_of hLedger_settleOne_b1 (j := 28) rfl) rfl
theorem dLedger_settleOne_61 : decode (mcc mLedger_settleOne) 61 = .ok (.aload_n 0, 1) := o42 (byt_of hLedger_settleOne_b1 (j := 29) rfl)
theorem dLedger_settleOne_62 : decode (mcc mLedger_settleOne) 62 = .ok (.getfield 25, 3) := o180 (a := 0) (b := 25) (byt_of hLedger_settleOne_b1 (j := 30) rfl) (byt_of hLedger_settleOne_b1 (j := 31) rfl) (byt_of hLedger_settleOne_b1 (j := 32) rfl) rfl
def bLedger_settleOne_b2 : List Nat := [25, 21, 5, 42, 180, 0, 25, 21, 5, 46, 42, 180, 0, 22, 21, 4, 16, 8, 104, 27, 96, 46, 184, 0, 169, 79, 132, 4, 1, 167, 255, 195, 42, 27, 182, 0, 174, 42]
theorem hLedger_settleOne_b2 : BL (mcc mLedger_settleOne) 64 bLedger_settleOne_b2 := by decide +kernel
theorem dLedger_settleOne_65 : decode (mcc mLedger_settleOne) 65 = .ok (.iload 5, 2) := o21 (a := 5) (byt_of hLedger_settleOne_b2 (j := 1) rfl) (byt_of hLedger_settleOne_b2 (j := 2) rfl)
theorem dLedger_settleOne_67 : decode (mcc mLedger_settleOne) 67 = .ok (.aload_n 0, 1) := o42 (byt_of hLedger_settleOne_b2 (j := 3) rfl)
theorem dLedger_settleOne_68 : decode (mcc mLedger_settleOne) 68 = .ok (.getfield 25, 3) := o180 (a := 0) (b := 25) (byt_of hLedger_settleOne_b2 (j := 4) rfl) (byt_of hLedger_settleOne_b2 (j := 5) rfl) (byt_of hLedger_settleOne_b2 (j := 6) rfl) rfl
theorem dLedger_settleOne_71 : decode (mcc mLedger_settleOne) 71 = .ok (.iload 5, 2) := o21 (a := 5) (byt_of hLedger_settleOne_b2 (j := 7) rfl) (byt_of hLedger_settleOne_b2 (j := 8) rfl)
theorem dLedger_settleOne_73 : decode (mcc mLedger_settleOne) 73 = .ok (.iaload, 1) := o46 (byt_of hLedger_settleOne_b2 (j := 9) rfl)
theorem dLedger_settleOne_74 : decode (mcc mLedger_settleOne) 74 = .ok (.aload_n 0, 1) := o42 (byt_of hLedger_settleOne_b2 (j := 10) rfl)
theorem dLedger_settleOne_75 : decode (mcc mLedger_settleOne) 75 = .ok (.getfield 22, 3) := o180 (a := 0) (b := 22) (byt_of hLedger_settleOne_b2 (j := 11) rfl) (byt_of hLedger_settleOne_b2 (j := 12) rfl) (byt_of hLedger_settleOne_b2 (j := 13) rfl) rfl
theorem dLedger_settleOne_78 : decode (mcc mLedger_settleOne) 78 = .ok (.iload 4, 2) := o21 (a := 4) (byt_of hLedger_settleOne_b2 (j := 14) rfl) (byt_of hLedger_settleOne_b2 (j := 15) rfl)
theorem dLedger_settleOne_80 : decode (mcc mLedger_settleOne) 80 = .ok (.bipush 8, 2) := o16 (a := 8) (byt_of hLedger_settleOne_b2 (j := 16) rfl) (byt_of hLedger_settleOne_b2 (j := 17) rfl) rfl
theorem dLedger_settleOne_82 : decode (mcc mLedger_settleOne) 82 = .ok (.imul, 1) := o104 (byt_of hLedger_settleOne_b2 (j := 18) rfl)
theorem dLedger_settleOne_83 : decode (mcc mLedger_settleOne) 83 = .ok (.iload_n 1, 1) := o27 (byt_of hLedger_settleOne_b2 (j := 19) rfl)
theorem dLedger_settleOne_84 : decode (mcc mLedger_settleOne) 84 = .ok (.iadd, 1) := o96 (byt_of hLedger_settleOne_b2 (j := 20) rfl)
theorem dLedger_settleOne_85 : decode (mcc mLedger_settleOne) 85 = .ok (.iaload, 1) := o46 (byt_of hLedger_settleOne_b2 (j := 21) rfl)
theorem dLedger_settleOne_86 : decode (mcc mLedger_settleOne) 86 = .ok (.invokestatic 169, 3) := o184 (a := 0) (b := 169) (byt_of hLedger_settleOne_b2 (j := 22) rfl) (byt_of hLedger_settleOne_b2 (j := 23) rfl) (byt_of hLedger_settleOne_b2 (j := 24) rfl) rfl
theorem dLedger_settleOne_89 : decode (mcc mLedger_settleOne) 89 = .ok (.iastore, 1) := o79 (byt_of hLedger_settleOne_b2 (j := 25) rfl)
theorem dLedger_settleOne_90 : decode (mcc mLedger_settleOne) 90 = .ok (.iinc 4 1, 3) := o132 (a := 4) (b := 1) (byt_of hLedger_settleOne_b2 (j := 26) rfl) (byt_of hLedger_settleOne_b2 (j := 27) rfl) (byt_of hLedger_settleOne_b2 (j := 28) rfl) rfl
theorem dLedger_settleOne_93 : decode (mcc mLedger_settleOne) 93 = .ok (.goto (-61), 3) := o167 (a := 255) (b := 195) (byt_of hLedger_settleOne_b2 (j := 29) rfl) (byt_of hLedger_settleOne_b2 (j := 30) rfl) (byt_of hLedger_settleOne_b2 (j := 31) rfl) rfl
def bLedger_settleOne_b3 : List Nat := [42, 27, 182, 0, 174, 42, 27, 182, 0, 177, 177]
theorem hLedger_settleOne_b3 : BL (mcc mLedger_settleOne) 96 bLedger_settleOne_b3 := by decide +kernel
theorem dLedger_settleOne_96 : decode (mcc mLedger_settleOne) 96 = .ok (.aload_n 0, 1) := o42 (byt_of hLedger_settleOne_b3 (j := 0) rfl)
theorem dLedger_settleOne_97 : decode (mcc mLedger_settleOne) 97 = .ok (.iload_n 1, 1) := o27 (byt_of hLedger_settleOne_b3 (j := 1) rfl)
theorem dLedger_settleOne_98 : decode (mcc mLedger_settleOne) 98 = .ok (.invokevirtual 174, 3) := o182 (a := 0) (b := 174) (byt_of hLedger_settleOne_b3 (j := 2) rfl) (byt_of hLedger_settleOne_b3 (j := 3) rfl) (byt_of hLedger_settleOne_b3 (j := 4) rfl) rfl
theorem dLedger_settleOne_101 : decode (mcc mLedger_settleOne) 101 = .ok (.aload_n 0, 1) := o42 (byt_of hLedger_settleOne_b3 (j := 5) rfl)
theorem dLedger_settleOne_102 : decode (mcc mLedger_settleOne) 102 = .ok (.iload_n 1, 1) := o27 (byt_of hLedger_settleOne_b3 (j := 6) rfl)
theorem dLedger_settleOne_103 : decode (mcc mLedger_settleOne) 103 = .ok (.invokevirtual 177, 3) := o182 (a := 0) (b := 177) (byt_of hLedger_settleOne_b3 (j := 7) rfl) (byt_of hLedger_settleOne_b3 (j := 8) rfl) (byt_of hLedger_settleOne_b3 (j := 9) rfl) rfl
theorem dLedger_settleOne_106 : decode (mcc mLedger_settleOne) 106 = .ok (.return_, 1) := o177 (byt_of hLedger_settleOne_b3 (j := 10) rfl)
def bLedger_strikeOut_b0 : List Nat := [42, 180, 0, 31, 27, 3, 79, 3, 61, 28, 42, 180, 0, 51, 180, 0, 180, 162, 0, 97, 42, 180, 0, 51, 180, 0, 181, 28, 46, 2, 159, 0, 78, 27, 16, 8, 104, 28]
theorem hLedger_strikeOut_b0 : BL (mcc mLedger_strikeOut) 0 bLedger_strikeOut_b0 := by decide +kernel
theorem dLedger_strikeOut_0 : decode (mcc mLedger_strikeOut) 0 = .ok (.aload_n 0, 1) := o42 (byt_of hLedger_strikeOut_b0 (j := 0) rfl)
theorem dLedger_strikeOut_1 : decode (mcc mLedger_strikeOut) 1 = .ok (.getfield 31, 3) := o180 (a := 0) (b := 31) (byt_of hLedger_strikeOut_b0 (j := 1) rfl) (byt_of hLedger_strikeOut_b0 (j := 2) rfl) (byt_of hLedger_strikeOut_b0 (j := 3) rfl) rfl
theorem dLedger_strikeOut_4 : decode (mcc mLedger_strikeOut) 4 = .ok (.iload_n 1, 1) := o27 (byt_of hLedger_strikeOut_b0 (j := 4) rfl)
theorem dLedger_strikeOut_5 : decode (mcc mLedger_strikeOut) 5 = .ok (.iconst 0, 1) := o3 (byt_of hLedger_strikeOut_b0 (j := 5) rfl)
theorem dLedger_strikeOut_6 : decode (mcc mLedger_strikeOut) 6 = .ok (.iastore, 1) := o79 (byt_of hLedger_strikeOut_b0 (j := 6) rfl)
theorem dLedger_strikeOut_7 : decode (mcc mLedger_strikeOut) 7 = .ok (.iconst 0, 1) := o3 (byt_of hLedger_strikeOut_b0 (j := 7) rfl)
theorem dLedger_strikeOut_8 : decode (mcc mLedger_strikeOut) 8 = .ok (.istore_n 2, 1) := o61 (byt_of hLedger_strikeOut_b0 (j := 8) rfl)
theorem dLedger_strikeOut_9 : decode (mcc mLedger_strikeOut) 9 = .ok (.iload_n 2, 1) := o28 (byt_of hLedger_strikeOut_b0 (j := 9) rfl)
theorem dLedger_strikeOut_10 : decode (mcc mLedger_strikeOut) 10 = .ok (.aload_n 0, 1) := o42 (byt_of hLedger_strikeOut_b0 (j := 10) rfl)
theorem dLedger_strikeOut_11 : decode (mcc mLedger_strikeOut) 11 = .ok (.getfield 51, 3) := o180 (a := 0) (b := 51) (byt_of hLedger_strikeOut_b0 (j := 11) rfl) (byt_of hLedger_strikeOut_b0 (j := 12) rfl) (byt_of hLedger_strikeOut_b0 (j := 13) rfl) rfl
theorem dLedger_strikeOut_14 : decode (mcc mLedger_strikeOut) 14 = .ok (.getfield 180, 3) := o180 (a := 0) (b := 180) (byt_of hLedger_strikeOut_b0 (j := 14) rfl) (byt_of hLedger_strikeOut_b0 (j := 15) rfl) (byt_of hLedger_strikeOut_b0 (j := 16) rfl) rfl
theorem dLedger_strikeOut_17 : decode (mcc mLedger_strikeOut) 17 = .ok (.if_icmp .ge 97, 3) := o162 (a := 0) (b := 97) (byt_of hLedger_strikeOut_b0 (j := 17) rfl) (byt_of hLedger_strikeOut_b0 (j := 18) rfl) (byt_of hLedger_strikeOut_b0 (j := 19) rfl) rfl
theorem dLedger_strikeOut_20 : decode (mcc mLedger_strikeOut) 20 = .ok (.aload_n 0, 1) := o42 (byt_of hLedger_strikeOut_b0 (j := 20) rfl)
theorem dLedger_strikeOut_21 : decode (mcc mLedger_strikeOut) 21 = .ok (.getfield 51, 3) := o180 (a := 0) (b := 51) (byt_of hLedger_strikeOut_b0 (j := 21) rfl) (byt_of hLedger_strikeOut_b0 (j := 22) rfl) (byt_of hLedger_strikeOut_b0 (j := 23) rfl) rfl
theorem dLedger_strikeOut_24 : decode (mcc mLedger_strikeOut) 24 = .ok (.getfield 181, 3) := o180 (a := 0) (b := 181) (byt_of hLedger_strikeOut_b0 (j := 24) rfl) (byt_of hLedger_strikeOut_b0 (j := 25) rfl) (byt_of hLedger_strikeOut_b0 (j := 26) rfl) rfl
theorem dLedger_strikeOut_27 : decode (mcc mLedger_strikeOut) 27 = .ok (.iload_n 2, 1) := o28 (byt_of hLedger_strikeOut_b0 (j := 27) rfl)
theorem dLedger_strikeOut_28 : decode (mcc mLedger_strikeOut) 28 = .ok (.iaload, 1) := o46 (byt_of hLedger_strikeOut_b0 (j := 28) rfl)
theorem dLedger_strikeOut_29 : decode (mcc mLedger_strikeOut) 29 = .ok (.iconst (-1), 1) := o2 (byt_of hLedger_strikeOut_b0 (j := 29) rfl)
theorem dLedger_strikeOut_30 : decode (mcc mLedger_strikeOut) 30 = .ok (.if_icmp .eq 78, 3) := o159 (a := 0) (b := 78) (byt_of hLedger_strikeOut_b0 (j := 30) rfl) (byt_of hLedger_strikeOut_b0 (j := 31) rfl) (byt_of hLedger_strikeOut_b0 (j := 32) rfl) rfl
def bLedger_strikeOut_b1 : List Nat := [78, 27, 16, 8, 104, 28, 96, 62, 27, 16, 8, 104, 42, 180, 0, 51, 180, 0, 181, 28, 46, 96, 54, 4, 42, 180, 0, 25, 29, 46, 42, 180, 0, 25, 21, 4, 46, 184]
theorem hLedger_strikeOut_b1 : BL (mcc mLedger_strikeOut) 32 bLedger_strikeOut_b1 := by decide +kernel
theorem dLedger_strikeOut_33 : decode (mcc mLedger_strikeOut) 33 = .ok (.iload_n 1, 1) := o27 (byt_of hLedger_strikeOut_b1 (j := 1) rfl)
theorem dLedger_strikeOut_34 : decode (mcc mLedger_strikeOut) 34 = .ok (.bipush 8, 2) := o16 (a := 8) (byt_of hLedger_strikeOut_b1 (j := 2) rfl) (byt_of hLedger_strikeOut_b1 (j := 3) rfl) rfl
theorem dLedger_strikeOut_36 : decode (mcc mLedger_strikeOut) 36 = .ok (.imul, 1) := o104 (byt_of hLedger_strikeOut_b1 (j := 4) rfl)
theorem dLedger_strikeOut_37 : decode (mcc mLedger_strikeOut) 37 = .ok (.iload_n 2, 1) := o28 (byt_of hLedger_strikeOut_b1 (j := 5) rfl)
theorem dLedger_strikeOut_38 : decode (mcc mLedger_strikeOut) 38 = .ok (.iadd, 1) := o96 (byt_of hLedger_strikeOut_b1 (j := 6) rfl)
theorem dLedger_strikeOut_39 : decode (mcc mLedger_strikeOut) 39 = .ok (.istore_n 3, 1) := o62 (byt_of hLedger_strikeOut_b1 (j := 7) rfl)
theorem dLedger_strikeOut_40 : decode (mcc mLedger_strikeOut) 40 = .ok (.iload_n 1, 1) := o27 (byt_of hLedger_strikeOut_b1 (j := 8) rfl)
theorem dLedger_strikeOut_41 : decode (mcc mLedger_strikeOut) 41 = .ok (.bipush 8, 2) := o16 (a := 8) (byt_of hLedger_strikeOut_b1 (j := 9) rfl) (byt_of hLedger_strikeOut_b1 (j := 10) rfl) rfl
theorem dLedger_strikeOut_43 : decode (mcc mLedger_strikeOut) 43 = .ok (.imul, 1) := o104 (byt_of hLedger_strikeOut_b1 (j := 11) rfl)
theorem dLedger_strikeOut_44 : decode (mcc mLedger_strikeOut) 44 = .ok (.aload_n 0, 1) := o42 (byt_of hLedger_strikeOut_b1 (j := 12) rfl)
theorem dLedger_strikeOut_45 : decode (mcc mLedger_strikeOut) 45 = .ok (.getfield 51, 3) := o180 (a := 0) (b := 51) (byt_of hLedger_strikeOut_b1 (j := 13) rfl) (byt_of hLedger_strikeOut_b1 (j := 14) rfl) (byt_of hLedger_strikeOut_b1 (j := 15) rfl) rfl
theorem dLedger_strikeOut_48 : decode (mcc mLedger_strikeOut) 48 = .ok (.getfield 181, 3) := o180 (a := 0) (b := 181) (byt_of hLedger_strikeOut_b1 (j := 16) rfl) (byt_of hLedger_strikeOut_b1 (j := 17) rfl) (byt_of hLedger_strikeOut_b1 (j := 18) rfl) rfl
theorem dLedger_strikeOut_51 : decode (mcc mLedger_strikeOut) 51 = .ok (.iload_n 2, 1) := o28 (byt_of hLedger_strikeOut_b1 (j := 19) rfl)
theorem dLedger_strikeOut_52 : decode (mcc mLedger_strikeOut) 52 = .ok (.iaload, 1) := o46 (byt_of hLedger_strikeOut_b1 (j := 20) rfl)
theorem dLedger_strikeOut_53 : decode (mcc mLedger_strikeOut) 53 = .ok (.iadd, 1) := o96 (byt_of hLedger_strikeOut_b1 (j := 21) rfl)
theorem dLedger_strikeOut_54 : decode (mcc mLedger_strikeOut) 54 = .ok (.istore 4, 2) := o54 (a := 4) (byt_of hLedger_strikeOut_b1 (j := 22) rfl) (byt_of hLedger_strikeOut_b1 (j := 23) rfl)
theorem dLedger_strikeOut_56 : decode (mcc mLedger_strikeOut) 56 = .ok (.aload_n 0, 1) := o42 (byt_of hLedger_strikeOut_b1 (j := 24) rfl)
theorem dLedger_strikeOut_57 : decode (mcc mLedger_strikeOut) 57 = .ok (.getfield 25, 3) := o180 (a := 0) (b := 25) (byt_of hLedger_strikeOut_b1 (j := 25) rfl) (byt_of hLedger_strikeOut_b1 (j := 26) rfl) (byt_of hLedger_strikeOut_b1 (j := 27) rfl) rfl
theorem dLedger_strikeOut_60 : decode (mcc mLedger_strikeOut) 60 = .ok (.iload_n 3, 1) := o29 (byt_of hLedger_strikeOut_b1 (j := 28) rfl)
theorem dLedger_strikeOut_61 : decode (mcc mLedger_strikeOut) 61 = .ok (.iaload, 1) := o46 (byt_of hLedger_strikeOut_b1 (j := 29) rfl)
theorem dLedger_strikeOut_62 : decode (mcc mLedger_strikeOut) 62 = .ok (.aload_n 0, 1) := o42 (byt_of hLedger_strikeOut_b1 (j := 30) rfl)
theorem dLedger_strikeOut_63 : decode (mcc mLedger_strikeOut) 63 = .ok (.getfield 25, 3) := o180 (a := 0) (b := 25) (byt_of hLedger_strikeOut_b1 (j := 31) rfl) (byt_of hLedger_strikeOut_b1 (j := 32) rfl) (byt_of hLedger_strikeOut_b1 (j := 33) rfl) rfl
def bLedger_strikeOut_b2 : List Nat := [0, 25, 21, 4, 46, 184, 0, 184, 54, 5, 42, 180, 0, 25, 29, 92, 46, 21, 5, 100, 79, 42, 180, 0, 25, 21, 4, 92, 46, 21, 5, 100, 79, 42, 180, 0, 31, 27]
theorem hLedger_strikeOut_b2 : BL (mcc mLedger_strikeOut) 64 bLedger_strikeOut_b2 := by decide +kernel
theorem dLedger_strikeOut_66 : decode (mcc mLedger_strikeOut) 66 = .ok (.iload 4, 2) := o21 (a := 4) (byt_of hLedger_strikeOut_b2 (j := 2) rfl) (byt_of hLedger_strikeOut_b2 (j := 3) rfl)
theorem dLedger_strikeOut_68 : decode (mcc mLedger_strikeOut) 68 = .ok (.iaload, 1) := o46 (byt_of hLedger_strikeOut_b2 (j := 4) rfl)
theorem dLedger_strikeOut_69 : decode (mcc mLedger_strikeOut) 69 = .ok (.invokestatic 184, 3) := o184 (a := 0) (b := 184) (byt_of hLedger_strikeOut_b2 (j := 5) rfl) (byt_of hLedger_strikeOut_b2 (j := 6) rfl) (byt_of hLedger_strikeOut_b2 (j := 7) rfl) rfl
theorem dLedger_strikeOut_72 : decode (mcc mLedger_strikeOut) 72 = .ok (.istore 5, 2) := o54 (a := 5) (byt_of hLedger_strikeOut_b2 (j := 8) rfl) (byt_of hLedger_strikeOut_b2 (j := 9) rfl)
theorem dLedger_strikeOut_74 : decode (mcc mLedger_strikeOut) 74 = .ok (.aload_n 0, 1) := o42 (byt_of hLedger_strikeOut_b2 (j := 10) rfl)
theorem dLedger_strikeOut_75 : decode (mcc mLedger_strikeOut) 75 = .ok (.getfield 25, 3) := o180 (a := 0) (b := 25) (byt_of hLedger_strikeOut_b2 (j := 11) rfl) (byt_of hLedger_strikeOut_b2 (j := 12) rfl) (byt_of hLedger_strikeOut_b2 (j := 13) rfl) rfl
theorem dLedger_strikeOut_78 : decode (mcc mLedger_strikeOut) 78 = .ok (.iload_n 3, 1) := o29 (byt_of hLedger_strikeOut_b2 (j := 14) rfl)
theorem dLedger_strikeOut_79 : decode (mcc mLedger_strikeOut) 79 = .ok (.dup2, 1) := o92 (byt_of hLedger_strikeOut_b2 (j := 15) rfl)
theorem dLedger_strikeOut_80 : decode (mcc mLedger_strikeOut) 80 = .ok (.iaload, 1) := o46 (byt_of hLedger_strikeOut_b2 (j := 16) rfl)
theorem dLedger_strikeOut_81 : decode (mcc mLedger_strikeOut) 81 = .ok (.iload 5, 2) := o21 (a := 5) (byt_of hLedger_strikeOut_b2 (j := 17) rfl) (byt_of hLedger_strikeOut_b2 (j := 18) rfl)
theorem dLedger_strikeOut_83 : decode (mcc mLedger_strikeOut) 83 = .ok (.isub, 1) := o100 (byt_of hLedger_strikeOut_b2 (j := 19) rfl)
theorem dLedger_strikeOut_84 : decode (mcc mLedger_strikeOut) 84 = .ok (.iastore, 1) := o79 (byt_of hLedger_strikeOut_b2 (j := 20) rfl)
theorem dLedger_strikeOut_85 : decode (mcc mLedger_strikeOut) 85 = .ok (.aload_n 0, 1) := o42 (byt_of hLedger_strikeOut_b2 (j := 21) rfl)
theorem dLedger_strikeOut_86 : decode (mcc mLedger_strikeOut) 86 = .ok (.getfield 25, 3) := o180 (a := 0) (b := 25) (byt_of hLedger_strikeOut_b2 (j := 22) rfl) (byt_of hLedger_strikeOut_b2 (j := 23) rfl) (byt_of hLedger_strikeOut_b2 (j := 24) rfl) rfl
theorem dLedger_strikeOut_89 : decode (mcc mLedger_strikeOut) 89 = .ok (.iload 4, 2) := o21 (a := 4) (byt_of hLedger_strikeOut_b2 (j := 25) rfl) (byt_of hLedger_strikeOut_b2 (j := 26) rfl)
theorem dLedger_strikeOut_91 : decode (mcc mLedger_strikeOut) 91 = .ok (.dup2, 1) := o92 (byt_of hLedger_strikeOut_b2 (j := 27) rfl)
theorem dLedger_strikeOut_92 : decode (mcc mLedger_strikeOut) 92 = .ok (.iaload, 1) := o46 (byt_of hLedger_strikeOut_b2 (j := 28) rfl)
theorem dLedger_strikeOut_93 : decode (mcc mLedger_strikeOut) 93 = .ok (.iload 5, 2) := o21 (a := 5) (byt_of hLedger_strikeOut_b2 (j := 29) rfl) (byt_of hLedger_strikeOut_b2 (j := 30) rfl)
theorem dLedger_strikeOut_95 : decode (mcc mLedger_strikeOut) 95 = .ok (.isub, 1) := o100 (byt_of hLedger_strikeOut_b2 (j := 31) rfl)
def bLedger_strikeOut_b3 : List Nat := [79, 42, 180, 0, 31, 27, 92, 46, 21, 5, 96, 79, 132, 2, 1, 167, 255, 154, 177]
theorem hLedger_strikeOut_b3 : BL (mcc mLedger_strikeOut) 96 bLedger_strikeOut_b3 := by decide +kernel
theorem dLedger_strikeOut_96 : decode (mcc mLedger_strikeOut) 96 = .ok (.iastore, 1) := o79 (byt_of hLedger_strikeOut_b3 (j := 0) rfl)
theorem dLedger_strikeOut_97 : decode (mcc mLedger_strikeOut) 97 = .ok (.aload_n 0, 1) := o42 (byt_of hLedger_strikeOut_b3 (j := 1) rfl)
theorem dLedger_strikeOut_98 : decode (mcc mLedger_strikeOut) 98 = .ok (.getfield 31, 3) := o180 (a := 0) (b := 31) (byt_of hLedger_strikeOut_b3 (j := 2) rfl) (byt_of hLedger_strikeOut_b3 (j := 3) rfl) (byt_of hLedger_strikeOut_b3 (j := 4) rfl) rfl
theorem dLedger_strikeOut_101 : decode (mcc mLedger_strikeOut) 101 = .ok (.iload_n 1, 1) := o27 (byt_of hLedger_strikeOut_b3 (j := 5) rfl)
theorem dLedger_strikeOut_102 : decode (mcc mLedger_strikeOut) 102 = .ok (.dup2, 1) := o92 (byt_of hLedger_strikeOut_b3 (j := 6) rfl)
theorem dLedger_strikeOut_103 : decode (mcc mLedger_strikeOut) 103 = .ok (.iaload, 1) := o46 (byt_of hLedger_strikeOut_b3 (j := 7) rfl)
theorem dLedger_strikeOut_104 : decode (mcc mLedger_strikeOut) 104 = .ok (.iload 5, 2) := o21 (a := 5) (byt_of hLedger_strikeOut_b3 (j := 8) rfl) (byt_of hLedger_strikeOut_b3 (j := 9) rfl)
theorem dLedger_strikeOut_106 : decode (mcc mLedger_strikeOut) 106 = .ok (.iadd, 1) := o96 (byt_of hLedger_strikeOut_b3 (j := 10) rfl)
theorem dLedger_strikeOut_107 : decode (mcc mLedger_strikeOut) 107 = .ok (.iastore, 1) := o79 (byt_of hLedger_strikeOut_b3 (j := 11) rfl)
theorem dLedger_strikeOut_108 : decode (mcc mLedger_strikeOut) 108 = .ok (.iinc 2 1, 3) := o132 (a := 2) (b := 1) (byt_of hLedger_strikeOut_b3 (j := 12) rfl) (byt_of hLedger_strikeOut_b3 (j := 13) rfl) (byt_of hLedger_strikeOut_b3 (j := 14) rfl) rfl
theorem dLedger_strikeOut_111 : decode (mcc mLedger_strikeOut) 111 = .ok (.goto (-102), 3) := o167 (a := 255) (b := 154) (byt_of hLedger_strikeOut_b3 (j := 15) rfl) (byt_of hLedger_strikeOut_b3 (j := 16) rfl) (byt_of hLedger_strikeOut_b3 (j := 17) rfl) rfl
theorem dLedger_strikeOut_114 : decode (mcc mLedger_strikeOut) 114 = .ok (.return_, 1) := o177 (byt_of hLedger_strikeOut_b3 (j := 18) rfl)
def bLedger_cutToRoom_b0 : List Nat := [42, 180, 0, 47, 180, 0, 187, 27, 46, 61, 42, 180, 0, 34, 27, 3, 79, 3, 62, 29, 42, 180, 0, 51, 180, 0, 180, 162, 0, 65, 27, 16, 8, 104, 29, 96, 54, 4]
theorem hLedger_cutToRoom_b0 : BL (mcc mLedger_cutToRoom) 0 bLedger_cutToRoom_b0 := by decide +kernel
theorem dLedger_cutToRoom_0 : decode (mcc mLedger_cutToRoom) 0 = .ok (.aload_n 0, 1) := o42 (byt_of hLedger_cutToRoom_b0 (j := 0) rfl)
theorem dLedger_cutToRoom_1 : decode (mcc mLedger_cutToRoom) 1 = .ok (.getfield 47, 3) := o180 (a := 0) (b := 47) (byt_of hLedger_cutToRoom_b0 (j := 1) rfl) (byt_of hLedger_cutToRoom_b0 (j := 2) rfl) (byt_of hLedger_cutToRoom_b0 (j := 3) rfl) rfl
theorem dLedger_cutToRoom_4 : decode (mcc mLedger_cutToRoom) 4 = .ok (.getfield 187, 3) := o180 (a := 0) (b := 187) (byt_of hLedger_cutToRoom_b0 (j := 4) rfl) (byt_of hLedger_cutToRoom_b0 (j := 5) rfl) (byt_of hLedger_cutToRoom_b0 (j := 6) rfl) rfl
theorem dLedger_cutToRoom_7 : decode (mcc mLedger_cutToRoom) 7 = .ok (.iload_n 1, 1) := o27 (byt_of hLedger_cutToRoom_b0 (j := 7) rfl)
theorem dLedger_cutToRoom_8 : decode (mcc mLedger_cutToRoom) 8 = .ok (.iaload, 1) := o46 (byt_of hLedger_cutToRoom_b0 (j := 8) rfl)
theorem dLedger_cutToRoom_9 : decode (mcc mLedger_cutToRoom) 9 = .ok (.istore_n 2, 1) := o61 (byt_of hLedger_cutToRoom_b0 (j := 9) rfl)
theorem dLedger_cutToRoom_10 : decode (mcc mLedger_cutToRoom) 10 = .ok (.aload_n 0, 1) := o42 (byt_of hLedger_cutToRoom_b0 (j := 10) rfl)
theorem dLedger_cutToRoom_11 : decode (mcc mLedger_cutToRoom) 11 = .ok (.getfield 34, 3) := o180 (a := 0) (b := 34) (byt_of hLedger_cutToRoom_b0 (j := 11) rfl) (byt_of hLedger_cutToRoom_b0 (j := 12) rfl) (byt_of hLedger_cutToRoom_b0 (j := 13) rfl) rfl
theorem dLedger_cutToRoom_14 : decode (mcc mLedger_cutToRoom) 14 = .ok (.iload_n 1, 1) := o27 (byt_of hLedger_cutToRoom_b0 (j := 14) rfl)
theorem dLedger_cutToRoom_15 : decode (mcc mLedger_cutToRoom) 15 = .ok (.iconst 0, 1) := o3 (byt_of hLedger_cutToRoom_b0 (j := 15) rfl)
theorem dLedger_cutToRoom_16 : decode (mcc mLedger_cutToRoom) 16 = .ok (.iastore, 1) := o79 (byt_of hLedger_cutToRoom_b0 (j := 16) rfl)
theorem dLedger_cutToRoom_17 : decode (mcc mLedger_cutToRoom) 17 = .ok (.iconst 0, 1) := o3 (byt_of hLedger_cutToRoom_b0 (j := 17) rfl)
theorem dLedger_cutToRoom_18 : decode (mcc mLedger_cutToRoom) 18 = .ok (.istore_n 3, 1) := o62 (byt_of hLedger_cutToRoom_b0 (j := 18) rfl)
theorem dLedger_cutToRoom_19 : decode (mcc mLedger_cutToRoom) 19 = .ok (.iload_n 3, 1) := o29 (byt_of hLedger_cutToRoom_b0 (j := 19) rfl)
theorem dLedger_cutToRoom_20 : decode (mcc mLedger_cutToRoom) 20 = .ok (.aload_n 0, 1) := o42 (byt_of hLedger_cutToRoom_b0 (j := 20) rfl)
theorem dLedger_cutToRoom_21 : decode (mcc mLedger_cutToRoom) 21 = .ok (.getfield 51, 3) := o180 (a := 0) (b := 51) (byt_of hLedger_cutToRoom_b0 (j := 21) rfl) (byt_of hLedger_cutToRoom_b0 (j := 22) rfl) (byt_of hLedger_cutToRoom_b0 (j := 23) rfl) rfl
theorem dLedger_cutToRoom_24 : decode (mcc mLedger_cutToRoom) 24 = .ok (.getfield 180, 3) := o180 (a := 0) (b := 180) (byt_of hLedger_cutToRoom_b0 (j := 24) rfl) (byt_of hLedger_cutToRoom_b0 (j := 25) rfl) (byt_of hLedger_cutToRoom_b0 (j := 26) rfl) rfl
theorem dLedger_cutToRoom_27 : decode (mcc mLedger_cutToRoom) 27 = .ok (.if_icmp .ge 65, 3) := o162 (a := 0) (b := 65) (byt_of hLedger_cutToRoom_b0 (j := 27) rfl) (byt_of hLedger_cutToRoom_b0 (j := 28) rfl) (byt_of hLedger_cutToRoom_b0 (j := 29) rfl) rfl
theorem dLedger_cutToRoom_30 : decode (mcc mLedger_cutToRoom) 30 = .ok (.iload_n 1, 1) := o27 (byt_of hLedger_cutToRoom_b0 (j := 30) rfl)
theorem dLedger_cutToRoom_31 : decode (mcc mLedger_cutToRoom) 31 = .ok (.bipush 8, 2) := o16 (a := 8) (byt_of hLedger_cutToRoom_b0 (j := 31) rfl) (byt_of hLedger_cutToRoom_b0 (j := 32) rfl) rfl
def bLedger_cutToRoom_b1 : List Nat := [8, 104, 29, 96, 54, 4, 3, 42, 180, 0, 25, 21, 4, 46, 28, 100, 184, 0, 169, 54, 5, 42, 180, 0, 25, 21, 4, 92, 46, 21, 5, 100, 79, 28, 42, 180, 0, 25]
theorem hLedger_cutToRoom_b1 : BL (mcc mLedger_cutToRoom) 32 bLedger_cutToRoom_b1 := by decide +kernel
theorem dLedger_cutToRoom_33 : decode (mcc mLedger_cutToRoom) 33 = .ok (.imul, 1) := o104 (byt_of hLedger_cutToRoom_b1 (j := 1) rfl)
theorem dLedger_cutToRoom_34 : decode (mcc mLedger_cutToRoom) 34 = .ok (.iload_n 3, 1) := o29 (byt_of hLedger_cutToRoom_b1 (j := 2) rfl)
theorem dLedger_cutToRoom_35 : decode (mcc mLedger_cutToRoom) 35 = .ok (.iadd, 1) := o96 (byt_of hLedger_cutToRoom_b1 (j := 3) rfl)
theorem dLedger_cutToRoom_36 : decode (mcc mLedger_cutToRoom) 36 = .ok (.istore 4, 2) := o54 (a := 4) (byt_of hLedger_cutToRoom_b1 (j := 4) rfl) (byt_of hLedger_cutToRoom_b1 (j := 5) rfl)
theorem dLedger_cutToRoom_38 : decode (mcc mLedger_cutToRoom) 38 = .ok (.iconst 0, 1) := o3 (byt_of hLedger_cutToRoom_b1 (j := 6) rfl)
theorem dLedger_cutToRoom_39 : decode (mcc mLedger_cutToRoom) 39 = .ok (.aload_n 0, 1) := o42 (byt_of hLedger_cutToRoom_b1 (j := 7) rfl)
theorem dLedger_cutToRoom_40 : decode (mcc mLedger_cutToRoom) 40 = .ok (.getfield 25, 3) := o180 (a := 0) (b := 25) (byt_of hLedger_cutToRoom_b1 (j := 8) rfl) (byt_of hLedger_cutToRoom_b1 (j := 9) rfl) (byt_of hLedger_cutToRoom_b1 (j := 10) rfl) rfl
theorem dLedger_cutToRoom_43 : decode (mcc mLedger_cutToRoom) 43 = .ok (.iload 4, 2) := o21 (a := 4) (byt_of hLedger_cutToRoom_b1 (j := 11) rfl) (byt_of hLedger_cutToRoom_b1 (j := 12) rfl)
theorem dLedger_cutToRoom_45 : decode (mcc mLedger_cutToRoom) 45 = .ok (.iaload, 1) := o46 (byt_of hLedger_cutToRoom_b1 (j := 13) rfl)
theorem dLedger_cutToRoom_46 : decode (mcc mLedger_cutToRoom) 46 = .ok (.iload_n 2, 1) := o28 (byt_of hLedger_cutToRoom_b1 (j := 14) rfl)
theorem dLedger_cutToRoom_47 : decode (mcc mLedger_cutToRoom) 47 = .ok (.isub, 1) := o100 (byt_of hLedger_cutToRoom_b1 (j := 15) rfl)
theorem dLedger_cutToRoom_48 : decode (mcc mLedger_cutToRoom) 48 = .ok (.invokestatic 169, 3) := o184 (a := 0) (b := 169) (byt_of hLedger_cutToRoom_b1 (j := 16) rfl) (byt_of hLedger_cutToRoom_b1 (j := 17) rfl) (byt_of hLedger_cutToRoom_b1 (j := 18) rfl) rfl
theorem dLedger_cutToRoom_51 : decode (mcc mLedger_cutToRoom) 51 = .ok (.istore 5, 2) := o54 (a := 5) (byt_of hLedger_cutToRoom_b1 (j := 19) rfl) (byt_of hLedger_cutToRoom_b1 (j := 20) rfl)
theorem dLedger_cutToRoom_53 : decode (mcc mLedger_cutToRoom) 53 = .ok (.aload_n 0, 1) := o42 (byt_of hLedger_cutToRoom_b1 (j := 21) rfl)
theorem dLedger_cutToRoom_54 : decode (mcc mLedger_cutToRoom) 54 = .ok (.getfield 25, 3) := o180 (a := 0) (b := 25) (byt_of hLedger_cutToRoom_b1 (j := 22) rfl) (byt_of hLedger_cutToRoom_b1 (j := 23) rfl) (byt_of hLedger_cutToRoom_b1 (j := 24) rfl) rfl
theorem dLedger_cutToRoom_57 : decode (mcc mLedger_cutToRoom) 57 = .ok (.iload 4, 2) := o21 (a := 4) (byt_of hLedger_cutToRoom_b1 (j := 25) rfl) (byt_of hLedger_cutToRoom_b1 (j := 26) rfl)
theorem dLedger_cutToRoom_59 : decode (mcc mLedger_cutToRoom) 59 = .ok (.dup2, 1) := o92 (byt_of hLedger_cutToRoom_b1 (j := 27) rfl)
theorem dLedger_cutToRoom_60 : decode (mcc mLedger_cutToRoom) 60 = .ok (.iaload, 1) := o46 (byt_of hLedger_cutToRoom_b1 (j := 28) rfl)
theorem dLedger_cutToRoom_61 : decode (mcc mLedger_cutToRoom) 61 = .ok (.iload 5, 2) := o21 (a := 5) (byt_of hLedger_cutToRoom_b1 (j := 29) rfl) (byt_of hLedger_cutToRoom_b1 (j := 30) rfl)
theorem dLedger_cutToRoom_63 : decode (mcc mLedger_cutToRoom) 63 = .ok (.isub, 1) := o100 (byt_of hLedger_cutToRoom_b1 (j := 31) rfl)
def bLedger_cutToRoom_b2 : List Nat := [79, 28, 42, 180, 0, 25, 21, 4, 46, 100, 61, 42, 180, 0, 34, 27, 92, 46, 21, 5, 96, 79, 132, 3, 1, 167, 255, 186, 42, 180, 0, 28, 27, 42, 180, 0, 47, 180]
theorem hLedger_cutToRoom_b2 : BL (mcc mLedger_cutToRoom) 64 bLedger_cutToRoom_b2 := by decide +kernel
theorem dLedger_cutToRoom_64 : decode (mcc mLedger_cutToRoom) 64 = .ok (.iastore, 1) := o79 (byt_of hLedger_cutToRoom_b2 (j := 0) rfl)
theorem dLedger_cutToRoom_65 : decode (mcc mLedger_cutToRoom) 65 = .ok (.iload_n 2, 1) := o28 (byt_of hLedger_cutToRoom_b2 (j := 1) rfl)
theorem dLedger_cutToRoom_66 : decode (mcc mLedger_cutToRoom) 66 = .ok (.aload_n 0, 1) := o42 (byt_of hLedger_cutToRoom_b2 (j := 2) rfl)
theorem dLedger_cutToRoom_67 : decode (mcc mLedger_cutToRoom) 67 = .ok (.getfield 25, 3) := o180 (a := 0) (b := 25) (byt_of hLedger_cutToRoom_b2 (j := 3) rfl) (byt_of hLedger_cutToRoom_b2 (j := 4) rfl) (byt_of hLedger_cutToRoom_b2 (j := 5) rfl) rfl
theorem dLedger_cutToRoom_70 : decode (mcc mLedger_cutToRoom) 70 = .ok (.iload 4, 2) := o21 (a := 4) (byt_of hLedger_cutToRoom_b2 (j := 6) rfl) (byt_of hLedger_cutToRoom_b2 (j := 7) rfl)
theorem dLedger_cutToRoom_72 : decode (mcc mLedger_cutToRoom) 72 = .ok (.iaload, 1) := o46 (byt_of hLedger_cutToRoom_b2 (j := 8) rfl)
theorem dLedger_cutToRoom_73 : decode (mcc mLedger_cutToRoom) 73 = .ok (.isub, 1) := o100 (byt_of hLedger_cutToRoom_b2 (j := 9) rfl)
theorem dLedger_cutToRoom_74 : decode (mcc mLedger_cutToRoom) 74 = .ok (.istore_n 2, 1) := o61 (byt_of hLedger_cutToRoom_b2 (j := 10) rfl)
theorem dLedger_cutToRoom_75 : decode (mcc mLedger_cutToRoom) 75 = .ok (.aload_n 0, 1) := o42 (byt_of hLedger_cutToRoom_b2 (j := 11) rfl)
theorem dLedger_cutToRoom_76 : decode (mcc mLedger_cutToRoom) 76 = .ok (.getfield 34, 3) := o180 (a := 0) (b := 34) (byt_of hLedger_cutToRoom_b2 (j := 12) rfl) (byt_of hLedger_cutToRoom_b2 (j := 13) rfl) (byt_of hLedger_cutToRoom_b2 (j := 14) rfl) rfl
theorem dLedger_cutToRoom_79 : decode (mcc mLedger_cutToRoom) 79 = .ok (.iload_n 1, 1) := o27 (byt_of hLedger_cutToRoom_b2 (j := 15) rfl)
theorem dLedger_cutToRoom_80 : decode (mcc mLedger_cutToRoom) 80 = .ok (.dup2, 1) := o92 (byt_of hLedger_cutToRoom_b2 (j := 16) rfl)
theorem dLedger_cutToRoom_81 : decode (mcc mLedger_cutToRoom) 81 = .ok (.iaload, 1) := o46 (byt_of hLedger_cutToRoom_b2 (j := 17) rfl)
theorem dLedger_cutToRoom_82 : decode (mcc mLedger_cutToRoom) 82 = .ok (.iload 5, 2) := o21 (a := 5) (byt_of hLedger_cutToRoom_b2 (j := 18) rfl) (byt_of hLedger_cutToRoom_b2 (j := 19) rfl)
theorem dLedger_cutToRoom_84 : decode (mcc mLedger_cutToRoom) 84 = .ok (.iadd, 1) := o96 (byt_of hLedger_cutToRoom_b2 (j := 20) rfl)
theorem dLedger_cutToRoom_85 : decode (mcc mLedger_cutToRoom) 85 = .ok (.iastore, 1) := o79 (byt_of hLedger_cutToRoom_b2 (j := 21) rfl)
theorem dLedger_cutToRoom_86 : decode (mcc mLedger_cutToRoom) 86 = .ok (.iinc 3 1, 3) := o132 (a := 3) (b := 1) (byt_of hLedger_cutToRoom_b2 (j := 22) rfl) (byt_of hLedger_cutToRoom_b2 (j := 23) rfl) (byt_of hLedger_cutToRoom_b2 (j := 24) rfl) rfl
theorem dLedger_cutToRoom_89 : decode (mcc mLedger_cutToRoom) 89 = .ok (.goto (-70), 3) := o167 (a := 255) (b := 186) (byt_of hLedger_cutToRoom_b2 (j := 25) rfl) (byt_of hLedger_cutToRoom_b2 (j := 26) rfl) (byt_of hLedger_cutToRoom_b2 (j := 27) rfl) rfl
theorem dLedger_cutToRoom_92 : decode (mcc mLedger_cutToRoom) 92 = .ok (.aload_n 0, 1) := o42 (byt_of hLedger_cutToRoom_b2 (j := 28) rfl)
theorem dLedger_cutToRoom_93 : decode (mcc mLedger_cutToRoom) 93 = .ok (.getfield 28, 3) := o180 (a := 0) (b := 28) (byt_of hLedger_cutToRoom_b2 (j := 29) rfl) (byt_of hLedger_cutToRoom_b2 (j := 30) rfl) (byt_of hLedger_cutToRoom_b2 (j := 31) rfl) rfl
def bLedger_cutToRoom_b3 : List Nat := [27, 42, 180, 0, 47, 180, 0, 187, 27, 46, 28, 100, 79, 177]
theorem hLedger_cutToRoom_b3 : BL (mcc mLedger_cutToRoom) 96 bLedger_cutToRoom_b3 := by decide +kernel
theorem dLedger_cutToRoom_96 : decode (mcc mLedger_cutToRoom) 96 = .ok (.iload_n 1, 1) := o27 (byt_of hLedger_cutToRoom_b3 (j := 0) rfl)
theorem dLedger_cutToRoom_97 : decode (mcc mLedger_cutToRoom) 97 = .ok (.aload_n 0, 1) := o42 (byt_of hLedger_cutToRoom_b3 (j := 1) rfl)
theorem dLedger_cutToRoom_98 : decode (mcc mLedger_cutToRoom) 98 = .ok (.getfield 47, 3) := o180 (a := 0) (b := 47) (byt_of hLedger_cutToRoom_b3 (j := 2) rfl) (byt_of hLedger_cutToRoom_b3 (j := 3) rfl) (byt_of hLedger_cutToRoom_b3 (j := 4) rfl) rfl
theorem dLedger_cutToRoom_101 : decode (mcc mLedger_cutToRoom) 101 = .ok (.getfield 187, 3) := o180 (a := 0) (b := 187) (byt_of hLedger_cutToRoom_b3 (j := 5) rfl) (byt_of hLedger_cutToRoom_b3 (j := 6) rfl) (byt_of hLedger_cutToRoom_b3 (j := 7) rfl) rfl
theorem dLedger_cutToRoom_104 : decode (mcc mLedger_cutToRoom) 104 = .ok (.iload_n 1, 1) := o27 (byt_of hLedger_cutToRoom_b3 (j := 8) rfl)
theorem dLedger_cutToRoom_105 : decode (mcc mLedger_cutToRoom) 105 = .ok (.iaload, 1) := o46 (byt_of hLedger_cutToRoom_b3 (j := 9) rfl)
theorem dLedger_cutToRoom_106 : decode (mcc mLedger_cutToRoom) 106 = .ok (.iload_n 2, 1) := o28 (byt_of hLedger_cutToRoom_b3 (j := 10) rfl)
theorem dLedger_cutToRoom_107 : decode (mcc mLedger_cutToRoom) 107 = .ok (.isub, 1) := o100 (byt_of hLedger_cutToRoom_b3 (j := 11) rfl)
theorem dLedger_cutToRoom_108 : decode (mcc mLedger_cutToRoom) 108 = .ok (.iastore, 1) := o79 (byt_of hLedger_cutToRoom_b3 (j := 12) rfl)
theorem dLedger_cutToRoom_109 : decode (mcc mLedger_cutToRoom) 109 = .ok (.return_, 1) := o177 (byt_of hLedger_cutToRoom_b3 (j := 13) rfl)
def bLedger_doneOf_b0 : List Nat := [3, 61, 3, 62, 29, 42, 180, 0, 47, 180, 0, 82, 162, 0, 43, 42, 180, 0, 47, 29, 42, 180, 0, 51, 180, 0, 158, 27, 46, 182, 0, 161, 153, 0, 17, 28, 42, 180]
theorem hLedger_doneOf_b0 : BL (mcc mLedger_doneOf) 0 bLedger_doneOf_b0 := by decide +kernel
theorem dLedger_doneOf_0 : decode (mcc mLedger_doneOf) 0 = .ok (.iconst 0, 1) := o3 (byt_of hLedger_doneOf_b0 (j := 0) rfl)
theorem dLedger_doneOf_1 : decode (mcc mLedger_doneOf) 1 = .ok (.istore_n 2, 1) := o61 (byt_of hLedger_doneOf_b0 (j := 1) rfl)
theorem dLedger_doneOf_2 : decode (mcc mLedger_doneOf) 2 = .ok (.iconst 0, 1) := o3 (byt_of hLedger_doneOf_b0 (j := 2) rfl)
theorem dLedger_doneOf_3 : decode (mcc mLedger_doneOf) 3 = .ok (.istore_n 3, 1) := o62 (byt_of hLedger_doneOf_b0 (j := 3) rfl)
theorem dLedger_doneOf_4 : decode (mcc mLedger_doneOf) 4 = .ok (.iload_n 3, 1) := o29 (byt_of hLedger_doneOf_b0 (j := 4) rfl)
theorem dLedger_doneOf_5 : decode (mcc mLedger_doneOf) 5 = .ok (.aload_n 0, 1) := o42 (byt_of hLedger_doneOf_b0 (j := 5) rfl)
theorem dLedger_doneOf_6 : decode (mcc mLedger_doneOf) 6 = .ok (.getfield 47, 3) := o180 (a := 0) (b := 47) (byt_of hLedger_doneOf_b0 (j := 6) rfl) (byt_of hLedger_doneOf_b0 (j := 7) rfl) (byt_of hLedger_doneOf_b0 (j := 8) rfl) rfl
theorem dLedger_doneOf_9 : decode (mcc mLedger_doneOf) 9 = .ok (.getfield 82, 3) := o180 (a := 0) (b := 82) (byt_of hLedger_doneOf_b0 (j := 9) rfl) (byt_of hLedger_doneOf_b0 (j := 10) rfl) (byt_of hLedger_doneOf_b0 (j := 11) rfl) rfl
theorem dLedger_doneOf_12 : decode (mcc mLedger_doneOf) 12 = .ok (.if_icmp .ge 43, 3) := o162 (a := 0) (b := 43) (byt_of hLedger_doneOf_b0 (j := 12) rfl) (byt_of hLedger_doneOf_b0 (j := 13) rfl) (byt_of hLedger_doneOf_b0 (j := 14) rfl) rfl
theorem dLedger_doneOf_15 : decode (mcc mLedger_doneOf) 15 = .ok (.aload_n 0, 1) := o42 (byt_of hLedger_doneOf_b0 (j := 15) rfl)
theorem dLedger_doneOf_16 : decode (mcc mLedger_doneOf) 16 = .ok (.getfield 47, 3) := o180 (a := 0) (b := 47) (byt_of hLedger_doneOf_b0 (j := 16) rfl) (byt_of hLedger_doneOf_b0 (j := 17) rfl) (byt_of hLedger_doneOf_b0 (j := 18) rfl) rfl
theorem dLedger_doneOf_19 : decode (mcc mLedger_doneOf) 19 = .ok (.iload_n 3, 1) := o29 (byt_of hLedger_doneOf_b0 (j := 19) rfl)
theorem dLedger_doneOf_20 : decode (mcc mLedger_doneOf) 20 = .ok (.aload_n 0, 1) := o42 (byt_of hLedger_doneOf_b0 (j := 20) rfl)
theorem dLedger_doneOf_21 : decode (mcc mLedger_doneOf) 21 = .ok (.getfield 51, 3) := o180 (a := 0) (b := 51) (byt_of hLedger_doneOf_b0 (j := 21) rfl) (byt_of hLedger_doneOf_b0 (j := 22) rfl) (byt_of hLedger_doneOf_b0 (j := 23) rfl) rfl
theorem dLedger_doneOf_24 : decode (mcc mLedger_doneOf) 24 = .ok (.getfield 158, 3) := o180 (a := 0) (b := 158) (byt_of hLedger_doneOf_b0 (j := 24) rfl) (byt_of hLedger_doneOf_b0 (j := 25) rfl) (byt_of hLedger_doneOf_b0 (j := 26) rfl) rfl
theorem dLedger_doneOf_27 : decode (mcc mLedger_doneOf) 27 = .ok (.iload_n 1, 1) := o27 (byt_of hLedger_doneOf_b0 (j := 27) rfl)
theorem dLedger_doneOf_28 : decode (mcc mLedger_doneOf) 28 = .ok (.iaload, 1) := o46 (byt_of hLedger_doneOf_b0 (j := 28) rfl)
theorem dLedger_doneOf_29 : decode (mcc mLedger_doneOf) 29 = .ok (.invokevirtual 161, 3) := o182 (a := 0) (b := 161) (byt_of hLedger_doneOf_b0 (j := 29) rfl) (byt_of hLedger_doneOf_b0 (j := 30) rfl) (byt_of hLedger_doneOf_b0 (j := 31) rfl) rfl
def bLedger_doneOf_b1 : List Nat := [153, 0, 17, 28, 42, 180, 0, 25, 29, 16, 8, 104, 27, 96, 46, 96, 61, 132, 3, 1, 167, 255, 208, 28, 42, 180, 0, 51, 180, 0, 147, 27, 46, 184, 0, 184, 172]
theorem hLedger_doneOf_b1 : BL (mcc mLedger_doneOf) 32 bLedger_doneOf_b1 := by decide +kernel
theorem dLedger_doneOf_32 : decode (mcc mLedger_doneOf) 32 = .ok (.ifCond .eq 17, 3) := o153 (a := 0) (b := 17) (byt_of hLedger_doneOf_b1 (j := 0) rfl) (byt_of hLedger_doneOf_b1 (j := 1) rfl) (byt_of hLedger_doneOf_b1 (j := 2) rfl) rfl
theorem dLedger_doneOf_35 : decode (mcc mLedger_doneOf) 35 = .ok (.iload_n 2, 1) := o28 (byt_of hLedger_doneOf_b1 (j := 3) rfl)
theorem dLedger_doneOf_36 : decode (mcc mLedger_doneOf) 36 = .ok (.aload_n 0, 1) := o42 (byt_of hLedger_doneOf_b1 (j := 4) rfl)
theorem dLedger_doneOf_37 : decode (mcc mLedger_doneOf) 37 = .ok (.getfield 25, 3) := o180 (a := 0) (b := 25) (byt_of hLedger_doneOf_b1 (j := 5) rfl) (byt_of hLedger_doneOf_b1 (j := 6) rfl) (byt_of hLedger_doneOf_b1 (j := 7) rfl) rfl
theorem dLedger_doneOf_40 : decode (mcc mLedger_doneOf) 40 = .ok (.iload_n 3, 1) := o29 (byt_of hLedger_doneOf_b1 (j := 8) rfl)
theorem dLedger_doneOf_41 : decode (mcc mLedger_doneOf) 41 = .ok (.bipush 8, 2) := o16 (a := 8) (byt_of hLedger_doneOf_b1 (j := 9) rfl) (byt_of hLedger_doneOf_b1 (j := 10) rfl) rfl
theorem dLedger_doneOf_43 : decode (mcc mLedger_doneOf) 43 = .ok (.imul, 1) := o104 (byt_of hLedger_doneOf_b1 (j := 11) rfl)
theorem dLedger_doneOf_44 : decode (mcc mLedger_doneOf) 44 = .ok (.iload_n 1, 1) := o27 (byt_of hLedger_doneOf_b1 (j := 12) rfl)
theorem dLedger_doneOf_45 : decode (mcc mLedger_doneOf) 45 = .ok (.iadd, 1) := o96 (byt_of hLedger_doneOf_b1 (j := 13) rfl)
theorem dLedger_doneOf_46 : decode (mcc mLedger_doneOf) 46 = .ok (.iaload, 1) := o46 (byt_of hLedger_doneOf_b1 (j := 14) rfl)
theorem dLedger_doneOf_47 : decode (mcc mLedger_doneOf) 47 = .ok (.iadd, 1) := o96 (byt_of hLedger_doneOf_b1 (j := 15) rfl)
theorem dLedger_doneOf_48 : decode (mcc mLedger_doneOf) 48 = .ok (.istore_n 2, 1) := o61 (byt_of hLedger_doneOf_b1 (j := 16) rfl)
theorem dLedger_doneOf_49 : decode (mcc mLedger_doneOf) 49 = .ok (.iinc 3 1, 3) := o132 (a := 3) (b := 1) (byt_of hLedger_doneOf_b1 (j := 17) rfl) (byt_of hLedger_doneOf_b1 (j := 18) rfl) (byt_of hLedger_doneOf_b1 (j := 19) rfl) rfl
theorem dLedger_doneOf_52 : decode (mcc mLedger_doneOf) 52 = .ok (.goto (-48), 3) := o167 (a := 255) (b := 208) (byt_of hLedger_doneOf_b1 (j := 20) rfl) (byt_of hLedger_doneOf_b1 (j := 21) rfl) (byt_of hLedger_doneOf_b1 (j := 22) rfl) rfl
theorem dLedger_doneOf_55 : decode (mcc mLedger_doneOf) 55 = .ok (.iload_n 2, 1) := o28 (byt_of hLedger_doneOf_b1 (j := 23) rfl)
theorem dLedger_doneOf_56 : decode (mcc mLedger_doneOf) 56 = .ok (.aload_n 0, 1) := o42 (byt_of hLedger_doneOf_b1 (j := 24) rfl)
theorem dLedger_doneOf_57 : decode (mcc mLedger_doneOf) 57 = .ok (.getfield 51, 3) := o180 (a := 0) (b := 51) (byt_of hLedger_doneOf_b1 (j := 25) rfl) (byt_of hLedger_doneOf_b1 (j := 26) rfl) (byt_of hLedger_doneOf_b1 (j := 27) rfl) rfl
theorem dLedger_doneOf_60 : decode (mcc mLedger_doneOf) 60 = .ok (.getfield 147, 3) := o180 (a := 0) (b := 147) (byt_of hLedger_doneOf_b1 (j := 28) rfl) (byt_of hLedger_doneOf_b1 (j := 29) rfl) (byt_of hLedger_doneOf_b1 (j := 30) rfl) rfl
theorem dLedger_doneOf_63 : decode (mcc mLedger_doneOf) 63 = .ok (.iload_n 1, 1) := o27 (byt_of hLedger_doneOf_b1 (j := 31) rfl)
def bLedger_doneOf_b2 : List Nat := [46, 184, 0, 184, 172]
theorem hLedger_doneOf_b2 : BL (mcc mLedger_doneOf) 64 bLedger_doneOf_b2 := by decide +kernel
theorem dLedger_doneOf_64 : decode (mcc mLedger_doneOf) 64 = .ok (.iaload, 1) := o46 (byt_of hLedger_doneOf_b2 (j := 0) rfl)
theorem dLedger_doneOf_65 : decode (mcc mLedger_doneOf) 65 = .ok (.invokestatic 184, 3) := o184 (a := 0) (b := 184) (byt_of hLedger_doneOf_b2 (j := 1) rfl) (byt_of hLedger_doneOf_b2 (j := 2) rfl) (byt_of hLedger_doneOf_b2 (j := 3) rfl) rfl
theorem dLedger_doneOf_68 : decode (mcc mLedger_doneOf) 68 = .ok (.ireturn, 1) := o172 (byt_of hLedger_doneOf_b2 (j := 4) rfl)
def bLedger_keeps_b0 : List Nat := [42, 27, 182, 0, 190, 42, 180, 0, 51, 180, 0, 147, 27, 46, 160, 0, 7, 4, 167, 0, 4, 3, 172]
theorem hLedger_keeps_b0 : BL (mcc mLedger_keeps) 0 bLedger_keeps_b0 := by decide +kernel
theorem dLedger_keeps_0 : decode (mcc mLedger_keeps) 0 = .ok (.aload_n 0, 1) := o42 (byt_of hLedger_keeps_b0 (j := 0) rfl)
theorem dLedger_keeps_1 : decode (mcc mLedger_keeps) 1 = .ok (.iload_n 1, 1) := o27 (byt_of hLedger_keeps_b0 (j := 1) rfl)
theorem dLedger_keeps_2 : decode (mcc mLedger_keeps) 2 = .ok (.invokevirtual 190, 3) := o182 (a := 0) (b := 190) (byt_of hLedger_keeps_b0 (j := 2) rfl) (byt_of hLedger_keeps_b0 (j := 3) rfl) (byt_of hLedger_keeps_b0 (j := 4) rfl) rfl
theorem dLedger_keeps_5 : decode (mcc mLedger_keeps) 5 = .ok (.aload_n 0, 1) := o42 (byt_of hLedger_keeps_b0 (j := 5) rfl)
theorem dLedger_keeps_6 : decode (mcc mLedger_keeps) 6 = .ok (.getfield 51, 3) := o180 (a := 0) (b := 51) (byt_of hLedger_keeps_b0 (j := 6) rfl) (byt_of hLedger_keeps_b0 (j := 7) rfl) (byt_of hLedger_keeps_b0 (j := 8) rfl) rfl
theorem dLedger_keeps_9 : decode (mcc mLedger_keeps) 9 = .ok (.getfield 147, 3) := o180 (a := 0) (b := 147) (byt_of hLedger_keeps_b0 (j := 9) rfl) (byt_of hLedger_keeps_b0 (j := 10) rfl) (byt_of hLedger_keeps_b0 (j := 11) rfl) rfl
theorem dLedger_keeps_12 : decode (mcc mLedger_keeps) 12 = .ok (.iload_n 1, 1) := o27 (byt_of hLedger_keeps_b0 (j := 12) rfl)
theorem dLedger_keeps_13 : decode (mcc mLedger_keeps) 13 = .ok (.iaload, 1) := o46 (byt_of hLedger_keeps_b0 (j := 13) rfl)
theorem dLedger_keeps_14 : decode (mcc mLedger_keeps) 14 = .ok (.if_icmp .ne 7, 3) := o160 (a := 0) (b := 7) (byt_of hLedger_keeps_b0 (j := 14) rfl) (byt_of hLedger_keeps_b0 (j := 15) rfl) (byt_of hLedger_keeps_b0 (j := 16) rfl) rfl
theorem dLedger_keeps_17 : decode (mcc mLedger_keeps) 17 = .ok (.iconst 1, 1) := o4 (byt_of hLedger_keeps_b0 (j := 17) rfl)
theorem dLedger_keeps_18 : decode (mcc mLedger_keeps) 18 = .ok (.goto 4, 3) := o167 (a := 0) (b := 4) (byt_of hLedger_keeps_b0 (j := 18) rfl) (byt_of hLedger_keeps_b0 (j := 19) rfl) (byt_of hLedger_keeps_b0 (j := 20) rfl) rfl
theorem dLedger_keeps_21 : decode (mcc mLedger_keeps) 21 = .ok (.iconst 0, 1) := o3 (byt_of hLedger_keeps_b0 (j := 21) rfl)
theorem dLedger_keeps_22 : decode (mcc mLedger_keeps) 22 = .ok (.ireturn, 1) := o172 (byt_of hLedger_keeps_b0 (j := 22) rfl)
def bLedger_keptBits_b0 : List Nat := [3, 60, 3, 61, 28, 42, 180, 0, 51, 180, 0, 180, 162, 0, 23, 42, 28, 182, 0, 193, 153, 0, 9, 27, 4, 28, 120, 128, 60, 132, 2, 1, 167, 255, 228, 27, 172]
theorem hLedger_keptBits_b0 : BL (mcc mLedger_keptBits) 0 bLedger_keptBits_b0 := by decide +kernel
theorem dLedger_keptBits_0 : decode (mcc mLedger_keptBits) 0 = .ok (.iconst 0, 1) := o3 (byt_of hLedger_keptBits_b0 (j := 0) rfl)
theorem dLedger_keptBits_1 : decode (mcc mLedger_keptBits) 1 = .ok (.istore_n 1, 1) := o60 (byt_of hLedger_keptBits_b0 (j := 1) rfl)
theorem dLedger_keptBits_2 : decode (mcc mLedger_keptBits) 2 = .ok (.iconst 0, 1) := o3 (byt_of hLedger_keptBits_b0 (j := 2) rfl)
theorem dLedger_keptBits_3 : decode (mcc mLedger_keptBits) 3 = .ok (.istore_n 2, 1) := o61 (byt_of hLedger_keptBits_b0 (j := 3) rfl)
theorem dLedger_keptBits_4 : decode (mcc mLedger_keptBits) 4 = .ok (.iload_n 2, 1) := o28 (byt_of hLedger_keptBits_b0 (j := 4) rfl)
theorem dLedger_keptBits_5 : decode (mcc mLedger_keptBits) 5 = .ok (.aload_n 0, 1) := o42 (byt_of hLedger_keptBits_b0 (j := 5) rfl)
theorem dLedger_keptBits_6 : decode (mcc mLedger_keptBits) 6 = .ok (.getfield 51, 3) := o180 (a := 0) (b := 51) (byt_of hLedger_keptBits_b0 (j := 6) rfl) (byt_of hLedger_keptBits_b0 (j := 7) rfl) (byt_of hLedger_keptBits_b0 (j := 8) rfl) rfl
theorem dLedger_keptBits_9 : decode (mcc mLedger_keptBits) 9 = .ok (.getfield 180, 3) := o180 (a := 0) (b := 180) (byt_of hLedger_keptBits_b0 (j := 9) rfl) (byt_of hLedger_keptBits_b0 (j := 10) rfl) (byt_of hLedger_keptBits_b0 (j := 11) rfl) rfl
theorem dLedger_keptBits_12 : decode (mcc mLedger_keptBits) 12 = .ok (.if_icmp .ge 23, 3) := o162 (a := 0) (b := 23) (byt_of hLedger_keptBits_b0 (j := 12) rfl) (byt_of hLedger_keptBits_b0 (j := 13) rfl) (byt_of hLedger_keptBits_b0 (j := 14) rfl) rfl
theorem dLedger_keptBits_15 : decode (mcc mLedger_keptBits) 15 = .ok (.aload_n 0, 1) := o42 (byt_of hLedger_keptBits_b0 (j := 15) rfl)
theorem dLedger_keptBits_16 : decode (mcc mLedger_keptBits) 16 = .ok (.iload_n 2, 1) := o28 (byt_of hLedger_keptBits_b0 (j := 16) rfl)
theorem dLedger_keptBits_17 : decode (mcc mLedger_keptBits) 17 = .ok (.invokevirtual 193, 3) := o182 (a := 0) (b := 193) (byt_of hLedger_keptBits_b0 (j := 17) rfl) (byt_of hLedger_keptBits_b0 (j := 18) rfl) (byt_of hLedger_keptBits_b0 (j := 19) rfl) rfl
theorem dLedger_keptBits_20 : decode (mcc mLedger_keptBits) 20 = .ok (.ifCond .eq 9, 3) := o153 (a := 0) (b := 9) (byt_of hLedger_keptBits_b0 (j := 20) rfl) (byt_of hLedger_keptBits_b0 (j := 21) rfl) (byt_of hLedger_keptBits_b0 (j := 22) rfl) rfl
theorem dLedger_keptBits_23 : decode (mcc mLedger_keptBits) 23 = .ok (.iload_n 1, 1) := o27 (byt_of hLedger_keptBits_b0 (j := 23) rfl)
theorem dLedger_keptBits_24 : decode (mcc mLedger_keptBits) 24 = .ok (.iconst 1, 1) := o4 (byt_of hLedger_keptBits_b0 (j := 24) rfl)
theorem dLedger_keptBits_25 : decode (mcc mLedger_keptBits) 25 = .ok (.iload_n 2, 1) := o28 (byt_of hLedger_keptBits_b0 (j := 25) rfl)
theorem dLedger_keptBits_26 : decode (mcc mLedger_keptBits) 26 = .ok (.ishl, 1) := o120 (byt_of hLedger_keptBits_b0 (j := 26) rfl)
theorem dLedger_keptBits_27 : decode (mcc mLedger_keptBits) 27 = .ok (.ior, 1) := o128 (byt_of hLedger_keptBits_b0 (j := 27) rfl)
theorem dLedger_keptBits_28 : decode (mcc mLedger_keptBits) 28 = .ok (.istore_n 1, 1) := o60 (byt_of hLedger_keptBits_b0 (j := 28) rfl)
theorem dLedger_keptBits_29 : decode (mcc mLedger_keptBits) 29 = .ok (.iinc 2 1, 3) := o132 (a := 2) (b := 1) (byt_of hLedger_keptBits_b0 (j := 29) rfl) (byt_of hLedger_keptBits_b0 (j := 30) rfl) (byt_of hLedger_keptBits_b0 (j := 31) rfl) rfl
def bLedger_keptBits_b1 : List Nat := [167, 255, 228, 27, 172]
theorem hLedger_keptBits_b1 : BL (mcc mLedger_keptBits) 32 bLedger_keptBits_b1 := by decide +kernel
theorem dLedger_keptBits_32 : decode (mcc mLedger_keptBits) 32 = .ok (.goto (-28), 3) := o167 (a := 255) (b := 228) (byt_of hLedger_keptBits_b1 (j := 0) rfl) (byt_of hLedger_keptBits_b1 (j := 1) rfl) (byt_of hLedger_keptBits_b1 (j := 2) rfl) rfl
theorem dLedger_keptBits_35 : decode (mcc mLedger_keptBits) 35 = .ok (.iload_n 1, 1) := o27 (byt_of hLedger_keptBits_b1 (j := 3) rfl)
theorem dLedger_keptBits_36 : decode (mcc mLedger_keptBits) 36 = .ok (.ireturn, 1) := o172 (byt_of hLedger_keptBits_b1 (j := 4) rfl)
def bLedger_worthKept_b0 : List Nat := [3, 60, 3, 61, 28, 42, 180, 0, 51, 180, 0, 180, 162, 0, 29, 42, 28, 182, 0, 193, 153, 0, 15, 27, 42, 180, 0, 51, 180, 0, 196, 28, 46, 96, 60, 132, 2, 1]
theorem hLedger_worthKept_b0 : BL (mcc mLedger_worthKept) 0 bLedger_worthKept_b0 := by decide +kernel
theorem dLedger_worthKept_0 : decode (mcc mLedger_worthKept) 0 = .ok (.iconst 0, 1) := o3 (byt_of hLedger_worthKept_b0 (j := 0) rfl)
theorem dLedger_worthKept_1 : decode (mcc mLedger_worthKept) 1 = .ok (.istore_n 1, 1) := o60 (byt_of hLedger_worthKept_b0 (j := 1) rfl)
theorem dLedger_worthKept_2 : decode (mcc mLedger_worthKept) 2 = .ok (.iconst 0, 1) := o3 (byt_of hLedger_worthKept_b0 (j := 2) rfl)
theorem dLedger_worthKept_3 : decode (mcc mLedger_worthKept) 3 = .ok (.istore_n 2, 1) := o61 (byt_of hLedger_worthKept_b0 (j := 3) rfl)
theorem dLedger_worthKept_4 : decode (mcc mLedger_worthKept) 4 = .ok (.iload_n 2, 1) := o28 (byt_of hLedger_worthKept_b0 (j := 4) rfl)
theorem dLedger_worthKept_5 : decode (mcc mLedger_worthKept) 5 = .ok (.aload_n 0, 1) := o42 (byt_of hLedger_worthKept_b0 (j := 5) rfl)
theorem dLedger_worthKept_6 : decode (mcc mLedger_worthKept) 6 = .ok (.getfield 51, 3) := o180 (a := 0) (b := 51) (byt_of hLedger_worthKept_b0 (j := 6) rfl) (byt_of hLedger_worthKept_b0 (j := 7) rfl) (byt_of hLedger_worthKept_b0 (j := 8) rfl) rfl
theorem dLedger_worthKept_9 : decode (mcc mLedger_worthKept) 9 = .ok (.getfield 180, 3) := o180 (a := 0) (b := 180) (byt_of hLedger_worthKept_b0 (j := 9) rfl) (byt_of hLedger_worthKept_b0 (j := 10) rfl) (byt_of hLedger_worthKept_b0 (j := 11) rfl) rfl
theorem dLedger_worthKept_12 : decode (mcc mLedger_worthKept) 12 = .ok (.if_icmp .ge 29, 3) := o162 (a := 0) (b := 29) (byt_of hLedger_worthKept_b0 (j := 12) rfl) (byt_of hLedger_worthKept_b0 (j := 13) rfl) (byt_of hLedger_worthKept_b0 (j := 14) rfl) rfl
theorem dLedger_worthKept_15 : decode (mcc mLedger_worthKept) 15 = .ok (.aload_n 0, 1) := o42 (byt_of hLedger_worthKept_b0 (j := 15) rfl)
theorem dLedger_worthKept_16 : decode (mcc mLedger_worthKept) 16 = .ok (.iload_n 2, 1) := o28 (byt_of hLedger_worthKept_b0 (j := 16) rfl)
theorem dLedger_worthKept_17 : decode (mcc mLedger_worthKept) 17 = .ok (.invokevirtual 193, 3) := o182 (a := 0) (b := 193) (byt_of hLedger_worthKept_b0 (j := 17) rfl) (byt_of hLedger_worthKept_b0 (j := 18) rfl) (byt_of hLedger_worthKept_b0 (j := 19) rfl) rfl
theorem dLedger_worthKept_20 : decode (mcc mLedger_worthKept) 20 = .ok (.ifCond .eq 15, 3) := o153 (a := 0) (b := 15) (byt_of hLedger_worthKept_b0 (j := 20) rfl) (byt_of hLedger_worthKept_b0 (j := 21) rfl) (byt_of hLedger_worthKept_b0 (j := 22) rfl) rfl
theorem dLedger_worthKept_23 : decode (mcc mLedger_worthKept) 23 = .ok (.iload_n 1, 1) := o27 (byt_of hLedger_worthKept_b0 (j := 23) rfl)
theorem dLedger_worthKept_24 : decode (mcc mLedger_worthKept) 24 = .ok (.aload_n 0, 1) := o42 (byt_of hLedger_worthKept_b0 (j := 24) rfl)
theorem dLedger_worthKept_25 : decode (mcc mLedger_worthKept) 25 = .ok (.getfield 51, 3) := o180 (a := 0) (b := 51) (byt_of hLedger_worthKept_b0 (j := 25) rfl) (byt_of hLedger_worthKept_b0 (j := 26) rfl) (byt_of hLedger_worthKept_b0 (j := 27) rfl) rfl
theorem dLedger_worthKept_28 : decode (mcc mLedger_worthKept) 28 = .ok (.getfield 196, 3) := o180 (a := 0) (b := 196) (byt_of hLedger_worthKept_b0 (j := 28) rfl) (byt_of hLedger_worthKept_b0 (j := 29) rfl) (byt_of hLedger_worthKept_b0 (j := 30) rfl) rfl
theorem dLedger_worthKept_31 : decode (mcc mLedger_worthKept) 31 = .ok (.iload_n 2, 1) := o28 (byt_of hLedger_worthKept_b0 (j := 31) rfl)
def bLedger_worthKept_b1 : List Nat := [46, 96, 60, 132, 2, 1, 167, 255, 222, 27, 172]
theorem hLedger_worthKept_b1 : BL (mcc mLedger_worthKept) 32 bLedger_worthKept_b1 := by decide +kernel
theorem dLedger_worthKept_32 : decode (mcc mLedger_worthKept) 32 = .ok (.iaload, 1) := o46 (byt_of hLedger_worthKept_b1 (j := 0) rfl)
theorem dLedger_worthKept_33 : decode (mcc mLedger_worthKept) 33 = .ok (.iadd, 1) := o96 (byt_of hLedger_worthKept_b1 (j := 1) rfl)
theorem dLedger_worthKept_34 : decode (mcc mLedger_worthKept) 34 = .ok (.istore_n 1, 1) := o60 (byt_of hLedger_worthKept_b1 (j := 2) rfl)
theorem dLedger_worthKept_35 : decode (mcc mLedger_worthKept) 35 = .ok (.iinc 2 1, 3) := o132 (a := 2) (b := 1) (byt_of hLedger_worthKept_b1 (j := 3) rfl) (byt_of hLedger_worthKept_b1 (j := 4) rfl) (byt_of hLedger_worthKept_b1 (j := 5) rfl) rfl
theorem dLedger_worthKept_38 : decode (mcc mLedger_worthKept) 38 = .ok (.goto (-34), 3) := o167 (a := 255) (b := 222) (byt_of hLedger_worthKept_b1 (j := 6) rfl) (byt_of hLedger_worthKept_b1 (j := 7) rfl) (byt_of hLedger_worthKept_b1 (j := 8) rfl) rfl
theorem dLedger_worthKept_41 : decode (mcc mLedger_worthKept) 41 = .ok (.iload_n 1, 1) := o27 (byt_of hLedger_worthKept_b1 (j := 9) rfl)
theorem dLedger_worthKept_42 : decode (mcc mLedger_worthKept) 42 = .ok (.ireturn, 1) := o172 (byt_of hLedger_worthKept_b1 (j := 10) rfl)
def bLedger_painOf_b0 : List Nat := [42, 180, 0, 59, 182, 0, 88, 42, 180, 0, 59, 180, 0, 93, 5, 42, 180, 0, 47, 180, 0, 111, 27, 46, 79, 42, 180, 0, 59, 180, 0, 93, 6, 42, 180, 0, 28, 27]
theorem hLedger_painOf_b0 : BL (mcc mLedger_painOf) 0 bLedger_painOf_b0 := by decide +kernel
theorem dLedger_painOf_0 : decode (mcc mLedger_painOf) 0 = .ok (.aload_n 0, 1) := o42 (byt_of hLedger_painOf_b0 (j := 0) rfl)
theorem dLedger_painOf_1 : decode (mcc mLedger_painOf) 1 = .ok (.getfield 59, 3) := o180 (a := 0) (b := 59) (byt_of hLedger_painOf_b0 (j := 1) rfl) (byt_of hLedger_painOf_b0 (j := 2) rfl) (byt_of hLedger_painOf_b0 (j := 3) rfl) rfl
theorem dLedger_painOf_4 : decode (mcc mLedger_painOf) 4 = .ok (.invokevirtual 88, 3) := o182 (a := 0) (b := 88) (byt_of hLedger_painOf_b0 (j := 4) rfl) (byt_of hLedger_painOf_b0 (j := 5) rfl) (byt_of hLedger_painOf_b0 (j := 6) rfl) rfl
theorem dLedger_painOf_7 : decode (mcc mLedger_painOf) 7 = .ok (.aload_n 0, 1) := o42 (byt_of hLedger_painOf_b0 (j := 7) rfl)
theorem dLedger_painOf_8 : decode (mcc mLedger_painOf) 8 = .ok (.getfield 59, 3) := o180 (a := 0) (b := 59) (byt_of hLedger_painOf_b0 (j := 8) rfl) (byt_of hLedger_painOf_b0 (j := 9) rfl) (byt_of hLedger_painOf_b0 (j := 10) rfl) rfl
theorem dLedger_painOf_11 : decode (mcc mLedger_painOf) 11 = .ok (.getfield 93, 3) := o180 (a := 0) (b := 93) (byt_of hLedger_painOf_b0 (j := 11) rfl) (byt_of hLedger_painOf_b0 (j := 12) rfl) (byt_of hLedger_painOf_b0 (j := 13) rfl) rfl
theorem dLedger_painOf_14 : decode (mcc mLedger_painOf) 14 = .ok (.iconst 2, 1) := o5 (byt_of hLedger_painOf_b0 (j := 14) rfl)
theorem dLedger_painOf_15 : decode (mcc mLedger_painOf) 15 = .ok (.aload_n 0, 1) := o42 (byt_of hLedger_painOf_b0 (j := 15) rfl)
theorem dLedger_painOf_16 : decode (mcc mLedger_painOf) 16 = .ok (.getfield 47, 3) := o180 (a := 0) (b := 47) (byt_of hLedger_painOf_b0 (j := 16) rfl) (byt_of hLedger_painOf_b0 (j := 17) rfl) (byt_of hLedger_painOf_b0 (j := 18) rfl) rfl
theorem dLedger_painOf_19 : decode (mcc mLedger_painOf) 19 = .ok (.getfield 111, 3) := o180 (a := 0) (b := 111) (byt_of hLedger_painOf_b0 (j := 19) rfl) (byt_of hLedger_painOf_b0 (j := 20) rfl) (byt_of hLedger_painOf_b0 (j := 21) rfl) rfl
theorem dLedger_painOf_22 : decode (mcc mLedger_painOf) 22 = .ok (.iload_n 1, 1) := o27 (byt_of hLedger_painOf_b0 (j := 22) rfl)
theorem dLedger_painOf_23 : decode (mcc mLedger_painOf) 23 = .ok (.iaload, 1) := o46 (byt_of hLedger_painOf_b0 (j := 23) rfl)
theorem dLedger_painOf_24 : decode (mcc mLedger_painOf) 24 = .ok (.iastore, 1) := o79 (byt_of hLedger_painOf_b0 (j := 24) rfl)
theorem dLedger_painOf_25 : decode (mcc mLedger_painOf) 25 = .ok (.aload_n 0, 1) := o42 (byt_of hLedger_painOf_b0 (j := 25) rfl)
theorem dLedger_painOf_26 : decode (mcc mLedger_painOf) 26 = .ok (.getfield 59, 3) := o180 (a := 0) (b := 59) (byt_of hLedger_painOf_b0 (j := 26) rfl) (byt_of hLedger_painOf_b0 (j := 27) rfl) (byt_of hLedger_painOf_b0 (j := 28) rfl) rfl
theorem dLedger_painOf_29 : decode (mcc mLedger_painOf) 29 = .ok (.getfield 93, 3) := o180 (a := 0) (b := 93) (byt_of hLedger_painOf_b0 (j := 29) rfl) (byt_of hLedger_painOf_b0 (j := 30) rfl) (byt_of hLedger_painOf_b0 (j := 31) rfl) rfl
def bLedger_painOf_b1 : List Nat := [6, 42, 180, 0, 28, 27, 46, 79, 42, 180, 0, 59, 180, 0, 93, 8, 42, 180, 0, 47, 180, 0, 199, 27, 46, 79, 42, 180, 0, 59, 42, 180, 0, 9, 5, 182, 0, 117]
theorem hLedger_painOf_b1 : BL (mcc mLedger_painOf) 32 bLedger_painOf_b1 := by decide +kernel
theorem dLedger_painOf_32 : decode (mcc mLedger_painOf) 32 = .ok (.iconst 3, 1) := o6 (byt_of hLedger_painOf_b1 (j := 0) rfl)
theorem dLedger_painOf_33 : decode (mcc mLedger_painOf) 33 = .ok (.aload_n 0, 1) := o42 (byt_of hLedger_painOf_b1 (j := 1) rfl)
theorem dLedger_painOf_34 : decode (mcc mLedger_painOf) 34 = .ok (.getfield 28, 3) := o180 (a := 0) (b := 28) (byt_of hLedger_painOf_b1 (j := 2) rfl) (byt_of hLedger_painOf_b1 (j := 3) rfl) (byt_of hLedger_painOf_b1 (j := 4) rfl) rfl
theorem dLedger_painOf_37 : decode (mcc mLedger_painOf) 37 = .ok (.iload_n 1, 1) := o27 (byt_of hLedger_painOf_b1 (j := 5) rfl)
theorem dLedger_painOf_38 : decode (mcc mLedger_painOf) 38 = .ok (.iaload, 1) := o46 (byt_of hLedger_painOf_b1 (j := 6) rfl)
theorem dLedger_painOf_39 : decode (mcc mLedger_painOf) 39 = .ok (.iastore, 1) := o79 (byt_of hLedger_painOf_b1 (j := 7) rfl)
theorem dLedger_painOf_40 : decode (mcc mLedger_painOf) 40 = .ok (.aload_n 0, 1) := o42 (byt_of hLedger_painOf_b1 (j := 8) rfl)
theorem dLedger_painOf_41 : decode (mcc mLedger_painOf) 41 = .ok (.getfield 59, 3) := o180 (a := 0) (b := 59) (byt_of hLedger_painOf_b1 (j := 9) rfl) (byt_of hLedger_painOf_b1 (j := 10) rfl) (byt_of hLedger_painOf_b1 (j := 11) rfl) rfl
theorem dLedger_painOf_44 : decode (mcc mLedger_painOf) 44 = .ok (.getfield 93, 3) := o180 (a := 0) (b := 93) (byt_of hLedger_painOf_b1 (j := 12) rfl) (byt_of hLedger_painOf_b1 (j := 13) rfl) (byt_of hLedger_painOf_b1 (j := 14) rfl) rfl
theorem dLedger_painOf_47 : decode (mcc mLedger_painOf) 47 = .ok (.iconst 5, 1) := o8 (byt_of hLedger_painOf_b1 (j := 15) rfl)
theorem dLedger_painOf_48 : decode (mcc mLedger_painOf) 48 = .ok (.aload_n 0, 1) := o42 (byt_of hLedger_painOf_b1 (j := 16) rfl)
theorem dLedger_painOf_49 : decode (mcc mLedger_painOf) 49 = .ok (.getfield 47, 3) := o180 (a := 0) (b := 47) (byt_of hLedger_painOf_b1 (j := 17) rfl) (byt_of hLedger_painOf_b1 (j := 18) rfl) (byt_of hLedger_painOf_b1 (j := 19) rfl) rfl
theorem dLedger_painOf_52 : decode (mcc mLedger_painOf) 52 = .ok (.getfield 199, 3) := o180 (a := 0) (b := 199) (byt_of hLedger_painOf_b1 (j := 20) rfl) (byt_of hLedger_painOf_b1 (j := 21) rfl) (byt_of hLedger_painOf_b1 (j := 22) rfl) rfl
theorem dLedger_painOf_55 : decode (mcc mLedger_painOf) 55 = .ok (.iload_n 1, 1) := o27 (byt_of hLedger_painOf_b1 (j := 23) rfl)
theorem dLedger_painOf_56 : decode (mcc mLedger_painOf) 56 = .ok (.iaload, 1) := o46 (byt_of hLedger_painOf_b1 (j := 24) rfl)
theorem dLedger_painOf_57 : decode (mcc mLedger_painOf) 57 = .ok (.iastore, 1) := o79 (byt_of hLedger_painOf_b1 (j := 25) rfl)
theorem dLedger_painOf_58 : decode (mcc mLedger_painOf) 58 = .ok (.aload_n 0, 1) := o42 (byt_of hLedger_painOf_b1 (j := 26) rfl)
theorem dLedger_painOf_59 : decode (mcc mLedger_painOf) 59 = .ok (.getfield 59, 3) := o180 (a := 0) (b := 59) (byt_of hLedger_painOf_b1 (j := 27) rfl) (byt_of hLedger_painOf_b1 (j := 28) rfl) (byt_of hLedger_painOf_b1 (j := 29) rfl) rfl
theorem dLedger_painOf_62 : decode (mcc mLedger_painOf) 62 = .ok (.aload_n 0, 1) := o42 (byt_of hLedger_painOf_b1 (j := 30) rfl)
theorem dLedger_painOf_63 : decode (mcc mLedger_painOf) 63 = .ok (.getfield 9, 3) := o180 (a := 0) (b := 9) (byt_of hLedger_painOf_b1 (j := 31) rfl) (byt_of hLedger_painOf_b1 (j := 32) rfl) (byt_of hLedger_painOf_b1 (j := 33) rfl) rfl
def bLedger_painOf_b2 : List Nat := [0, 9, 5, 182, 0, 117, 17, 39, 15, 184, 0, 120, 172]
theorem hLedger_painOf_b2 : BL (mcc mLedger_painOf) 64 bLedger_painOf_b2 := by decide +kernel
theorem dLedger_painOf_66 : decode (mcc mLedger_painOf) 66 = .ok (.iconst 2, 1) := o5 (byt_of hLedger_painOf_b2 (j := 2) rfl)
theorem dLedger_painOf_67 : decode (mcc mLedger_painOf) 67 = .ok (.invokevirtual 117, 3) := o182 (a := 0) (b := 117) (byt_of hLedger_painOf_b2 (j := 3) rfl) (byt_of hLedger_painOf_b2 (j := 4) rfl) (byt_of hLedger_painOf_b2 (j := 5) rfl) rfl
theorem dLedger_painOf_70 : decode (mcc mLedger_painOf) 70 = .ok (.sipush 9999, 3) := o17 (a := 39) (b := 15) (byt_of hLedger_painOf_b2 (j := 6) rfl) (byt_of hLedger_painOf_b2 (j := 7) rfl) (byt_of hLedger_painOf_b2 (j := 8) rfl) rfl
theorem dLedger_painOf_73 : decode (mcc mLedger_painOf) 73 = .ok (.invokestatic 120, 3) := o184 (a := 0) (b := 120) (byt_of hLedger_painOf_b2 (j := 9) rfl) (byt_of hLedger_painOf_b2 (j := 10) rfl) (byt_of hLedger_painOf_b2 (j := 11) rfl) rfl
theorem dLedger_painOf_76 : decode (mcc mLedger_painOf) 76 = .ok (.ireturn, 1) := o172 (byt_of hLedger_painOf_b2 (j := 12) rfl)
def bLedger_painOfAll_b0 : List Nat := [3, 60, 3, 61, 28, 42, 180, 0, 47, 180, 0, 82, 162, 0, 17, 27, 42, 28, 182, 0, 202, 96, 60, 132, 2, 1, 167, 255, 234, 27, 172]
theorem hLedger_painOfAll_b0 : BL (mcc mLedger_painOfAll) 0 bLedger_painOfAll_b0 := by decide +kernel
theorem dLedger_painOfAll_0 : decode (mcc mLedger_painOfAll) 0 = .ok (.iconst 0, 1) := o3 (byt_of hLedger_painOfAll_b0 (j := 0) rfl)
theorem dLedger_painOfAll_1 : decode (mcc mLedger_painOfAll) 1 = .ok (.istore_n 1, 1) := o60 (byt_of hLedger_painOfAll_b0 (j := 1) rfl)
theorem dLedger_painOfAll_2 : decode (mcc mLedger_painOfAll) 2 = .ok (.iconst 0, 1) := o3 (byt_of hLedger_painOfAll_b0 (j := 2) rfl)
theorem dLedger_painOfAll_3 : decode (mcc mLedger_painOfAll) 3 = .ok (.istore_n 2, 1) := o61 (byt_of hLedger_painOfAll_b0 (j := 3) rfl)
theorem dLedger_painOfAll_4 : decode (mcc mLedger_painOfAll) 4 = .ok (.iload_n 2, 1) := o28 (byt_of hLedger_painOfAll_b0 (j := 4) rfl)
theorem dLedger_painOfAll_5 : decode (mcc mLedger_painOfAll) 5 = .ok (.aload_n 0, 1) := o42 (byt_of hLedger_painOfAll_b0 (j := 5) rfl)
theorem dLedger_painOfAll_6 : decode (mcc mLedger_painOfAll) 6 = .ok (.getfield 47, 3) := o180 (a := 0) (b := 47) (byt_of hLedger_painOfAll_b0 (j := 6) rfl) (byt_of hLedger_painOfAll_b0 (j := 7) rfl) (byt_of hLedger_painOfAll_b0 (j := 8) rfl) rfl
theorem dLedger_painOfAll_9 : decode (mcc mLedger_painOfAll) 9 = .ok (.getfield 82, 3) := o180 (a := 0) (b := 82) (byt_of hLedger_painOfAll_b0 (j := 9) rfl) (byt_of hLedger_painOfAll_b0 (j := 10) rfl) (byt_of hLedger_painOfAll_b0 (j := 11) rfl) rfl
theorem dLedger_painOfAll_12 : decode (mcc mLedger_painOfAll) 12 = .ok (.if_icmp .ge 17, 3) := o162 (a := 0) (b := 17) (byt_of hLedger_painOfAll_b0 (j := 12) rfl) (byt_of hLedger_painOfAll_b0 (j := 13) rfl) (byt_of hLedger_painOfAll_b0 (j := 14) rfl) rfl
theorem dLedger_painOfAll_15 : decode (mcc mLedger_painOfAll) 15 = .ok (.iload_n 1, 1) := o27 (byt_of hLedger_painOfAll_b0 (j := 15) rfl)
theorem dLedger_painOfAll_16 : decode (mcc mLedger_painOfAll) 16 = .ok (.aload_n 0, 1) := o42 (byt_of hLedger_painOfAll_b0 (j := 16) rfl)
theorem dLedger_painOfAll_17 : decode (mcc mLedger_painOfAll) 17 = .ok (.iload_n 2, 1) := o28 (byt_of hLedger_painOfAll_b0 (j := 17) rfl)
theorem dLedger_painOfAll_18 : decode (mcc mLedger_painOfAll) 18 = .ok (.invokevirtual 202, 3) := o182 (a := 0) (b := 202) (byt_of hLedger_painOfAll_b0 (j := 18) rfl) (byt_of hLedger_painOfAll_b0 (j := 19) rfl) (byt_of hLedger_painOfAll_b0 (j := 20) rfl) rfl
theorem dLedger_painOfAll_21 : decode (mcc mLedger_painOfAll) 21 = .ok (.iadd, 1) := o96 (byt_of hLedger_painOfAll_b0 (j := 21) rfl)
theorem dLedger_painOfAll_22 : decode (mcc mLedger_painOfAll) 22 = .ok (.istore_n 1, 1) := o60 (byt_of hLedger_painOfAll_b0 (j := 22) rfl)
theorem dLedger_painOfAll_23 : decode (mcc mLedger_painOfAll) 23 = .ok (.iinc 2 1, 3) := o132 (a := 2) (b := 1) (byt_of hLedger_painOfAll_b0 (j := 23) rfl) (byt_of hLedger_painOfAll_b0 (j := 24) rfl) (byt_of hLedger_painOfAll_b0 (j := 25) rfl) rfl
theorem dLedger_painOfAll_26 : decode (mcc mLedger_painOfAll) 26 = .ok (.goto (-22), 3) := o167 (a := 255) (b := 234) (byt_of hLedger_painOfAll_b0 (j := 26) rfl) (byt_of hLedger_painOfAll_b0 (j := 27) rfl) (byt_of hLedger_painOfAll_b0 (j := 28) rfl) rfl
theorem dLedger_painOfAll_29 : decode (mcc mLedger_painOfAll) 29 = .ok (.iload_n 1, 1) := o27 (byt_of hLedger_painOfAll_b0 (j := 29) rfl)
theorem dLedger_painOfAll_30 : decode (mcc mLedger_painOfAll) 30 = .ok (.ireturn, 1) := o172 (byt_of hLedger_painOfAll_b0 (j := 30) rfl)
def bLedger_outcome_b0 : List Nat := [27, 154, 0, 10, 42, 182, 0, 205, 167, 0, 19, 27, 4, 160, 0, 10, 42, 182, 0, 209, 167, 0, 7, 42, 182, 0, 212, 172]
theorem hLedger_outcome_b0 : BL (mcc mLedger_outcome) 0 bLedger_outcome_b0 := by decide +kernel
theorem dLedger_outcome_0 : decode (mcc mLedger_outcome) 0 = .ok (.iload_n 1, 1) := o27 (byt_of hLedger_outcome_b0 (j := 0) rfl)
theorem dLedger_outcome_1 : decode (mcc mLedger_outcome) 1 = .ok (.ifCond .ne 10, 3) := o154 (a := 0) (b := 10) (byt_of hLedger_outcome_b0 (j := 1) rfl) (byt_of hLedger_outcome_b0 (j := 2) rfl) (byt_of hLedger_outcome_b0 (j := 3) rfl) rfl
theorem dLedger_outcome_4 : decode (mcc mLedger_outcome) 4 = .ok (.aload_n 0, 1) := o42 (byt_of hLedger_outcome_b0 (j := 4) rfl)
theorem dLedger_outcome_5 : decode (mcc mLedger_outcome) 5 = .ok (.invokevirtual 205, 3) := o182 (a := 0) (b := 205) (byt_of hLedger_outcome_b0 (j := 5) rfl) (byt_of hLedger_outcome_b0 (j := 6) rfl) (byt_of hLedger_outcome_b0 (j := 7) rfl) rfl
theorem dLedger_outcome_8 : decode (mcc mLedger_outcome) 8 = .ok (.goto 19, 3) := o167 (a := 0) (b := 19) (byt_of hLedger_outcome_b0 (j := 8) rfl) (byt_of hLedger_outcome_b0 (j := 9) rfl) (byt_of hLedger_outcome_b0 (j := 10) rfl) rfl
theorem dLedger_outcome_11 : decode (mcc mLedger_outcome) 11 = .ok (.iload_n 1, 1) := o27 (byt_of hLedger_outcome_b0 (j := 11) rfl)
theorem dLedger_outcome_12 : decode (mcc mLedger_outcome) 12 = .ok (.iconst 1, 1) := o4 (byt_of hLedger_outcome_b0 (j := 12) rfl)
theorem dLedger_outcome_13 : decode (mcc mLedger_outcome) 13 = .ok (.if_icmp .ne 10, 3) := o160 (a := 0) (b := 10) (byt_of hLedger_outcome_b0 (j := 13) rfl) (byt_of hLedger_outcome_b0 (j := 14) rfl) (byt_of hLedger_outcome_b0 (j := 15) rfl) rfl
theorem dLedger_outcome_16 : decode (mcc mLedger_outcome) 16 = .ok (.aload_n 0, 1) := o42 (byt_of hLedger_outcome_b0 (j := 16) rfl)
theorem dLedger_outcome_17 : decode (mcc mLedger_outcome) 17 = .ok (.invokevirtual 209, 3) := o182 (a := 0) (b := 209) (byt_of hLedger_outcome_b0 (j := 17) rfl) (byt_of hLedger_outcome_b0 (j := 18) rfl) (byt_of hLedger_outcome_b0 (j := 19) rfl) rfl
theorem dLedger_outcome_20 : decode (mcc mLedger_outcome) 20 = .ok (.goto 7, 3) := o167 (a := 0) (b := 7) (byt_of hLedger_outcome_b0 (j := 20) rfl) (byt_of hLedger_outcome_b0 (j := 21) rfl) (byt_of hLedger_outcome_b0 (j := 22) rfl) rfl
theorem dLedger_outcome_23 : decode (mcc mLedger_outcome) 23 = .ok (.aload_n 0, 1) := o42 (byt_of hLedger_outcome_b0 (j := 23) rfl)
theorem dLedger_outcome_24 : decode (mcc mLedger_outcome) 24 = .ok (.invokevirtual 212, 3) := o182 (a := 0) (b := 212) (byt_of hLedger_outcome_b0 (j := 24) rfl) (byt_of hLedger_outcome_b0 (j := 25) rfl) (byt_of hLedger_outcome_b0 (j := 26) rfl) rfl
theorem dLedger_outcome_27 : decode (mcc mLedger_outcome) 27 = .ok (.ireturn, 1) := o172 (byt_of hLedger_outcome_b0 (j := 27) rfl)
def bLedger_fullBits_b0 : List Nat := [3, 60, 3, 61, 28, 42, 180, 0, 47, 180, 0, 82, 162, 0, 33, 42, 180, 0, 28, 28, 46, 42, 180, 0, 47, 180, 0, 187, 28, 46, 160, 0, 9, 27, 4, 28, 120, 128]
theorem hLedger_fullBits_b0 : BL (mcc mLedger_fullBits) 0 bLedger_fullBits_b0 := by decide +kernel
theorem dLedger_fullBits_0 : decode (mcc mLedger_fullBits) 0 = .ok (.iconst 0, 1) := o3 (byt_of hLedger_fullBits_b0 (j := 0) rfl)
theorem dLedger_fullBits_1 : decode (mcc mLedger_fullBits) 1 = .ok (.istore_n 1, 1) := o60 (byt_of hLedger_fullBits_b0 (j := 1) rfl)
theorem dLedger_fullBits_2 : decode (mcc mLedger_fullBits) 2 = .ok (.iconst 0, 1) := o3 (byt_of hLedger_fullBits_b0 (j := 2) rfl)
theorem dLedger_fullBits_3 : decode (mcc mLedger_fullBits) 3 = .ok (.istore_n 2, 1) := o61 (byt_of hLedger_fullBits_b0 (j := 3) rfl)
theorem dLedger_fullBits_4 : decode (mcc mLedger_fullBits) 4 = .ok (.iload_n 2, 1) := o28 (byt_of hLedger_fullBits_b0 (j := 4) rfl)
theorem dLedger_fullBits_5 : decode (mcc mLedger_fullBits) 5 = .ok (.aload_n 0, 1) := o42 (byt_of hLedger_fullBits_b0 (j := 5) rfl)
theorem dLedger_fullBits_6 : decode (mcc mLedger_fullBits) 6 = .ok (.getfield 47, 3) := o180 (a := 0) (b := 47) (byt_of hLedger_fullBits_b0 (j := 6) rfl) (byt_of hLedger_fullBits_b0 (j := 7) rfl) (byt_of hLedger_fullBits_b0 (j := 8) rfl) rfl
theorem dLedger_fullBits_9 : decode (mcc mLedger_fullBits) 9 = .ok (.getfield 82, 3) := o180 (a := 0) (b := 82) (byt_of hLedger_fullBits_b0 (j := 9) rfl) (byt_of hLedger_fullBits_b0 (j := 10) rfl) (byt_of hLedger_fullBits_b0 (j := 11) rfl) rfl
theorem dLedger_fullBits_12 : decode (mcc mLedger_fullBits) 12 = .ok (.if_icmp .ge 33, 3) := o162 (a := 0) (b := 33) (byt_of hLedger_fullBits_b0 (j := 12) rfl) (byt_of hLedger_fullBits_b0 (j := 13) rfl) (byt_of hLedger_fullBits_b0 (j := 14) rfl) rfl
theorem dLedger_fullBits_15 : decode (mcc mLedger_fullBits) 15 = .ok (.aload_n 0, 1) := o42 (byt_of hLedger_fullBits_b0 (j := 15) rfl)
theorem dLedger_fullBits_16 : decode (mcc mLedger_fullBits) 16 = .ok (.getfield 28, 3) := o180 (a := 0) (b := 28) (byt_of hLedger_fullBits_b0 (j := 16) rfl) (byt_of hLedger_fullBits_b0 (j := 17) rfl) (byt_of hLedger_fullBits_b0 (j := 18) rfl) rfl
theorem dLedger_fullBits_19 : decode (mcc mLedger_fullBits) 19 = .ok (.iload_n 2, 1) := o28 (byt_of hLedger_fullBits_b0 (j := 19) rfl)
theorem dLedger_fullBits_20 : decode (mcc mLedger_fullBits) 20 = .ok (.iaload, 1) := o46 (byt_of hLedger_fullBits_b0 (j := 20) rfl)
theorem dLedger_fullBits_21 : decode (mcc mLedger_fullBits) 21 = .ok (.aload_n 0, 1) := o42 (byt_of hLedger_fullBits_b0 (j := 21) rfl)
theorem dLedger_fullBits_22 : decode (mcc mLedger_fullBits) 22 = .ok (.getfield 47, 3) := o180 (a := 0) (b := 47) (byt_of hLedger_fullBits_b0 (j := 22) rfl) (byt_of hLedger_fullBits_b0 (j := 23) rfl) (byt_of hLedger_fullBits_b0 (j := 24) rfl) rfl
theorem dLedger_fullBits_25 : decode (mcc mLedger_fullBits) 25 = .ok (.getfield 187, 3) := o180 (a := 0) (b := 187) (byt_of hLedger_fullBits_b0 (j := 25) rfl) (byt_of hLedger_fullBits_b0 (j := 26) rfl) (byt_of hLedger_fullBits_b0 (j := 27) rfl) rfl
theorem dLedger_fullBits_28 : decode (mcc mLedger_fullBits) 28 = .ok (.iload_n 2, 1) := o28 (byt_of hLedger_fullBits_b0 (j := 28) rfl)
theorem dLedger_fullBits_29 : decode (mcc mLedger_fullBits) 29 = .ok (.iaload, 1) := o46 (byt_of hLedger_fullBits_b0 (j := 29) rfl)
theorem dLedger_fullBits_30 : decode (mcc mLedger_fullBits) 30 = .ok (.if_icmp .ne 9, 3) := o160 (a := 0) (b := 9) (byt_of hLedger_fullBits_b0 (j := 30) rfl) (byt_of hLedger_fullBits_b0 (j := 31) rfl) (byt_of hLedger_fullBits_b0 (j := 32) rfl) rfl
def bLedger_fullBits_b1 : List Nat := [9, 27, 4, 28, 120, 128, 60, 132, 2, 1, 167, 255, 218, 27, 172]
theorem hLedger_fullBits_b1 : BL (mcc mLedger_fullBits) 32 bLedger_fullBits_b1 := by decide +kernel
theorem dLedger_fullBits_33 : decode (mcc mLedger_fullBits) 33 = .ok (.iload_n 1, 1) := o27 (byt_of hLedger_fullBits_b1 (j := 1) rfl)
theorem dLedger_fullBits_34 : decode (mcc mLedger_fullBits) 34 = .ok (.iconst 1, 1) := o4 (byt_of hLedger_fullBits_b1 (j := 2) rfl)
theorem dLedger_fullBits_35 : decode (mcc mLedger_fullBits) 35 = .ok (.iload_n 2, 1) := o28 (byt_of hLedger_fullBits_b1 (j := 3) rfl)
theorem dLedger_fullBits_36 : decode (mcc mLedger_fullBits) 36 = .ok (.ishl, 1) := o120 (byt_of hLedger_fullBits_b1 (j := 4) rfl)
theorem dLedger_fullBits_37 : decode (mcc mLedger_fullBits) 37 = .ok (.ior, 1) := o128 (byt_of hLedger_fullBits_b1 (j := 5) rfl)
theorem dLedger_fullBits_38 : decode (mcc mLedger_fullBits) 38 = .ok (.istore_n 1, 1) := o60 (byt_of hLedger_fullBits_b1 (j := 6) rfl)
theorem dLedger_fullBits_39 : decode (mcc mLedger_fullBits) 39 = .ok (.iinc 2 1, 3) := o132 (a := 2) (b := 1) (byt_of hLedger_fullBits_b1 (j := 7) rfl) (byt_of hLedger_fullBits_b1 (j := 8) rfl) (byt_of hLedger_fullBits_b1 (j := 9) rfl) rfl
theorem dLedger_fullBits_42 : decode (mcc mLedger_fullBits) 42 = .ok (.goto (-38), 3) := o167 (a := 255) (b := 218) (byt_of hLedger_fullBits_b1 (j := 10) rfl) (byt_of hLedger_fullBits_b1 (j := 11) rfl) (byt_of hLedger_fullBits_b1 (j := 12) rfl) rfl
theorem dLedger_fullBits_45 : decode (mcc mLedger_fullBits) 45 = .ok (.iload_n 1, 1) := o27 (byt_of hLedger_fullBits_b1 (j := 13) rfl)
theorem dLedger_fullBits_46 : decode (mcc mLedger_fullBits) 46 = .ok (.ireturn, 1) := o172 (byt_of hLedger_fullBits_b1 (j := 14) rfl)
def bLedger_sayMore_b0 : List Nat := [42, 180, 0, 55, 180, 0, 70, 62, 42, 180, 0, 55, 29, 27, 28, 182, 0, 215, 42, 29, 182, 0, 75, 42, 29, 182, 0, 131, 42, 29, 4, 96, 2, 182, 0, 134, 177]
theorem hLedger_sayMore_b0 : BL (mcc mLedger_sayMore) 0 bLedger_sayMore_b0 := by decide +kernel
theorem dLedger_sayMore_0 : decode (mcc mLedger_sayMore) 0 = .ok (.aload_n 0, 1) := o42 (byt_of hLedger_sayMore_b0 (j := 0) rfl)
theorem dLedger_sayMore_1 : decode (mcc mLedger_sayMore) 1 = .ok (.getfield 55, 3) := o180 (a := 0) (b := 55) (byt_of hLedger_sayMore_b0 (j := 1) rfl) (byt_of hLedger_sayMore_b0 (j := 2) rfl) (byt_of hLedger_sayMore_b0 (j := 3) rfl) rfl
theorem dLedger_sayMore_4 : decode (mcc mLedger_sayMore) 4 = .ok (.getfield 70, 3) := o180 (a := 0) (b := 70) (byt_of hLedger_sayMore_b0 (j := 4) rfl) (byt_of hLedger_sayMore_b0 (j := 5) rfl) (byt_of hLedger_sayMore_b0 (j := 6) rfl) rfl
theorem dLedger_sayMore_7 : decode (mcc mLedger_sayMore) 7 = .ok (.istore_n 3, 1) := o62 (byt_of hLedger_sayMore_b0 (j := 7) rfl)
theorem dLedger_sayMore_8 : decode (mcc mLedger_sayMore) 8 = .ok (.aload_n 0, 1) := o42 (byt_of hLedger_sayMore_b0 (j := 8) rfl)
theorem dLedger_sayMore_9 : decode (mcc mLedger_sayMore) 9 = .ok (.getfield 55, 3) := o180 (a := 0) (b := 55) (byt_of hLedger_sayMore_b0 (j := 9) rfl) (byt_of hLedger_sayMore_b0 (j := 10) rfl) (byt_of hLedger_sayMore_b0 (j := 11) rfl) rfl
theorem dLedger_sayMore_12 : decode (mcc mLedger_sayMore) 12 = .ok (.iload_n 3, 1) := o29 (byt_of hLedger_sayMore_b0 (j := 12) rfl)
theorem dLedger_sayMore_13 : decode (mcc mLedger_sayMore) 13 = .ok (.iload_n 1, 1) := o27 (byt_of hLedger_sayMore_b0 (j := 13) rfl)
theorem dLedger_sayMore_14 : decode (mcc mLedger_sayMore) 14 = .ok (.iload_n 2, 1) := o28 (byt_of hLedger_sayMore_b0 (j := 14) rfl)
theorem dLedger_sayMore_15 : decode (mcc mLedger_sayMore) 15 = .ok (.invokevirtual 215, 3) := o182 (a := 0) (b := 215) (byt_of hLedger_sayMore_b0 (j := 15) rfl) (byt_of hLedger_sayMore_b0 (j := 16) rfl) (byt_of hLedger_sayMore_b0 (j := 17) rfl) rfl
theorem dLedger_sayMore_18 : decode (mcc mLedger_sayMore) 18 = .ok (.aload_n 0, 1) := o42 (byt_of hLedger_sayMore_b0 (j := 18) rfl)
theorem dLedger_sayMore_19 : decode (mcc mLedger_sayMore) 19 = .ok (.iload_n 3, 1) := o29 (byt_of hLedger_sayMore_b0 (j := 19) rfl)
theorem dLedger_sayMore_20 : decode (mcc mLedger_sayMore) 20 = .ok (.invokevirtual 75, 3) := o182 (a := 0) (b := 75) (byt_of hLedger_sayMore_b0 (j := 20) rfl) (byt_of hLedger_sayMore_b0 (j := 21) rfl) (byt_of hLedger_sayMore_b0 (j := 22) rfl) rfl
theorem dLedger_sayMore_23 : decode (mcc mLedger_sayMore) 23 = .ok (.aload_n 0, 1) := o42 (byt_of hLedger_sayMore_b0 (j := 23) rfl)
theorem dLedger_sayMore_24 : decode (mcc mLedger_sayMore) 24 = .ok (.iload_n 3, 1) := o29 (byt_of hLedger_sayMore_b0 (j := 24) rfl)
theorem dLedger_sayMore_25 : decode (mcc mLedger_sayMore) 25 = .ok (.invokevirtual 131, 3) := o182 (a := 0) (b := 131) (byt_of hLedger_sayMore_b0 (j := 25) rfl) (byt_of hLedger_sayMore_b0 (j := 26) rfl) (byt_of hLedger_sayMore_b0 (j := 27) rfl) rfl
theorem dLedger_sayMore_28 : decode (mcc mLedger_sayMore) 28 = .ok (.aload_n 0, 1) := o42 (byt_of hLedger_sayMore_b0 (j := 28) rfl)
theorem dLedger_sayMore_29 : decode (mcc mLedger_sayMore) 29 = .ok (.iload_n 3, 1) := o29 (byt_of hLedger_sayMore_b0 (j := 29) rfl)
theorem dLedger_sayMore_30 : decode (mcc mLedger_sayMore) 30 = .ok (.iconst 1, 1) := o4 (byt_of hLedger_sayMore_b0 (j := 30) rfl)
theorem dLedger_sayMore_31 : decode (mcc mLedger_sayMore) 31 = .ok (.iadd, 1) := o96 (byt_of hLedger_sayMore_b0 (j := 31) rfl)
def bLedger_sayMore_b1 : List Nat := [2, 182, 0, 134, 177]
theorem hLedger_sayMore_b1 : BL (mcc mLedger_sayMore) 32 bLedger_sayMore_b1 := by decide +kernel
theorem dLedger_sayMore_32 : decode (mcc mLedger_sayMore) 32 = .ok (.iconst (-1), 1) := o2 (byt_of hLedger_sayMore_b1 (j := 0) rfl)
theorem dLedger_sayMore_33 : decode (mcc mLedger_sayMore) 33 = .ok (.invokevirtual 134, 3) := o182 (a := 0) (b := 134) (byt_of hLedger_sayMore_b1 (j := 1) rfl) (byt_of hLedger_sayMore_b1 (j := 2) rfl) (byt_of hLedger_sayMore_b1 (j := 3) rfl) rfl
theorem dLedger_sayMore_36 : decode (mcc mLedger_sayMore) 36 = .ok (.return_, 1) := o177 (byt_of hLedger_sayMore_b1 (j := 4) rfl)
def bLedger_draw_b0 : List Nat := [27, 4, 96, 133, 20, 0, 218, 105, 20, 0, 220, 113, 65, 3, 54, 4, 21, 4, 42, 180, 0, 55, 180, 0, 70, 162, 0, 76, 3, 54, 5, 21, 5, 42, 180, 0, 47, 180]
theorem hLedger_draw_b0 : BL (mcc mLedger_draw) 0 bLedger_draw_b0 := by decide +kernel
theorem dLedger_draw_0 : decode (mcc mLedger_draw) 0 = .ok (.iload_n 1, 1) := o27 (byt_of hLedger_draw_b0 (j := 0) rfl)
theorem dLedger_draw_1 : decode (mcc mLedger_draw) 1 = .ok (.iconst 1, 1) := o4 (byt_of hLedger_draw_b0 (j := 1) rfl)
theorem dLedger_draw_2 : decode (mcc mLedger_draw) 2 = .ok (.iadd, 1) := o96 (byt_of hLedger_draw_b0 (j := 2) rfl)
theorem dLedger_draw_3 : decode (mcc mLedger_draw) 3 = .ok (.i2l, 1) := o133 (byt_of hLedger_draw_b0 (j := 3) rfl)
theorem dLedger_draw_4 : decode (mcc mLedger_draw) 4 = .ok (.ldc2_w 218, 3) := o20 (a := 0) (b := 218) (byt_of hLedger_draw_b0 (j := 4) rfl) (byt_of hLedger_draw_b0 (j := 5) rfl) (byt_of hLedger_draw_b0 (j := 6) rfl) rfl
theorem dLedger_draw_7 : decode (mcc mLedger_draw) 7 = .ok (.lmul, 1) := o105 (byt_of hLedger_draw_b0 (j := 7) rfl)
theorem dLedger_draw_8 : decode (mcc mLedger_draw) 8 = .ok (.ldc2_w 220, 3) := o20 (a := 0) (b := 220) (byt_of hLedger_draw_b0 (j := 8) rfl) (byt_of hLedger_draw_b0 (j := 9) rfl) (byt_of hLedger_draw_b0 (j := 10) rfl) rfl
theorem dLedger_draw_11 : decode (mcc mLedger_draw) 11 = .ok (.lrem, 1) := o113 (byt_of hLedger_draw_b0 (j := 11) rfl)
theorem dLedger_draw_12 : decode (mcc mLedger_draw) 12 = .ok (.lstore_n 2, 1) := o65 (byt_of hLedger_draw_b0 (j := 12) rfl)
theorem dLedger_draw_13 : decode (mcc mLedger_draw) 13 = .ok (.iconst 0, 1) := o3 (byt_of hLedger_draw_b0 (j := 13) rfl)
theorem dLedger_draw_14 : decode (mcc mLedger_draw) 14 = .ok (.istore 4, 2) := o54 (a := 4) (byt_of hLedger_draw_b0 (j := 14) rfl) (byt_of hLedger_draw_b0 (j := 15) rfl)
theorem dLedger_draw_16 : decode (mcc mLedger_draw) 16 = .ok (.iload 4, 2) := o21 (a := 4) (byt_of hLedger_draw_b0 (j := 16) rfl) (byt_of hLedger_draw_b0 (j := 17) rfl)
theorem dLedger_draw_18 : decode (mcc mLedger_draw) 18 = .ok (.aload_n 0, 1) := o42 (byt_of hLedger_draw_b0 (j := 18) rfl)
theorem dLedger_draw_19 : decode (mcc mLedger_draw) 19 = .ok (.getfield 55, 3) := o180 (a := 0) (b := 55) (byt_of hLedger_draw_b0 (j := 19) rfl) (byt_of hLedger_draw_b0 (j := 20) rfl) (byt_of hLedger_draw_b0 (j := 21) rfl) rfl
theorem dLedger_draw_22 : decode (mcc mLedger_draw) 22 = .ok (.getfield 70, 3) := o180 (a := 0) (b := 70) (byt_of hLedger_draw_b0 (j := 22) rfl) (byt_of hLedger_draw_b0 (j := 23) rfl) (byt_of hLedger_draw_b0 (j := 24) rfl) rfl
theorem dLedger_draw_25 : decode (mcc mLedger_draw) 25 = .ok (.if_icmp .ge 76, 3) := o162 (a := 0) (b := 76) (byt_of hLedger_draw_b0 (j := 25) rfl) (byt_of hLedger_draw_b0 (j := 26) rfl) (byt_of hLedger_draw_b0 (j := 27) rfl) rfl
theorem dLedger_draw_28 : decode (mcc mLedger_draw) 28 = .ok (.iconst 0, 1) := o3 (byt_of hLedger_draw_b0 (j := 28) rfl)
theorem dLedger_draw_29 : decode (mcc mLedger_draw) 29 = .ok (.istore 5, 2) := o54 (a := 5) (byt_of hLedger_draw_b0 (j := 29) rfl) (byt_of hLedger_draw_b0 (j := 30) rfl)
theorem dLedger_draw_31 : decode (mcc mLedger_draw) 31 = .ok (.iload 5, 2) := o21 (a := 5) (byt_of hLedger_draw_b0 (j := 31) rfl) (byt_of hLedger_draw_b0 (j := 32) rfl)
def bLedger_draw_b1 : List Nat := [5, 42, 180, 0, 47, 180, 0, 82, 162, 0, 55, 42, 21, 4, 21, 5, 32, 20, 0, 222, 113, 42, 180, 0, 15, 21, 4, 16, 8, 104, 21, 5, 96, 46, 133, 148, 156, 0]
theorem hLedger_draw_b1 : BL (mcc mLedger_draw) 32 bLedger_draw_b1 := by decide +kernel
theorem dLedger_draw_33 : decode (mcc mLedger_draw) 33 = .ok (.aload_n 0, 1) := o42 (byt_of hLedger_draw_b1 (j := 1) rfl)
theorem dLedger_draw_34 : decode (mcc mLedger_draw) 34 = .ok (.getfield 47, 3) := o180 (a := 0) (b := 47) (byt_of hLedger_draw_b1 (j := 2) rfl) (byt_of hLedger_draw_b1 (j := 3) rfl) (byt_of hLedger_draw_b1 (j := 4) rfl) rfl
theorem dLedger_draw_37 : decode (mcc mLedger_draw) 37 = .ok (.getfield 82, 3) := o180 (a := 0) (b := 82) (byt_of hLedger_draw_b1 (j := 5) rfl) (byt_of hLedger_draw_b1 (j := 6) rfl) (byt_of hLedger_draw_b1 (j := 7) rfl) rfl
theorem dLedger_draw_40 : decode (mcc mLedger_draw) 40 = .ok (.if_icmp .ge 55, 3) := o162 (a := 0) (b := 55) (byt_of hLedger_draw_b1 (j := 8) rfl) (byt_of hLedger_draw_b1 (j := 9) rfl) (byt_of hLedger_draw_b1 (j := 10) rfl) rfl
theorem dLedger_draw_43 : decode (mcc mLedger_draw) 43 = .ok (.aload_n 0, 1) := o42 (byt_of hLedger_draw_b1 (j := 11) rfl)
theorem dLedger_draw_44 : decode (mcc mLedger_draw) 44 = .ok (.iload 4, 2) := o21 (a := 4) (byt_of hLedger_draw_b1 (j := 12) rfl) (byt_of hLedger_draw_b1 (j := 13) rfl)
theorem dLedger_draw_46 : decode (mcc mLedger_draw) 46 = .ok (.iload 5, 2) := o21 (a := 5) (byt_of hLedger_draw_b1 (j := 14) rfl) (byt_of hLedger_draw_b1 (j := 15) rfl)
theorem dLedger_draw_48 : decode (mcc mLedger_draw) 48 = .ok (.lload_n 2, 1) := o32 (byt_of hLedger_draw_b1 (j := 16) rfl)
theorem dLedger_draw_49 : decode (mcc mLedger_draw) 49 = .ok (.ldc2_w 222, 3) := o20 (a := 0) (b := 222) (byt_of hLedger_draw_b1 (j := 17) rfl) (byt_of hLedger_draw_b1 (j := 18) rfl) (byt_of hLedger_draw_b1 (j := 19) rfl) rfl
theorem dLedger_draw_52 : decode (mcc mLedger_draw) 52 = .ok (.lrem, 1) := o113 (byt_of hLedger_draw_b1 (j := 20) rfl)
theorem dLedger_draw_53 : decode (mcc mLedger_draw) 53 = .ok (.aload_n 0, 1) := o42 (byt_of hLedger_draw_b1 (j := 21) rfl)
theorem dLedger_draw_54 : decode (mcc mLedger_draw) 54 = .ok (.getfield 15, 3) := o180 (a := 0) (b := 15) (byt_of hLedger_draw_b1 (j := 22) rfl) (byt_of hLedger_draw_b1 (j := 23) rfl) (byt_of hLedger_draw_b1 (j := 24) rfl) rfl
theorem dLedger_draw_57 : decode (mcc mLedger_draw) 57 = .ok (.iload 4, 2) := o21 (a := 4) (byt_of hLedger_draw_b1 (j := 25) rfl) (byt_of hLedger_draw_b1 (j := 26) rfl)
theorem dLedger_draw_59 : decode (mcc mLedger_draw) 59 = .ok (.bipush 8, 2) := o16 (a := 8) (byt_of hLedger_draw_b1 (j := 27) rfl) (byt_of hLedger_draw_b1 (j := 28) rfl) rfl
theorem dLedger_draw_61 : decode (mcc mLedger_draw) 61 = .ok (.imul, 1) := o104 (byt_of hLedger_draw_b1 (j := 29) rfl)
theorem dLedger_draw_62 : decode (mcc mLedger_draw) 62 = .ok (.iload 5, 2) := o21 (a := 5) (byt_of hLedger_draw_b1 (j := 30) rfl) (byt_of hLedger_draw_b1 (j := 31) rfl)
def bLedger_draw_b2 : List Nat := [96, 46, 133, 148, 156, 0, 7, 4, 167, 0, 4, 3, 182, 0, 127, 32, 20, 0, 218, 105, 20, 0, 220, 113, 65, 132, 5, 1, 167, 255, 195, 132, 4, 1, 167, 255, 174, 42]
theorem hLedger_draw_b2 : BL (mcc mLedger_draw) 64 bLedger_draw_b2 := by decide +kernel
theorem dLedger_draw_64 : decode (mcc mLedger_draw) 64 = .ok (.iadd, 1) := o96 (byt_of hLedger_draw_b2 (j := 0) rfl)
theorem dLedger_draw_65 : decode (mcc mLedger_draw) 65 = .ok (.iaload, 1) := o46 (byt_of hLedger_draw_b2 (j := 1) rfl)
theorem dLedger_draw_66 : decode (mcc mLedger_draw) 66 = .ok (.i2l, 1) := o133 (byt_of hLedger_draw_b2 (j := 2) rfl)
theorem dLedger_draw_67 : decode (mcc mLedger_draw) 67 = .ok (.lcmp, 1) := o148 (byt_of hLedger_draw_b2 (j := 3) rfl)
theorem dLedger_draw_68 : decode (mcc mLedger_draw) 68 = .ok (.ifCond .ge 7, 3) := o156 (a := 0) (b := 7) (byt_of hLedger_draw_b2 (j := 4) rfl) (byt_of hLedger_draw_b2 (j := 5) rfl) (byt_of hLedger_draw_b2 (j := 6) rfl) rfl
theorem dLedger_draw_71 : decode (mcc mLedger_draw) 71 = .ok (.iconst 1, 1) := o4 (byt_of hLedger_draw_b2 (j := 7) rfl)
theorem dLedger_draw_72 : decode (mcc mLedger_draw) 72 = .ok (.goto 4, 3) := o167 (a := 0) (b := 4) (byt_of hLedger_draw_b2 (j := 8) rfl) (byt_of hLedger_draw_b2 (j := 9) rfl) (byt_of hLedger_draw_b2 (j := 10) rfl) rfl
theorem dLedger_draw_75 : decode (mcc mLedger_draw) 75 = .ok (.iconst 0, 1) := o3 (byt_of hLedger_draw_b2 (j := 11) rfl)
theorem dLedger_draw_76 : decode (mcc mLedger_draw) 76 = .ok (.invokevirtual 127, 3) := o182 (a := 0) (b := 127) (byt_of hLedger_draw_b2 (j := 12) rfl) (byt_of hLedger_draw_b2 (j := 13) rfl) (byt_of hLedger_draw_b2 (j := 14) rfl) rfl
theorem dLedger_draw_79 : decode (mcc mLedger_draw) 79 = .ok (.lload_n 2, 1) := o32 (byt_of hLedger_draw_b2 (j := 15) rfl)
theorem dLedger_draw_80 : decode (mcc mLedger_draw) 80 = .ok (.ldc2_w 218, 3) := o20 (a := 0) (b := 218) (byt_of hLedger_draw_b2 (j := 16) rfl) (byt_of hLedger_draw_b2 (j := 17) rfl) (byt_of hLedger_draw_b2 (j := 18) rfl) rfl
theorem dLedger_draw_83 : decode (mcc mLedger_draw) 83 = .ok (.lmul, 1) := o105 (byt_of hLedger_draw_b2 (j := 19) rfl)
theorem dLedger_draw_84 : decode (mcc mLedger_draw) 84 = .ok (.ldc2_w 220, 3) := o20 (a := 0) (b := 220) (byt_of hLedger_draw_b2 (j := 20) rfl) (byt_of hLedger_draw_b2 (j := 21) rfl) (byt_of hLedger_draw_b2 (j := 22) rfl) rfl
theorem dLedger_draw_87 : decode (mcc mLedger_draw) 87 = .ok (.lrem, 1) := o113 (byt_of hLedger_draw_b2 (j := 23) rfl)
theorem dLedger_draw_88 : decode (mcc mLedger_draw) 88 = .ok (.lstore_n 2, 1) := o65 (byt_of hLedger_draw_b2 (j := 24) rfl)
theorem dLedger_draw_89 : decode (mcc mLedger_draw) 89 = .ok (.iinc 5 1, 3) := o132 (a := 5) (b := 1) (byt_of hLedger_draw_b2 (j := 25) rfl) (byt_of hLedger_draw_b2 (j := 26) rfl) (byt_of hLedger_draw_b2 (j := 27) rfl) rfl
theorem dLedger_draw_92 : decode (mcc mLedger_draw) 92 = .ok (.goto (-61), 3) := o167 (a := 255) (b := 195) (byt_of hLedger_draw_b2 (j := 28) rfl) (byt_of hLedger_draw_b2 (j := 29) rfl) (byt_of hLedger_draw_b2 (j := 30) rfl) rfl
theorem dLedger_draw_95 : decode (mcc mLedger_draw) 95 = .ok (.iinc 4 1, 3) := o132 (a := 4) (b := 1) (byt_of hLedger_draw_b2 (j := 31) rfl) (byt_of hLedger_draw_b2 (j := 32) rfl) (byt_of hLedger_draw_b2 (j := 33) rfl) rfl
def bLedger_draw_b3 : List Nat := [4, 1, 167, 255, 174, 42, 182, 0, 67, 177]
theorem hLedger_draw_b3 : BL (mcc mLedger_draw) 96 bLedger_draw_b3 := by decide +kernel
theorem dLedger_draw_98 : decode (mcc mLedger_draw) 98 = .ok (.goto (-82), 3) := o167 (a := 255) (b := 174) (byt_of hLedger_draw_b3 (j := 2) rfl) (byt_of hLedger_draw_b3 (j := 3) rfl) (byt_of hLedger_draw_b3 (j := 4) rfl) rfl
theorem dLedger_draw_101 : decode (mcc mLedger_draw) 101 = .ok (.aload_n 0, 1) := o42 (byt_of hLedger_draw_b3 (j := 5) rfl)
theorem dLedger_draw_102 : decode (mcc mLedger_draw) 102 = .ok (.invokevirtual 67, 3) := o182 (a := 0) (b := 67) (byt_of hLedger_draw_b3 (j := 6) rfl) (byt_of hLedger_draw_b3 (j := 7) rfl) (byt_of hLedger_draw_b3 (j := 8) rfl) rfl
theorem dLedger_draw_105 : decode (mcc mLedger_draw) 105 = .ok (.return_, 1) := o177 (byt_of hLedger_draw_b3 (j := 9) rfl)
def bLedger_tryPlaces_b0 : List Nat := [42, 180, 0, 47, 180, 0, 224, 27, 46, 61, 3, 62, 29, 16, 6, 162, 0, 89, 42, 180, 0, 47, 180, 0, 224, 27, 29, 79, 42, 27, 182, 0, 227, 3, 54, 4, 21, 4]
theorem hLedger_tryPlaces_b0 : BL (mcc mLedger_tryPlaces) 0 bLedger_tryPlaces_b0 := by decide +kernel
theorem dLedger_tryPlaces_0 : decode (mcc mLedger_tryPlaces) 0 = .ok (.aload_n 0, 1) := o42 (byt_of hLedger_tryPlaces_b0 (j := 0) rfl)
theorem dLedger_tryPlaces_1 : decode (mcc mLedger_tryPlaces) 1 = .ok (.getfield 47, 3) := o180 (a := 0) (b := 47) (byt_of hLedger_tryPlaces_b0 (j := 1) rfl) (byt_of hLedger_tryPlaces_b0 (j := 2) rfl) (byt_of hLedger_tryPlaces_b0 (j := 3) rfl) rfl
theorem dLedger_tryPlaces_4 : decode (mcc mLedger_tryPlaces) 4 = .ok (.getfield 224, 3) := o180 (a := 0) (b := 224) (byt_of hLedger_tryPlaces_b0 (j := 4) rfl) (byt_of hLedger_tryPlaces_b0 (j := 5) rfl) (byt_of hLedger_tryPlaces_b0 (j := 6) rfl) rfl
theorem dLedger_tryPlaces_7 : decode (mcc mLedger_tryPlaces) 7 = .ok (.iload_n 1, 1) := o27 (byt_of hLedger_tryPlaces_b0 (j := 7) rfl)
theorem dLedger_tryPlaces_8 : decode (mcc mLedger_tryPlaces) 8 = .ok (.iaload, 1) := o46 (byt_of hLedger_tryPlaces_b0 (j := 8) rfl)
theorem dLedger_tryPlaces_9 : decode (mcc mLedger_tryPlaces) 9 = .ok (.istore_n 2, 1) := o61 (byt_of hLedger_tryPlaces_b0 (j := 9) rfl)
theorem dLedger_tryPlaces_10 : decode (mcc mLedger_tryPlaces) 10 = .ok (.iconst 0, 1) := o3 (byt_of hLedger_tryPlaces_b0 (j := 10) rfl)
theorem dLedger_tryPlaces_11 : decode (mcc mLedger_tryPlaces) 11 = .ok (.istore_n 3, 1) := o62 (byt_of hLedger_tryPlaces_b0 (j := 11) rfl)
theorem dLedger_tryPlaces_12 : decode (mcc mLedger_tryPlaces) 12 = .ok (.iload_n 3, 1) := o29 (byt_of hLedger_tryPlaces_b0 (j := 12) rfl)
theorem dLedger_tryPlaces_13 : decode (mcc mLedger_tryPlaces) 13 = .ok (.bipush 6, 2) := o16 (a := 6) (byt_of hLedger_tryPlaces_b0 (j := 13) rfl) (byt_of hLedger_tryPlaces_b0 (j := 14) rfl) rfl
theorem dLedger_tryPlaces_15 : decode (mcc mLedger_tryPlaces) 15 = .ok (.if_icmp .ge 89, 3) := o162 (a := 0) (b := 89) (byt_of hLedger_tryPlaces_b0 (j := 15) rfl) (byt_of hLedger_tryPlaces_b0 (j := 16) rfl) (byt_of hLedger_tryPlaces_b0 (j := 17) rfl) rfl
theorem dLedger_tryPlaces_18 : decode (mcc mLedger_tryPlaces) 18 = .ok (.aload_n 0, 1) := o42 (byt_of hLedger_tryPlaces_b0 (j := 18) rfl)
theorem dLedger_tryPlaces_19 : decode (mcc mLedger_tryPlaces) 19 = .ok (.getfield 47, 3) := o180 (a := 0) (b := 47) (byt_of hLedger_tryPlaces_b0 (j := 19) rfl) (byt_of hLedger_tryPlaces_b0 (j := 20) rfl) (byt_of hLedger_tryPlaces_b0 (j := 21) rfl) rfl
theorem dLedger_tryPlaces_22 : decode (mcc mLedger_tryPlaces) 22 = .ok (.getfield 224, 3) := o180 (a := 0) (b := 224) (byt_of hLedger_tryPlaces_b0 (j := 22) rfl) (byt_of hLedger_tryPlaces_b0 (j := 23) rfl) (byt_of hLedger_tryPlaces_b0 (j := 24) rfl) rfl
theorem dLedger_tryPlaces_25 : decode (mcc mLedger_tryPlaces) 25 = .ok (.iload_n 1, 1) := o27 (byt_of hLedger_tryPlaces_b0 (j := 25) rfl)
theorem dLedger_tryPlaces_26 : decode (mcc mLedger_tryPlaces) 26 = .ok (.iload_n 3, 1) := o29 (byt_of hLedger_tryPlaces_b0 (j := 26) rfl)
theorem dLedger_tryPlaces_27 : decode (mcc mLedger_tryPlaces) 27 = .ok (.iastore, 1) := o79 (byt_of hLedger_tryPlaces_b0 (j := 27) rfl)
theorem dLedger_tryPlaces_28 : decode (mcc mLedger_tryPlaces) 28 = .ok (.aload_n 0, 1) := o42 (byt_of hLedger_tryPlaces_b0 (j := 28) rfl)
theorem dLedger_tryPlaces_29 : decode (mcc mLedger_tryPlaces) 29 = .ok (.iload_n 1, 1) := o27 (byt_of hLedger_tryPlaces_b0 (j := 29) rfl)
theorem dLedger_tryPlaces_30 : decode (mcc mLedger_tryPlaces) 30 = .ok (.invokevirtual 227, 3) := o182 (a := 0) (b := 227) (byt_of hLedger_tryPlaces_b0 (j := 30) rfl) (byt_of hLedger_tryPlaces_b0 (j := 31) rfl) (byt_of hLedger_tryPlaces_b0 (j := 32) rfl) rfl
def bLedger_tryPlaces_b1 : List Nat := [227, 3, 54, 4, 21, 4, 42, 180, 0, 55, 180, 0, 70, 162, 0, 28, 42, 180, 0, 22, 21, 4, 16, 8, 104, 27, 96, 42, 21, 4, 27, 182, 0, 137, 79, 132, 4, 1]
theorem hLedger_tryPlaces_b1 : BL (mcc mLedger_tryPlaces) 32 bLedger_tryPlaces_b1 := by decide +kernel
theorem dLedger_tryPlaces_33 : decode (mcc mLedger_tryPlaces) 33 = .ok (.iconst 0, 1) := o3 (byt_of hLedger_tryPlaces_b1 (j := 1) rfl)
theorem dLedger_tryPlaces_34 : decode (mcc mLedger_tryPlaces) 34 = .ok (.istore 4, 2) := o54 (a := 4) (byt_of hLedger_tryPlaces_b1 (j := 2) rfl) (byt_of hLedger_tryPlaces_b1 (j := 3) rfl)
theorem dLedger_tryPlaces_36 : decode (mcc mLedger_tryPlaces) 36 = .ok (.iload 4, 2) := o21 (a := 4) (byt_of hLedger_tryPlaces_b1 (j := 4) rfl) (byt_of hLedger_tryPlaces_b1 (j := 5) rfl)
theorem dLedger_tryPlaces_38 : decode (mcc mLedger_tryPlaces) 38 = .ok (.aload_n 0, 1) := o42 (byt_of hLedger_tryPlaces_b1 (j := 6) rfl)
theorem dLedger_tryPlaces_39 : decode (mcc mLedger_tryPlaces) 39 = .ok (.getfield 55, 3) := o180 (a := 0) (b := 55) (byt_of hLedger_tryPlaces_b1 (j := 7) rfl) (byt_of hLedger_tryPlaces_b1 (j := 8) rfl) (byt_of hLedger_tryPlaces_b1 (j := 9) rfl) rfl
theorem dLedger_tryPlaces_42 : decode (mcc mLedger_tryPlaces) 42 = .ok (.getfield 70, 3) := o180 (a := 0) (b := 70) (byt_of hLedger_tryPlaces_b1 (j := 10) rfl) (byt_of hLedger_tryPlaces_b1 (j := 11) rfl) (byt_of hLedger_tryPlaces_b1 (j := 12) rfl) rfl
theorem dLedger_tryPlaces_45 : decode (mcc mLedger_tryPlaces) 45 = .ok (.if_icmp .ge 28, 3) := o162 (a := 0) (b := 28) (byt_of hLedger_tryPlaces_b1 (j := 13) rfl) (byt_of hLedger_tryPlaces_b1 (j := 14) rfl) (byt_of hLedger_tryPlaces_b1 (j := 15) rfl) rfl
theorem dLedger_tryPlaces_48 : decode (mcc mLedger_tryPlaces) 48 = .ok (.aload_n 0, 1) := o42 (byt_of hLedger_tryPlaces_b1 (j := 16) rfl)
theorem dLedger_tryPlaces_49 : decode (mcc mLedger_tryPlaces) 49 = .ok (.getfield 22, 3) := o180 (a := 0) (b := 22) (byt_of hLedger_tryPlaces_b1 (j := 17) rfl) (byt_of hLedger_tryPlaces_b1 (j := 18) rfl) (byt_of hLedger_tryPlaces_b1 (j := 19) rfl) rfl
theorem dLedger_tryPlaces_52 : decode (mcc mLedger_tryPlaces) 52 = .ok (.iload 4, 2) := o21 (a := 4) (byt_of hLedger_tryPlaces_b1 (j := 20) rfl) (byt_of hLedger_tryPlaces_b1 (j := 21) rfl)
theorem dLedger_tryPlaces_54 : decode (mcc mLedger_tryPlaces) 54 = .ok (.bipush 8, 2) := o16 (a := 8) (byt_of hLedger_tryPlaces_b1 (j := 22) rfl) (byt_of hLedger_tryPlaces_b1 (j := 23) rfl) rfl
theorem dLedger_tryPlaces_56 : decode (mcc mLedger_tryPlaces) 56 = .ok (.imul, 1) := o104 (byt_of hLedger_tryPlaces_b1 (j := 24) rfl)
theorem dLedger_tryPlaces_57 : decode (mcc mLedger_tryPlaces) 57 = .ok (.iload_n 1, 1) := o27 (byt_of hLedger_tryPlaces_b1 (j := 25) rfl)
theorem dLedger_tryPlaces_58 : decode (mcc mLedger_tryPlaces) 58 = .ok (.iadd, 1) := o96 (byt_of hLedger_tryPlaces_b1 (j := 26) rfl)
theorem dLedger_tryPlaces_59 : decode (mcc mLedger_tryPlaces) 59 = .ok (.aload_n 0, 1) := o42 (byt_of hLedger_tryPlaces_b1 (j := 27) rfl)
theorem dLedger_tryPlaces_60 : decode (mcc mLedger_tryPlaces) 60 = .ok (.iload 4, 2) := o21 (a := 4) (byt_of hLedger_tryPlaces_b1 (j := 28) rfl) (byt_of hLedger_tryPlaces_b1 (j := 29) rfl)
theorem dLedger_tryPlaces_62 : decode (mcc mLedger_tryPlaces) 62 = .ok (.iload_n 1, 1) := o27 (byt_of hLedger_tryPlaces_b1 (j := 30) rfl)
theorem dLedger_tryPlaces_63 : decode (mcc mLedger_tryPlaces) 63 = .ok (.invokevirtual 137, 3) := o182 (a := 0) (b := 137) (byt_of hLedger_tryPlaces_b1 (j := 31) rfl) (byt_of hLedger_tryPlaces_b1 (j := 32) rfl) (byt_of hLedger_tryPlaces_b1 (j := 33) rfl) rfl
def bLedger_tryPlaces_b2 : List Nat := [0, 137, 79, 132, 4, 1, 167, 255, 222, 42, 27, 42, 180, 0, 55, 180, 0, 70, 2, 182, 0, 165, 42, 180, 0, 40, 29, 42, 180, 0, 28, 27, 46, 79, 132, 3, 1, 167]
theorem hLedger_tryPlaces_b2 : BL (mcc mLedger_tryPlaces) 64 bLedger_tryPlaces_b2 := by decide +kernel
theorem dLedger_tryPlaces_66 : decode (mcc mLedger_tryPlaces) 66 = .ok (.iastore, 1) := o79 (byt_of hLedger_tryPlaces_b2 (j := 2) rfl)
theorem dLedger_tryPlaces_67 : decode (mcc mLedger_tryPlaces) 67 = .ok (.iinc 4 1, 3) := o132 (a := 4) (b := 1) (byt_of hLedger_tryPlaces_b2 (j := 3) rfl) (byt_of hLedger_tryPlaces_b2 (j := 4) rfl) (byt_of hLedger_tryPlaces_b2 (j := 5) rfl) rfl
theorem dLedger_tryPlaces_70 : decode (mcc mLedger_tryPlaces) 70 = .ok (.goto (-34), 3) := o167 (a := 255) (b := 222) (byt_of hLedger_tryPlaces_b2 (j := 6) rfl) (byt_of hLedger_tryPlaces_b2 (j := 7) rfl) (byt_of hLedger_tryPlaces_b2 (j := 8) rfl) rfl
theorem dLedger_tryPlaces_73 : decode (mcc mLedger_tryPlaces) 73 = .ok (.aload_n 0, 1) := o42 (byt_of hLedger_tryPlaces_b2 (j := 9) rfl)
theorem dLedger_tryPlaces_74 : decode (mcc mLedger_tryPlaces) 74 = .ok (.iload_n 1, 1) := o27 (byt_of hLedger_tryPlaces_b2 (j := 10) rfl)
theorem dLedger_tryPlaces_75 : decode (mcc mLedger_tryPlaces) 75 = .ok (.aload_n 0, 1) := o42 (byt_of hLedger_tryPlaces_b2 (j := 11) rfl)
theorem dLedger_tryPlaces_76 : decode (mcc mLedger_tryPlaces) 76 = .ok (.getfield 55, 3) := o180 (a := 0) (b := 55) (byt_of hLedger_tryPlaces_b2 (j := 12) rfl) (byt_of hLedger_tryPlaces_b2 (j := 13) rfl) (byt_of hLedger_tryPlaces_b2 (j := 14) rfl) rfl
theorem dLedger_tryPlaces_79 : decode (mcc mLedger_tryPlaces) 79 = .ok (.getfield 70, 3) := o180 (a := 0) (b := 70) (byt_of hLedger_tryPlaces_b2 (j := 15) rfl) (byt_of hLedger_tryPlaces_b2 (j := 16) rfl) (byt_of hLedger_tryPlaces_b2 (j := 17) rfl) rfl
theorem dLedger_tryPlaces_82 : decode (mcc mLedger_tryPlaces) 82 = .ok (.iconst (-1), 1) := o2 (byt_of hLedger_tryPlaces_b2 (j := 18) rfl)
theorem dLedger_tryPlaces_83 : decode (mcc mLedger_tryPlaces) 83 = .ok (.invokevirtual 165, 3) := o182 (a := 0) (b := 165) (byt_of hLedger_tryPlaces_b2 (j := 19) rfl) (byt_of hLedger_tryPlaces_b2 (j := 20) rfl) (byt_of hLedger_tryPlaces_b2 (j := 21) rfl) rfl
theorem dLedger_tryPlaces_86 : decode (mcc mLedger_tryPlaces) 86 = .ok (.aload_n 0, 1) := o42 (byt_of hLedger_tryPlaces_b2 (j := 22) rfl)
theorem dLedger_tryPlaces_87 : decode (mcc mLedger_tryPlaces) 87 = .ok (.getfield 40, 3) := o180 (a := 0) (b := 40) (byt_of hLedger_tryPlaces_b2 (j := 23) rfl) (byt_of hLedger_tryPlaces_b2 (j := 24) rfl) (byt_of hLedger_tryPlaces_b2 (j := 25) rfl) rfl
theorem dLedger_tryPlaces_90 : decode (mcc mLedger_tryPlaces) 90 = .ok (.iload_n 3, 1) := o29 (byt_of hLedger_tryPlaces_b2 (j := 26) rfl)
theorem dLedger_tryPlaces_91 : decode (mcc mLedger_tryPlaces) 91 = .ok (.aload_n 0, 1) := o42 (byt_of hLedger_tryPlaces_b2 (j := 27) rfl)
theorem dLedger_tryPlaces_92 : decode (mcc mLedger_tryPlaces) 92 = .ok (.getfield 28, 3) := o180 (a := 0) (b := 28) (byt_of hLedger_tryPlaces_b2 (j := 28) rfl) (byt_of hLedger_tryPlaces_b2 (j := 29) rfl) (byt_of hLedger_tryPlaces_b2 (j := 30) rfl) rfl
theorem dLedger_tryPlaces_95 : decode (mcc mLedger_tryPlaces) 95 = .ok (.iload_n 1, 1) := o27 (byt_of hLedger_tryPlaces_b2 (j := 31) rfl)
def bLedger_tryPlaces_b3 : List Nat := [46, 79, 132, 3, 1, 167, 255, 167, 42, 180, 0, 47, 180, 0, 224, 27, 28, 79, 177]
theorem hLedger_tryPlaces_b3 : BL (mcc mLedger_tryPlaces) 96 bLedger_tryPlaces_b3 := by decide +kernel
theorem dLedger_tryPlaces_96 : decode (mcc mLedger_tryPlaces) 96 = .ok (.iaload, 1) := o46 (byt_of hLedger_tryPlaces_b3 (j := 0) rfl)
theorem dLedger_tryPlaces_97 : decode (mcc mLedger_tryPlaces) 97 = .ok (.iastore, 1) := o79 (byt_of hLedger_tryPlaces_b3 (j := 1) rfl)
theorem dLedger_tryPlaces_98 : decode (mcc mLedger_tryPlaces) 98 = .ok (.iinc 3 1, 3) := o132 (a := 3) (b := 1) (byt_of hLedger_tryPlaces_b3 (j := 2) rfl) (byt_of hLedger_tryPlaces_b3 (j := 3) rfl) (byt_of hLedger_tryPlaces_b3 (j := 4) rfl) rfl
theorem dLedger_tryPlaces_101 : decode (mcc mLedger_tryPlaces) 101 = .ok (.goto (-89), 3) := o167 (a := 255) (b := 167) (byt_of hLedger_tryPlaces_b3 (j := 5) rfl) (byt_of hLedger_tryPlaces_b3 (j := 6) rfl) (byt_of hLedger_tryPlaces_b3 (j := 7) rfl) rfl
theorem dLedger_tryPlaces_104 : decode (mcc mLedger_tryPlaces) 104 = .ok (.aload_n 0, 1) := o42 (byt_of hLedger_tryPlaces_b3 (j := 8) rfl)
theorem dLedger_tryPlaces_105 : decode (mcc mLedger_tryPlaces) 105 = .ok (.getfield 47, 3) := o180 (a := 0) (b := 47) (byt_of hLedger_tryPlaces_b3 (j := 9) rfl) (byt_of hLedger_tryPlaces_b3 (j := 10) rfl) (byt_of hLedger_tryPlaces_b3 (j := 11) rfl) rfl
theorem dLedger_tryPlaces_108 : decode (mcc mLedger_tryPlaces) 108 = .ok (.getfield 224, 3) := o180 (a := 0) (b := 224) (byt_of hLedger_tryPlaces_b3 (j := 12) rfl) (byt_of hLedger_tryPlaces_b3 (j := 13) rfl) (byt_of hLedger_tryPlaces_b3 (j := 14) rfl) rfl
theorem dLedger_tryPlaces_111 : decode (mcc mLedger_tryPlaces) 111 = .ok (.iload_n 1, 1) := o27 (byt_of hLedger_tryPlaces_b3 (j := 15) rfl)
theorem dLedger_tryPlaces_112 : decode (mcc mLedger_tryPlaces) 112 = .ok (.iload_n 2, 1) := o28 (byt_of hLedger_tryPlaces_b3 (j := 16) rfl)
theorem dLedger_tryPlaces_113 : decode (mcc mLedger_tryPlaces) 113 = .ok (.iastore, 1) := o79 (byt_of hLedger_tryPlaces_b3 (j := 17) rfl)
theorem dLedger_tryPlaces_114 : decode (mcc mLedger_tryPlaces) 114 = .ok (.return_, 1) := o177 (byt_of hLedger_tryPlaces_b3 (j := 18) rfl)
def bLedger_sharesOut_b0 : List Nat := [3, 61, 28, 16, 8, 162, 0, 16, 42, 180, 0, 37, 28, 3, 79, 132, 2, 1, 167, 255, 240, 42, 27, 182, 0, 230, 61, 3, 62, 29, 42, 180, 0, 51, 180, 0, 147, 27]
theorem hLedger_sharesOut_b0 : BL (mcc mLedger_sharesOut) 0 bLedger_sharesOut_b0 := by decide +kernel
theorem dLedger_sharesOut_0 : decode (mcc mLedger_sharesOut) 0 = .ok (.iconst 0, 1) := o3 (byt_of hLedger_sharesOut_b0 (j := 0) rfl)
theorem dLedger_sharesOut_1 : decode (mcc mLedger_sharesOut) 1 = .ok (.istore_n 2, 1) := o61 (byt_of hLedger_sharesOut_b0 (j := 1) rfl)
theorem dLedger_sharesOut_2 : decode (mcc mLedger_sharesOut) 2 = .ok (.iload_n 2, 1) := o28 (byt_of hLedger_sharesOut_b0 (j := 2) rfl)
theorem dLedger_sharesOut_3 : decode (mcc mLedger_sharesOut) 3 = .ok (.bipush 8, 2) := o16 (a := 8) (byt_of hLedger_sharesOut_b0 (j := 3) rfl) (byt_of hLedger_sharesOut_b0 (j := 4) rfl) rfl
theorem dLedger_sharesOut_5 : decode (mcc mLedger_sharesOut) 5 = .ok (.if_icmp .ge 16, 3) := o162 (a := 0) (b := 16) (byt_of hLedger_sharesOut_b0 (j := 5) rfl) (byt_of hLedger_sharesOut_b0 (j := 6) rfl) (byt_of hLedger_sharesOut_b0 (j := 7) rfl) rfl
theorem dLedger_sharesOut_8 : decode (mcc mLedger_sharesOut) 8 = .ok (.aload_n 0, 1) := o42 (byt_of hLedger_sharesOut_b0 (j := 8) rfl)
theorem dLedger_sharesOut_9 : decode (mcc mLedger_sharesOut) 9 = .ok (.getfield 37, 3) := o180 (a := 0) (b := 37) (byt_of hLedger_sharesOut_b0 (j := 9) rfl) (byt_of hLedger_sharesOut_b0 (j := 10) rfl) (byt_of hLedger_sharesOut_b0 (j := 11) rfl) rfl
theorem dLedger_sharesOut_12 : decode (mcc mLedger_sharesOut) 12 = .ok (.iload_n 2, 1) := o28 (byt_of hLedger_sharesOut_b0 (j := 12) rfl)
theorem dLedger_sharesOut_13 : decode (mcc mLedger_sharesOut) 13 = .ok (.iconst 0, 1) := o3 (byt_of hLedger_sharesOut_b0 (j := 13) rfl)
theorem dLedger_sharesOut_14 : decode (mcc mLedger_sharesOut) 14 = .ok (.iastore, 1) := o79 (byt_of hLedger_sharesOut_b0 (j := 14) rfl)
theorem dLedger_sharesOut_15 : decode (mcc mLedger_sharesOut) 15 = .ok (.iinc 2 1, 3) := o132 (a := 2) (b := 1) (byt_of hLedger_sharesOut_b0 (j := 15) rfl) (byt_of hLedger_sharesOut_b0 (j := 16) rfl) (byt_of hLedger_sharesOut_b0 (j := 17) rfl) rfl
theorem dLedger_sharesOut_18 : decode (mcc mLedger_sharesOut) 18 = .ok (.goto (-16), 3) := o167 (a := 255) (b := 240) (byt_of hLedger_sharesOut_b0 (j := 18) rfl) (byt_of hLedger_sharesOut_b0 (j := 19) rfl) (byt_of hLedger_sharesOut_b0 (j := 20) rfl) rfl
theorem dLedger_sharesOut_21 : decode (mcc mLedger_sharesOut) 21 = .ok (.aload_n 0, 1) := o42 (byt_of hLedger_sharesOut_b0 (j := 21) rfl)
theorem dLedger_sharesOut_22 : decode (mcc mLedger_sharesOut) 22 = .ok (.iload_n 1, 1) := o27 (byt_of hLedger_sharesOut_b0 (j := 22) rfl)
theorem dLedger_sharesOut_23 : decode (mcc mLedger_sharesOut) 23 = .ok (.invokevirtual 230, 3) := o182 (a := 0) (b := 230) (byt_of hLedger_sharesOut_b0 (j := 23) rfl) (byt_of hLedger_sharesOut_b0 (j := 24) rfl) (byt_of hLedger_sharesOut_b0 (j := 25) rfl) rfl
theorem dLedger_sharesOut_26 : decode (mcc mLedger_sharesOut) 26 = .ok (.istore_n 2, 1) := o61 (byt_of hLedger_sharesOut_b0 (j := 26) rfl)
theorem dLedger_sharesOut_27 : decode (mcc mLedger_sharesOut) 27 = .ok (.iconst 0, 1) := o3 (byt_of hLedger_sharesOut_b0 (j := 27) rfl)
theorem dLedger_sharesOut_28 : decode (mcc mLedger_sharesOut) 28 = .ok (.istore_n 3, 1) := o62 (byt_of hLedger_sharesOut_b0 (j := 28) rfl)
theorem dLedger_sharesOut_29 : decode (mcc mLedger_sharesOut) 29 = .ok (.iload_n 3, 1) := o29 (byt_of hLedger_sharesOut_b0 (j := 29) rfl)
theorem dLedger_sharesOut_30 : decode (mcc mLedger_sharesOut) 30 = .ok (.aload_n 0, 1) := o42 (byt_of hLedger_sharesOut_b0 (j := 30) rfl)
theorem dLedger_sharesOut_31 : decode (mcc mLedger_sharesOut) 31 = .ok (.getfield 51, 3) := o180 (a := 0) (b := 51) (byt_of hLedger_sharesOut_b0 (j := 31) rfl) (byt_of hLedger_sharesOut_b0 (j := 32) rfl) (byt_of hLedger_sharesOut_b0 (j := 33) rfl) rfl
def bLedger_sharesOut_b1 : List Nat := [0, 51, 180, 0, 147, 27, 46, 162, 0, 35, 42, 28, 182, 0, 233, 54, 4, 21, 4, 2, 160, 0, 5, 3, 172, 42, 180, 0, 37, 21, 4, 92, 46, 4, 96, 79, 132, 3]
theorem hLedger_sharesOut_b1 : BL (mcc mLedger_sharesOut) 32 bLedger_sharesOut_b1 := by decide +kernel
theorem dLedger_sharesOut_34 : decode (mcc mLedger_sharesOut) 34 = .ok (.getfield 147, 3) := o180 (a := 0) (b := 147) (byt_of hLedger_sharesOut_b1 (j := 2) rfl) (byt_of hLedger_sharesOut_b1 (j := 3) rfl) (byt_of hLedger_sharesOut_b1 (j := 4) rfl) rfl
theorem dLedger_sharesOut_37 : decode (mcc mLedger_sharesOut) 37 = .ok (.iload_n 1, 1) := o27 (byt_of hLedger_sharesOut_b1 (j := 5) rfl)
theorem dLedger_sharesOut_38 : decode (mcc mLedger_sharesOut) 38 = .ok (.iaload, 1) := o46 (byt_of hLedger_sharesOut_b1 (j := 6) rfl)
theorem dLedger_sharesOut_39 : decode (mcc mLedger_sharesOut) 39 = .ok (.if_icmp .ge 35, 3) := o162 (a := 0) (b := 35) (byt_of hLedger_sharesOut_b1 (j := 7) rfl) (byt_of hLedger_sharesOut_b1 (j := 8) rfl) (byt_of hLedger_sharesOut_b1 (j := 9) rfl) rfl
theorem dLedger_sharesOut_42 : decode (mcc mLedger_sharesOut) 42 = .ok (.aload_n 0, 1) := o42 (byt_of hLedger_sharesOut_b1 (j := 10) rfl)
theorem dLedger_sharesOut_43 : decode (mcc mLedger_sharesOut) 43 = .ok (.iload_n 2, 1) := o28 (byt_of hLedger_sharesOut_b1 (j := 11) rfl)
theorem dLedger_sharesOut_44 : decode (mcc mLedger_sharesOut) 44 = .ok (.invokevirtual 233, 3) := o182 (a := 0) (b := 233) (byt_of hLedger_sharesOut_b1 (j := 12) rfl) (byt_of hLedger_sharesOut_b1 (j := 13) rfl) (byt_of hLedger_sharesOut_b1 (j := 14) rfl) rfl
theorem dLedger_sharesOut_47 : decode (mcc mLedger_sharesOut) 47 = .ok (.istore 4, 2) := o54 (a := 4) (byt_of hLedger_sharesOut_b1 (j := 15) rfl) (byt_of hLedger_sharesOut_b1 (j := 16) rfl)
theorem dLedger_sharesOut_49 : decode (mcc mLedger_sharesOut) 49 = .ok (.iload 4, 2) := o21 (a := 4) (byt_of hLedger_sharesOut_b1 (j := 17) rfl) (byt_of hLedger_sharesOut_b1 (j := 18) rfl)
theorem dLedger_sharesOut_51 : decode (mcc mLedger_sharesOut) 51 = .ok (.iconst (-1), 1) := o2 (byt_of hLedger_sharesOut_b1 (j := 19) rfl)
theorem dLedger_sharesOut_52 : decode (mcc mLedger_sharesOut) 52 = .ok (.if_icmp .ne 5, 3) := o160 (a := 0) (b := 5) (byt_of hLedger_sharesOut_b1 (j := 20) rfl) (byt_of hLedger_sharesOut_b1 (j := 21) rfl) (byt_of hLedger_sharesOut_b1 (j := 22) rfl) rfl
theorem dLedger_sharesOut_55 : decode (mcc mLedger_sharesOut) 55 = .ok (.iconst 0, 1) := o3 (byt_of hLedger_sharesOut_b1 (j := 23) rfl)
theorem dLedger_sharesOut_56 : decode (mcc mLedger_sharesOut) 56 = .ok (.ireturn, 1) := o172 (byt_of hLedger_sharesOut_b1 (j := 24) rfl)
theorem dLedger_sharesOut_57 : decode (mcc mLedger_sharesOut) 57 = .ok (.aload_n 0, 1) := o42 (byt_of hLedger_sharesOut_b1 (j := 25) rfl)
theorem dLedger_sharesOut_58 : decode (mcc mLedger_sharesOut) 58 = .ok (.getfield 37, 3) := o180 (a := 0) (b := 37) (byt_of hLedger_sharesOut_b1 (j := 26) rfl) (byt_of hLedger_sharesOut_b1 (j := 27) rfl) (byt_of hLedger_sharesOut_b1 (j := 28) rfl) rfl
theorem dLedger_sharesOut_61 : decode (mcc mLedger_sharesOut) 61 = .ok (.iload 4, 2) := o21 (a := 4) (byt_of hLedger_sharesOut_b1 (j := 29) rfl) (byt_of hLedger_sharesOut_b1 (j := 30) rfl)
theorem dLedger_sharesOut_63 : decode (mcc mLedger_sharesOut) 63 = .ok (.dup2, 1) := o92 (byt_of hLedger_sharesOut_b1 (j := 31) rfl)
def bLedger_sharesOut_b2 : List Nat := [46, 4, 96, 79, 132, 3, 1, 167, 255, 214, 4, 172]
theorem hLedger_sharesOut_b2 : BL (mcc mLedger_sharesOut) 64 bLedger_sharesOut_b2 := by decide +kernel
theorem dLedger_sharesOut_64 : decode (mcc mLedger_sharesOut) 64 = .ok (.iaload, 1) := o46 (byt_of hLedger_sharesOut_b2 (j := 0) rfl)
theorem dLedger_sharesOut_65 : decode (mcc mLedger_sharesOut) 65 = .ok (.iconst 1, 1) := o4 (byt_of hLedger_sharesOut_b2 (j := 1) rfl)
theorem dLedger_sharesOut_66 : decode (mcc mLedger_sharesOut) 66 = .ok (.iadd, 1) := o96 (byt_of hLedger_sharesOut_b2 (j := 2) rfl)
theorem dLedger_sharesOut_67 : decode (mcc mLedger_sharesOut) 67 = .ok (.iastore, 1) := o79 (byt_of hLedger_sharesOut_b2 (j := 3) rfl)
theorem dLedger_sharesOut_68 : decode (mcc mLedger_sharesOut) 68 = .ok (.iinc 3 1, 3) := o132 (a := 3) (b := 1) (byt_of hLedger_sharesOut_b2 (j := 4) rfl) (byt_of hLedger_sharesOut_b2 (j := 5) rfl) (byt_of hLedger_sharesOut_b2 (j := 6) rfl) rfl
theorem dLedger_sharesOut_71 : decode (mcc mLedger_sharesOut) 71 = .ok (.goto (-42), 3) := o167 (a := 255) (b := 214) (byt_of hLedger_sharesOut_b2 (j := 7) rfl) (byt_of hLedger_sharesOut_b2 (j := 8) rfl) (byt_of hLedger_sharesOut_b2 (j := 9) rfl) rfl
theorem dLedger_sharesOut_74 : decode (mcc mLedger_sharesOut) 74 = .ok (.iconst 1, 1) := o4 (byt_of hLedger_sharesOut_b2 (j := 10) rfl)
theorem dLedger_sharesOut_75 : decode (mcc mLedger_sharesOut) 75 = .ok (.ireturn, 1) := o172 (byt_of hLedger_sharesOut_b2 (j := 11) rfl)
def bLedger_evenBits_b0 : List Nat := [3, 61, 3, 62, 29, 42, 180, 0, 55, 180, 0, 70, 162, 0, 31, 42, 180, 0, 55, 180, 0, 144, 29, 46, 27, 160, 0, 12, 28, 42, 180, 0, 19, 29, 46, 128, 61, 132]
theorem hLedger_evenBits_b0 : BL (mcc mLedger_evenBits) 0 bLedger_evenBits_b0 := by decide +kernel
theorem dLedger_evenBits_0 : decode (mcc mLedger_evenBits) 0 = .ok (.iconst 0, 1) := o3 (byt_of hLedger_evenBits_b0 (j := 0) rfl)
theorem dLedger_evenBits_1 : decode (mcc mLedger_evenBits) 1 = .ok (.istore_n 2, 1) := o61 (byt_of hLedger_evenBits_b0 (j := 1) rfl)
theorem dLedger_evenBits_2 : decode (mcc mLedger_evenBits) 2 = .ok (.iconst 0, 1) := o3 (byt_of hLedger_evenBits_b0 (j := 2) rfl)
theorem dLedger_evenBits_3 : decode (mcc mLedger_evenBits) 3 = .ok (.istore_n 3, 1) := o62 (byt_of hLedger_evenBits_b0 (j := 3) rfl)
theorem dLedger_evenBits_4 : decode (mcc mLedger_evenBits) 4 = .ok (.iload_n 3, 1) := o29 (byt_of hLedger_evenBits_b0 (j := 4) rfl)
theorem dLedger_evenBits_5 : decode (mcc mLedger_evenBits) 5 = .ok (.aload_n 0, 1) := o42 (byt_of hLedger_evenBits_b0 (j := 5) rfl)
theorem dLedger_evenBits_6 : decode (mcc mLedger_evenBits) 6 = .ok (.getfield 55, 3) := o180 (a := 0) (b := 55) (byt_of hLedger_evenBits_b0 (j := 6) rfl) (byt_of hLedger_evenBits_b0 (j := 7) rfl) (byt_of hLedger_evenBits_b0 (j := 8) rfl) rfl
theorem dLedger_evenBits_9 : decode (mcc mLedger_evenBits) 9 = .ok (.getfield 70, 3) := o180 (a := 0) (b := 70) (byt_of hLedger_evenBits_b0 (j := 9) rfl) (byt_of hLedger_evenBits_b0 (j := 10) rfl) (byt_of hLedger_evenBits_b0 (j := 11) rfl) rfl
theorem dLedger_evenBits_12 : decode (mcc mLedger_evenBits) 12 = .ok (.if_icmp .ge 31, 3) := o162 (a := 0) (b := 31) (byt_of hLedger_evenBits_b0 (j := 12) rfl) (byt_of hLedger_evenBits_b0 (j := 13) rfl) (byt_of hLedger_evenBits_b0 (j := 14) rfl) rfl
theorem dLedger_evenBits_15 : decode (mcc mLedger_evenBits) 15 = .ok (.aload_n 0, 1) := o42 (byt_of hLedger_evenBits_b0 (j := 15) rfl)
theorem dLedger_evenBits_16 : decode (mcc mLedger_evenBits) 16 = .ok (.getfield 55, 3) := o180 (a := 0) (b := 55) (byt_of hLedger_evenBits_b0 (j := 16) rfl) (byt_of hLedger_evenBits_b0 (j := 17) rfl) (byt_of hLedger_evenBits_b0 (j := 18) rfl) rfl
theorem dLedger_evenBits_19 : decode (mcc mLedger_evenBits) 19 = .ok (.getfield 144, 3) := o180 (a := 0) (b := 144) (byt_of hLedger_evenBits_b0 (j := 19) rfl) (byt_of hLedger_evenBits_b0 (j := 20) rfl) (byt_of hLedger_evenBits_b0 (j := 21) rfl) rfl
theorem dLedger_evenBits_22 : decode (mcc mLedger_evenBits) 22 = .ok (.iload_n 3, 1) := o29 (byt_of hLedger_evenBits_b0 (j := 22) rfl)
theorem dLedger_evenBits_23 : decode (mcc mLedger_evenBits) 23 = .ok (.iaload, 1) := o46 (byt_of hLedger_evenBits_b0 (j := 23) rfl)
theorem dLedger_evenBits_24 : decode (mcc mLedger_evenBits) 24 = .ok (.iload_n 1, 1) := o27 (byt_of hLedger_evenBits_b0 (j := 24) rfl)
theorem dLedger_evenBits_25 : decode (mcc mLedger_evenBits) 25 = .ok (.if_icmp .ne 12, 3) := o160 (a := 0) (b := 12) (byt_of hLedger_evenBits_b0 (j := 25) rfl) (byt_of hLedger_evenBits_b0 (j := 26) rfl) (byt_of hLedger_evenBits_b0 (j := 27) rfl) rfl
theorem dLedger_evenBits_28 : decode (mcc mLedger_evenBits) 28 = .ok (.iload_n 2, 1) := o28 (byt_of hLedger_evenBits_b0 (j := 28) rfl)
theorem dLedger_evenBits_29 : decode (mcc mLedger_evenBits) 29 = .ok (.aload_n 0, 1) := o42 (byt_of hLedger_evenBits_b0 (j := 29) rfl)
theorem dLedger_evenBits_30 : decode (mcc mLedger_evenBits) 30 = .ok (.getfield 19, 3) := o180 (a := 0) (b := 19) (byt_of hLedger_evenBits_b0 (j := 30) rfl) (byt_of hLedger_evenBits_b0 (j := 31) rfl) (byt_of hLedger_evenBits_b0 (j := 32) rfl) rfl
def bLedger_evenBits_b1 : List Nat := [19, 29, 46, 128, 61, 132, 3, 1, 167, 255, 220, 3, 62, 29, 42, 180, 0, 47, 180, 0, 82, 162, 0, 48, 42, 180, 0, 47, 29, 182, 0, 140, 153, 0, 23, 42, 180, 0]
theorem hLedger_evenBits_b1 : BL (mcc mLedger_evenBits) 32 bLedger_evenBits_b1 := by decide +kernel
theorem dLedger_evenBits_33 : decode (mcc mLedger_evenBits) 33 = .ok (.iload_n 3, 1) := o29 (byt_of hLedger_evenBits_b1 (j := 1) rfl)
theorem dLedger_evenBits_34 : decode (mcc mLedger_evenBits) 34 = .ok (.iaload, 1) := o46 (byt_of hLedger_evenBits_b1 (j := 2) rfl)
theorem dLedger_evenBits_35 : decode (mcc mLedger_evenBits) 35 = .ok (.ior, 1) := o128 (byt_of hLedger_evenBits_b1 (j := 3) rfl)
theorem dLedger_evenBits_36 : decode (mcc mLedger_evenBits) 36 = .ok (.istore_n 2, 1) := o61 (byt_of hLedger_evenBits_b1 (j := 4) rfl)
theorem dLedger_evenBits_37 : decode (mcc mLedger_evenBits) 37 = .ok (.iinc 3 1, 3) := o132 (a := 3) (b := 1) (byt_of hLedger_evenBits_b1 (j := 5) rfl) (byt_of hLedger_evenBits_b1 (j := 6) rfl) (byt_of hLedger_evenBits_b1 (j := 7) rfl) rfl
theorem dLedger_evenBits_40 : decode (mcc mLedger_evenBits) 40 = .ok (.goto (-36), 3) := o167 (a := 255) (b := 220) (byt_of hLedger_evenBits_b1 (j := 8) rfl) (byt_of hLedger_evenBits_b1 (j := 9) rfl) (byt_of hLedger_evenBits_b1 (j := 10) rfl) rfl
theorem dLedger_evenBits_43 : decode (mcc mLedger_evenBits) 43 = .ok (.iconst 0, 1) := o3 (byt_of hLedger_evenBits_b1 (j := 11) rfl)
theorem dLedger_evenBits_44 : decode (mcc mLedger_evenBits) 44 = .ok (.istore_n 3, 1) := o62 (byt_of hLedger_evenBits_b1 (j := 12) rfl)
theorem dLedger_evenBits_45 : decode (mcc mLedger_evenBits) 45 = .ok (.iload_n 3, 1) := o29 (byt_of hLedger_evenBits_b1 (j := 13) rfl)
theorem dLedger_evenBits_46 : decode (mcc mLedger_evenBits) 46 = .ok (.aload_n 0, 1) := o42 (byt_of hLedger_evenBits_b1 (j := 14) rfl)
theorem dLedger_evenBits_47 : decode (mcc mLedger_evenBits) 47 = .ok (.getfield 47, 3) := o180 (a := 0) (b := 47) (byt_of hLedger_evenBits_b1 (j := 15) rfl) (byt_of hLedger_evenBits_b1 (j := 16) rfl) (byt_of hLedger_evenBits_b1 (j := 17) rfl) rfl
theorem dLedger_evenBits_50 : decode (mcc mLedger_evenBits) 50 = .ok (.getfield 82, 3) := o180 (a := 0) (b := 82) (byt_of hLedger_evenBits_b1 (j := 18) rfl) (byt_of hLedger_evenBits_b1 (j := 19) rfl) (byt_of hLedger_evenBits_b1 (j := 20) rfl) rfl
theorem dLedger_evenBits_53 : decode (mcc mLedger_evenBits) 53 = .ok (.if_icmp .ge 48, 3) := o162 (a := 0) (b := 48) (byt_of hLedger_evenBits_b1 (j := 21) rfl) (byt_of hLedger_evenBits_b1 (j := 22) rfl) (byt_of hLedger_evenBits_b1 (j := 23) rfl) rfl
theorem dLedger_evenBits_56 : decode (mcc mLedger_evenBits) 56 = .ok (.aload_n 0, 1) := o42 (byt_of hLedger_evenBits_b1 (j := 24) rfl)
theorem dLedger_evenBits_57 : decode (mcc mLedger_evenBits) 57 = .ok (.getfield 47, 3) := o180 (a := 0) (b := 47) (byt_of hLedger_evenBits_b1 (j := 25) rfl) (byt_of hLedger_evenBits_b1 (j := 26) rfl) (byt_of hLedger_evenBits_b1 (j := 27) rfl) rfl
theorem dLedger_evenBits_60 : decode (mcc mLedger_evenBits) 60 = .ok (.iload_n 3, 1) := o29 (byt_of hLedger_evenBits_b1 (j := 28) rfl)
theorem dLedger_evenBits_61 : decode (mcc mLedger_evenBits) 61 = .ok (.invokevirtual 140, 3) := o182 (a := 0) (b := 140) (byt_of hLedger_evenBits_b1 (j := 29) rfl) (byt_of hLedger_evenBits_b1 (j := 30) rfl) (byt_of hLedger_evenBits_b1 (j := 31) rfl) rfl
def bLedger_evenBits_b2 : List Nat := [153, 0, 23, 42, 180, 0, 47, 29, 42, 180, 0, 51, 180, 0, 158, 27, 46, 182, 0, 161, 154, 0, 11, 28, 4, 29, 120, 2, 130, 126, 61, 132, 3, 1, 167, 255, 203, 28]
theorem hLedger_evenBits_b2 : BL (mcc mLedger_evenBits) 64 bLedger_evenBits_b2 := by decide +kernel
theorem dLedger_evenBits_64 : decode (mcc mLedger_evenBits) 64 = .ok (.ifCond .eq 23, 3) := o153 (a := 0) (b := 23) (byt_of hLedger_evenBits_b2 (j := 0) rfl) (byt_of hLedger_evenBits_b2 (j := 1) rfl) (byt_of hLedger_evenBits_b2 (j := 2) rfl) rfl
theorem dLedger_evenBits_67 : decode (mcc mLedger_evenBits) 67 = .ok (.aload_n 0, 1) := o42 (byt_of hLedger_evenBits_b2 (j := 3) rfl)
theorem dLedger_evenBits_68 : decode (mcc mLedger_evenBits) 68 = .ok (.getfield 47, 3) := o180 (a := 0) (b := 47) (byt_of hLedger_evenBits_b2 (j := 4) rfl) (byt_of hLedger_evenBits_b2 (j := 5) rfl) (byt_of hLedger_evenBits_b2 (j := 6) rfl) rfl
theorem dLedger_evenBits_71 : decode (mcc mLedger_evenBits) 71 = .ok (.iload_n 3, 1) := o29 (byt_of hLedger_evenBits_b2 (j := 7) rfl)
theorem dLedger_evenBits_72 : decode (mcc mLedger_evenBits) 72 = .ok (.aload_n 0, 1) := o42 (byt_of hLedger_evenBits_b2 (j := 8) rfl)
theorem dLedger_evenBits_73 : decode (mcc mLedger_evenBits) 73 = .ok (.getfield 51, 3) := o180 (a := 0) (b := 51) (byt_of hLedger_evenBits_b2 (j := 9) rfl) (byt_of hLedger_evenBits_b2 (j := 10) rfl) (byt_of hLedger_evenBits_b2 (j := 11) rfl) rfl
theorem dLedger_evenBits_76 : decode (mcc mLedger_evenBits) 76 = .ok (.getfield 158, 3) := o180 (a := 0) (b := 158) (byt_of hLedger_evenBits_b2 (j := 12) rfl) (byt_of hLedger_evenBits_b2 (j := 13) rfl) (byt_of hLedger_evenBits_b2 (j := 14) rfl) rfl
theorem dLedger_evenBits_79 : decode (mcc mLedger_evenBits) 79 = .ok (.iload_n 1, 1) := o27 (byt_of hLedger_evenBits_b2 (j := 15) rfl)
theorem dLedger_evenBits_80 : decode (mcc mLedger_evenBits) 80 = .ok (.iaload, 1) := o46 (byt_of hLedger_evenBits_b2 (j := 16) rfl)
theorem dLedger_evenBits_81 : decode (mcc mLedger_evenBits) 81 = .ok (.invokevirtual 161, 3) := o182 (a := 0) (b := 161) (byt_of hLedger_evenBits_b2 (j := 17) rfl) (byt_of hLedger_evenBits_b2 (j := 18) rfl) (byt_of hLedger_evenBits_b2 (j := 19) rfl) rfl
theorem dLedger_evenBits_84 : decode (mcc mLedger_evenBits) 84 = .ok (.ifCond .ne 11, 3) := o154 (a := 0) (b := 11) (byt_of hLedger_evenBits_b2 (j := 20) rfl) (byt_of hLedger_evenBits_b2 (j := 21) rfl) (byt_of hLedger_evenBits_b2 (j := 22) rfl) rfl
theorem dLedger_evenBits_87 : decode (mcc mLedger_evenBits) 87 = .ok (.iload_n 2, 1) := o28 (byt_of hLedger_evenBits_b2 (j := 23) rfl)
theorem dLedger_evenBits_88 : decode (mcc mLedger_evenBits) 88 = .ok (.iconst 1, 1) := o4 (byt_of hLedger_evenBits_b2 (j := 24) rfl)
theorem dLedger_evenBits_89 : decode (mcc mLedger_evenBits) 89 = .ok (.iload_n 3, 1) := o29 (byt_of hLedger_evenBits_b2 (j := 25) rfl)
theorem dLedger_evenBits_90 : decode (mcc mLedger_evenBits) 90 = .ok (.ishl, 1) := o120 (byt_of hLedger_evenBits_b2 (j := 26) rfl)
theorem dLedger_evenBits_91 : decode (mcc mLedger_evenBits) 91 = .ok (.iconst (-1), 1) := o2 (byt_of hLedger_evenBits_b2 (j := 27) rfl)
theorem dLedger_evenBits_92 : decode (mcc mLedger_evenBits) 92 = .ok (.ixor, 1) := o130 (byt_of hLedger_evenBits_b2 (j := 28) rfl)
theorem dLedger_evenBits_93 : decode (mcc mLedger_evenBits) 93 = .ok (.iand, 1) := o126 (byt_of hLedger_evenBits_b2 (j := 29) rfl)
theorem dLedger_evenBits_94 : decode (mcc mLedger_evenBits) 94 = .ok (.istore_n 2, 1) := o61 (byt_of hLedger_evenBits_b2 (j := 30) rfl)
theorem dLedger_evenBits_95 : decode (mcc mLedger_evenBits) 95 = .ok (.iinc 3 1, 3) := o132 (a := 3) (b := 1) (byt_of hLedger_evenBits_b2 (j := 31) rfl) (byt_of hLedger_evenBits_b2 (j := 32) rfl) (byt_of hLedger_evenBits_b2 (j := 33) rfl) rfl
def bLedger_evenBits_b3 : List Nat := [3, 1, 167, 255, 203, 28, 172]
theorem hLedger_evenBits_b3 : BL (mcc mLedger_evenBits) 96 bLedger_evenBits_b3 := by decide +kernel
theorem dLedger_evenBits_98 : decode (mcc mLedger_evenBits) 98 = .ok (.goto (-53), 3) := o167 (a := 255) (b := 203) (byt_of hLedger_evenBits_b3 (j := 2) rfl) (byt_of hLedger_evenBits_b3 (j := 3) rfl) (byt_of hLedger_evenBits_b3 (j := 4) rfl) rfl
theorem dLedger_evenBits_101 : decode (mcc mLedger_evenBits) 101 = .ok (.iload_n 2, 1) := o28 (byt_of hLedger_evenBits_b3 (j := 5) rfl)
theorem dLedger_evenBits_102 : decode (mcc mLedger_evenBits) 102 = .ok (.ireturn, 1) := o172 (byt_of hLedger_evenBits_b3 (j := 6) rfl)
def bLedger_lightest_b0 : List Nat := [2, 61, 3, 62, 3, 54, 4, 21, 4, 42, 180, 0, 47, 180, 0, 82, 162, 0, 90, 42, 180, 0, 47, 180, 0, 199, 21, 4, 46, 42, 180, 0, 37, 21, 4, 46, 4, 96]
theorem hLedger_lightest_b0 : BL (mcc mLedger_lightest) 0 bLedger_lightest_b0 := by decide +kernel
theorem dLedger_lightest_0 : decode (mcc mLedger_lightest) 0 = .ok (.iconst (-1), 1) := o2 (byt_of hLedger_lightest_b0 (j := 0) rfl)
theorem dLedger_lightest_1 : decode (mcc mLedger_lightest) 1 = .ok (.istore_n 2, 1) := o61 (byt_of hLedger_lightest_b0 (j := 1) rfl)
theorem dLedger_lightest_2 : decode (mcc mLedger_lightest) 2 = .ok (.iconst 0, 1) := o3 (byt_of hLedger_lightest_b0 (j := 2) rfl)
theorem dLedger_lightest_3 : decode (mcc mLedger_lightest) 3 = .ok (.istore_n 3, 1) := o62 (byt_of hLedger_lightest_b0 (j := 3) rfl)
theorem dLedger_lightest_4 : decode (mcc mLedger_lightest) 4 = .ok (.iconst 0, 1) := o3 (byt_of hLedger_lightest_b0 (j := 4) rfl)
theorem dLedger_lightest_5 : decode (mcc mLedger_lightest) 5 = .ok (.istore 4, 2) := o54 (a := 4) (byt_of hLedger_lightest_b0 (j := 5) rfl) (byt_of hLedger_lightest_b0 (j := 6) rfl)
theorem dLedger_lightest_7 : decode (mcc mLedger_lightest) 7 = .ok (.iload 4, 2) := o21 (a := 4) (byt_of hLedger_lightest_b0 (j := 7) rfl) (byt_of hLedger_lightest_b0 (j := 8) rfl)
theorem dLedger_lightest_9 : decode (mcc mLedger_lightest) 9 = .ok (.aload_n 0, 1) := o42 (byt_of hLedger_lightest_b0 (j := 9) rfl)
theorem dLedger_lightest_10 : decode (mcc mLedger_lightest) 10 = .ok (.getfield 47, 3) := o180 (a := 0) (b := 47) (byt_of hLedger_lightest_b0 (j := 10) rfl) (byt_of hLedger_lightest_b0 (j := 11) rfl) (byt_of hLedger_lightest_b0 (j := 12) rfl) rfl
theorem dLedger_lightest_13 : decode (mcc mLedger_lightest) 13 = .ok (.getfield 82, 3) := o180 (a := 0) (b := 82) (byt_of hLedger_lightest_b0 (j := 13) rfl) (byt_of hLedger_lightest_b0 (j := 14) rfl) (byt_of hLedger_lightest_b0 (j := 15) rfl) rfl
theorem dLedger_lightest_16 : decode (mcc mLedger_lightest) 16 = .ok (.if_icmp .ge 90, 3) := o162 (a := 0) (b := 90) (byt_of hLedger_lightest_b0 (j := 16) rfl) (byt_of hLedger_lightest_b0 (j := 17) rfl) (byt_of hLedger_lightest_b0 (j := 18) rfl) rfl
theorem dLedger_lightest_19 : decode (mcc mLedger_lightest) 19 = .ok (.aload_n 0, 1) := o42 (byt_of hLedger_lightest_b0 (j := 19) rfl)
theorem dLedger_lightest_20 : decode (mcc mLedger_lightest) 20 = .ok (.getfield 47, 3) := o180 (a := 0) (b := 47) (byt_of hLedger_lightest_b0 (j := 20) rfl) (byt_of hLedger_lightest_b0 (j := 21) rfl) (byt_of hLedger_lightest_b0 (j := 22) rfl) rfl
theorem dLedger_lightest_23 : decode (mcc mLedger_lightest) 23 = .ok (.getfield 199, 3) := o180 (a := 0) (b := 199) (byt_of hLedger_lightest_b0 (j := 23) rfl) (byt_of hLedger_lightest_b0 (j := 24) rfl) (byt_of hLedger_lightest_b0 (j := 25) rfl) rfl
theorem dLedger_lightest_26 : decode (mcc mLedger_lightest) 26 = .ok (.iload 4, 2) := o21 (a := 4) (byt_of hLedger_lightest_b0 (j := 26) rfl) (byt_of hLedger_lightest_b0 (j := 27) rfl)
theorem dLedger_lightest_28 : decode (mcc mLedger_lightest) 28 = .ok (.iaload, 1) := o46 (byt_of hLedger_lightest_b0 (j := 28) rfl)
theorem dLedger_lightest_29 : decode (mcc mLedger_lightest) 29 = .ok (.aload_n 0, 1) := o42 (byt_of hLedger_lightest_b0 (j := 29) rfl)
theorem dLedger_lightest_30 : decode (mcc mLedger_lightest) 30 = .ok (.getfield 37, 3) := o180 (a := 0) (b := 37) (byt_of hLedger_lightest_b0 (j := 30) rfl) (byt_of hLedger_lightest_b0 (j := 31) rfl) (byt_of hLedger_lightest_b0 (j := 32) rfl) rfl
def bLedger_lightest_b1 : List Nat := [37, 21, 4, 46, 4, 96, 104, 54, 5, 27, 21, 4, 122, 4, 126, 4, 160, 0, 27, 42, 180, 0, 37, 21, 4, 46, 42, 180, 0, 47, 180, 0, 187, 21, 4, 46, 162, 0]
theorem hLedger_lightest_b1 : BL (mcc mLedger_lightest) 32 bLedger_lightest_b1 := by decide +kernel
theorem dLedger_lightest_33 : decode (mcc mLedger_lightest) 33 = .ok (.iload 4, 2) := o21 (a := 4) (byt_of hLedger_lightest_b1 (j := 1) rfl) (byt_of hLedger_lightest_b1 (j := 2) rfl)
theorem dLedger_lightest_35 : decode (mcc mLedger_lightest) 35 = .ok (.iaload, 1) := o46 (byt_of hLedger_lightest_b1 (j := 3) rfl)
theorem dLedger_lightest_36 : decode (mcc mLedger_lightest) 36 = .ok (.iconst 1, 1) := o4 (byt_of hLedger_lightest_b1 (j := 4) rfl)
theorem dLedger_lightest_37 : decode (mcc mLedger_lightest) 37 = .ok (.iadd, 1) := o96 (byt_of hLedger_lightest_b1 (j := 5) rfl)
theorem dLedger_lightest_38 : decode (mcc mLedger_lightest) 38 = .ok (.imul, 1) := o104 (byt_of hLedger_lightest_b1 (j := 6) rfl)
theorem dLedger_lightest_39 : decode (mcc mLedger_lightest) 39 = .ok (.istore 5, 2) := o54 (a := 5) (byt_of hLedger_lightest_b1 (j := 7) rfl) (byt_of hLedger_lightest_b1 (j := 8) rfl)
theorem dLedger_lightest_41 : decode (mcc mLedger_lightest) 41 = .ok (.iload_n 1, 1) := o27 (byt_of hLedger_lightest_b1 (j := 9) rfl)
theorem dLedger_lightest_42 : decode (mcc mLedger_lightest) 42 = .ok (.iload 4, 2) := o21 (a := 4) (byt_of hLedger_lightest_b1 (j := 10) rfl) (byt_of hLedger_lightest_b1 (j := 11) rfl)
theorem dLedger_lightest_44 : decode (mcc mLedger_lightest) 44 = .ok (.ishr, 1) := o122 (byt_of hLedger_lightest_b1 (j := 12) rfl)
theorem dLedger_lightest_45 : decode (mcc mLedger_lightest) 45 = .ok (.iconst 1, 1) := o4 (byt_of hLedger_lightest_b1 (j := 13) rfl)
theorem dLedger_lightest_46 : decode (mcc mLedger_lightest) 46 = .ok (.iand, 1) := o126 (byt_of hLedger_lightest_b1 (j := 14) rfl)
theorem dLedger_lightest_47 : decode (mcc mLedger_lightest) 47 = .ok (.iconst 1, 1) := o4 (byt_of hLedger_lightest_b1 (j := 15) rfl)
theorem dLedger_lightest_48 : decode (mcc mLedger_lightest) 48 = .ok (.if_icmp .ne 27, 3) := o160 (a := 0) (b := 27) (byt_of hLedger_lightest_b1 (j := 16) rfl) (byt_of hLedger_lightest_b1 (j := 17) rfl) (byt_of hLedger_lightest_b1 (j := 18) rfl) rfl
theorem dLedger_lightest_51 : decode (mcc mLedger_lightest) 51 = .ok (.aload_n 0, 1) := o42 (byt_of hLedger_lightest_b1 (j := 19) rfl)
theorem dLedger_lightest_52 : decode (mcc mLedger_lightest) 52 = .ok (.getfield 37, 3) := o180 (a := 0) (b := 37) (byt_of hLedger_lightest_b1 (j := 20) rfl) (byt_of hLedger_lightest_b1 (j := 21) rfl) (byt_of hLedger_lightest_b1 (j := 22) rfl) rfl
theorem dLedger_lightest_55 : decode (mcc mLedger_lightest) 55 = .ok (.iload 4, 2) := o21 (a := 4) (byt_of hLedger_lightest_b1 (j := 23) rfl) (byt_of hLedger_lightest_b1 (j := 24) rfl)
theorem dLedger_lightest_57 : decode (mcc mLedger_lightest) 57 = .ok (.iaload, 1) := o46 (byt_of hLedger_lightest_b1 (j := 25) rfl)
theorem dLedger_lightest_58 : decode (mcc mLedger_lightest) 58 = .ok (.aload_n 0, 1) := o42 (byt_of hLedger_lightest_b1 (j := 26) rfl)
theorem dLedger_lightest_59 : decode (mcc mLedger_lightest) 59 = .ok (.getfield 47, 3) := o180 (a := 0) (b := 47) (byt_of hLedger_lightest_b1 (j := 27) rfl) (byt_of hLedger_lightest_b1 (j := 28) rfl) (byt_of hLedger_lightest_b1 (j := 29) rfl) rfl
theorem dLedger_lightest_62 : decode (mcc mLedger_lightest) 62 = .ok (.getfield 187, 3) := o180 (a := 0) (b := 187) (byt_of hLedger_lightest_b1 (j := 30) rfl) (byt_of hLedger_lightest_b1 (j := 31) rfl) (byt_of hLedger_lightest_b1 (j := 32) rfl) rfl
def bLedger_lightest_b2 : List Nat := [187, 21, 4, 46, 162, 0, 7, 4, 167, 0, 4, 3, 54, 6, 21, 6, 153, 0, 20, 28, 2, 159, 0, 9, 21, 5, 29, 162, 0, 9, 21, 4, 61, 21, 5, 62, 132, 4]
theorem hLedger_lightest_b2 : BL (mcc mLedger_lightest) 64 bLedger_lightest_b2 := by decide +kernel
theorem dLedger_lightest_65 : decode (mcc mLedger_lightest) 65 = .ok (.iload 4, 2) := o21 (a := 4) (byt_of hLedger_lightest_b2 (j := 1) rfl) (byt_of hLedger_lightest_b2 (j := 2) rfl)
theorem dLedger_lightest_67 : decode (mcc mLedger_lightest) 67 = .ok (.iaload, 1) := o46 (byt_of hLedger_lightest_b2 (j := 3) rfl)
theorem dLedger_lightest_68 : decode (mcc mLedger_lightest) 68 = .ok (.if_icmp .ge 7, 3) := o162 (a := 0) (b := 7) (byt_of hLedger_lightest_b2 (j := 4) rfl) (byt_of hLedger_lightest_b2 (j := 5) rfl) (byt_of hLedger_lightest_b2 (j := 6) rfl) rfl
theorem dLedger_lightest_71 : decode (mcc mLedger_lightest) 71 = .ok (.iconst 1, 1) := o4 (byt_of hLedger_lightest_b2 (j := 7) rfl)
theorem dLedger_lightest_72 : decode (mcc mLedger_lightest) 72 = .ok (.goto 4, 3) := o167 (a := 0) (b := 4) (byt_of hLedger_lightest_b2 (j := 8) rfl) (byt_of hLedger_lightest_b2 (j := 9) rfl) (byt_of hLedger_lightest_b2 (j := 10) rfl) rfl
theorem dLedger_lightest_75 : decode (mcc mLedger_lightest) 75 = .ok (.iconst 0, 1) := o3 (byt_of hLedger_lightest_b2 (j := 11) rfl)
theorem dLedger_lightest_76 : decode (mcc mLedger_lightest) 76 = .ok (.istore 6, 2) := o54 (a := 6) (byt_of hLedger_lightest_b2 (j := 12) rfl) (byt_of hLedger_lightest_b2 (j := 13) rfl)
theorem dLedger_lightest_78 : decode (mcc mLedger_lightest) 78 = .ok (.iload 6, 2) := o21 (a := 6) (byt_of hLedger_lightest_b2 (j := 14) rfl) (byt_of hLedger_lightest_b2 (j := 15) rfl)
theorem dLedger_lightest_80 : decode (mcc mLedger_lightest) 80 = .ok (.ifCond .eq 20, 3) := o153 (a := 0) (b := 20) (byt_of hLedger_lightest_b2 (j := 16) rfl) (byt_of hLedger_lightest_b2 (j := 17) rfl) (byt_of hLedger_lightest_b2 (j := 18) rfl) rfl
theorem dLedger_lightest_83 : decode (mcc mLedger_lightest) 83 = .ok (.iload_n 2, 1) := o28 (byt_of hLedger_lightest_b2 (j := 19) rfl)
theorem dLedger_lightest_84 : decode (mcc mLedger_lightest) 84 = .ok (.iconst (-1), 1) := o2 (byt_of hLedger_lightest_b2 (j := 20) rfl)
theorem dLedger_lightest_85 : decode (mcc mLedger_lightest) 85 = .ok (.if_icmp .eq 9, 3) := o159 (a := 0) (b := 9) (byt_of hLedger_lightest_b2 (j := 21) rfl) (byt_of hLedger_lightest_b2 (j := 22) rfl) (byt_of hLedger_lightest_b2 (j := 23) rfl) rfl
theorem dLedger_lightest_88 : decode (mcc mLedger_lightest) 88 = .ok (.iload 5, 2) := o21 (a := 5) (byt_of hLedger_lightest_b2 (j := 24) rfl) (byt_of hLedger_lightest_b2 (j := 25) rfl)
theorem dLedger_lightest_90 : decode (mcc mLedger_lightest) 90 = .ok (.iload_n 3, 1) := o29 (byt_of hLedger_lightest_b2 (j := 26) rfl)
theorem dLedger_lightest_91 : decode (mcc mLedger_lightest) 91 = .ok (.if_icmp .ge 9, 3) := o162 (a := 0) (b := 9) (byt_of hLedger_lightest_b2 (j := 27) rfl) (byt_of hLedger_lightest_b2 (j := 28) rfl) (byt_of hLedger_lightest_b2 (j := 29) rfl) rfl
theorem dLedger_lightest_94 : decode (mcc mLedger_lightest) 94 = .ok (.iload 4, 2) := o21 (a := 4) (byt_of hLedger_lightest_b2 (j := 30) rfl) (byt_of hLedger_lightest_b2 (j := 31) rfl)
def bLedger_lightest_b3 : List Nat := [61, 21, 5, 62, 132, 4, 1, 167, 255, 160, 28, 172]
theorem hLedger_lightest_b3 : BL (mcc mLedger_lightest) 96 bLedger_lightest_b3 := by decide +kernel
theorem dLedger_lightest_96 : decode (mcc mLedger_lightest) 96 = .ok (.istore_n 2, 1) := o61 (byt_of hLedger_lightest_b3 (j := 0) rfl)
theorem dLedger_lightest_97 : decode (mcc mLedger_lightest) 97 = .ok (.iload 5, 2) := o21 (a := 5) (byt_of hLedger_lightest_b3 (j := 1) rfl) (byt_of hLedger_lightest_b3 (j := 2) rfl)
theorem dLedger_lightest_99 : decode (mcc mLedger_lightest) 99 = .ok (.istore_n 3, 1) := o62 (byt_of hLedger_lightest_b3 (j := 3) rfl)
theorem dLedger_lightest_100 : decode (mcc mLedger_lightest) 100 = .ok (.iinc 4 1, 3) := o132 (a := 4) (b := 1) (byt_of hLedger_lightest_b3 (j := 4) rfl) (byt_of hLedger_lightest_b3 (j := 5) rfl) (byt_of hLedger_lightest_b3 (j := 6) rfl) rfl
theorem dLedger_lightest_103 : decode (mcc mLedger_lightest) 103 = .ok (.goto (-96), 3) := o167 (a := 255) (b := 160) (byt_of hLedger_lightest_b3 (j := 7) rfl) (byt_of hLedger_lightest_b3 (j := 8) rfl) (byt_of hLedger_lightest_b3 (j := 9) rfl) rfl
theorem dLedger_lightest_106 : decode (mcc mLedger_lightest) 106 = .ok (.iload_n 2, 1) := o28 (byt_of hLedger_lightest_b3 (j := 10) rfl)
theorem dLedger_lightest_107 : decode (mcc mLedger_lightest) 107 = .ok (.ireturn, 1) := o172 (byt_of hLedger_lightest_b3 (j := 11) rfl)
def bLedger_chanceOf_b0 : List Nat := [20, 0, 236, 66, 3, 54, 5, 21, 5, 42, 180, 0, 55, 180, 0, 70, 162, 0, 46, 42, 180, 0, 55, 180, 0, 144, 21, 5, 46, 28, 160, 0, 26, 33, 16, 100, 42, 180]
theorem hLedger_chanceOf_b0 : BL (mcc mLedger_chanceOf) 0 bLedger_chanceOf_b0 := by decide +kernel
theorem dLedger_chanceOf_0 : decode (mcc mLedger_chanceOf) 0 = .ok (.ldc2_w 236, 3) := o20 (a := 0) (b := 236) (byt_of hLedger_chanceOf_b0 (j := 0) rfl) (byt_of hLedger_chanceOf_b0 (j := 1) rfl) (byt_of hLedger_chanceOf_b0 (j := 2) rfl) rfl
theorem dLedger_chanceOf_3 : decode (mcc mLedger_chanceOf) 3 = .ok (.lstore_n 3, 1) := o66 (byt_of hLedger_chanceOf_b0 (j := 3) rfl)
theorem dLedger_chanceOf_4 : decode (mcc mLedger_chanceOf) 4 = .ok (.iconst 0, 1) := o3 (byt_of hLedger_chanceOf_b0 (j := 4) rfl)
theorem dLedger_chanceOf_5 : decode (mcc mLedger_chanceOf) 5 = .ok (.istore 5, 2) := o54 (a := 5) (byt_of hLedger_chanceOf_b0 (j := 5) rfl) (byt_of hLedger_chanceOf_b0 (j := 6) rfl)
theorem dLedger_chanceOf_7 : decode (mcc mLedger_chanceOf) 7 = .ok (.iload 5, 2) := o21 (a := 5) (byt_of hLedger_chanceOf_b0 (j := 7) rfl) (byt_of hLedger_chanceOf_b0 (j := 8) rfl)
theorem dLedger_chanceOf_9 : decode (mcc mLedger_chanceOf) 9 = .ok (.aload_n 0, 1) := o42 (byt_of hLedger_chanceOf_b0 (j := 9) rfl)
theorem dLedger_chanceOf_10 : decode (mcc mLedger_chanceOf) 10 = .ok (.getfield 55, 3) := o180 (a := 0) (b := 55) (byt_of hLedger_chanceOf_b0 (j := 10) rfl) (byt_of hLedger_chanceOf_b0 (j := 11) rfl) (byt_of hLedger_chanceOf_b0 (j := 12) rfl) rfl
theorem dLedger_chanceOf_13 : decode (mcc mLedger_chanceOf) 13 = .ok (.getfield 70, 3) := o180 (a := 0) (b := 70) (byt_of hLedger_chanceOf_b0 (j := 13) rfl) (byt_of hLedger_chanceOf_b0 (j := 14) rfl) (byt_of hLedger_chanceOf_b0 (j := 15) rfl) rfl
theorem dLedger_chanceOf_16 : decode (mcc mLedger_chanceOf) 16 = .ok (.if_icmp .ge 46, 3) := o162 (a := 0) (b := 46) (byt_of hLedger_chanceOf_b0 (j := 16) rfl) (byt_of hLedger_chanceOf_b0 (j := 17) rfl) (byt_of hLedger_chanceOf_b0 (j := 18) rfl) rfl
theorem dLedger_chanceOf_19 : decode (mcc mLedger_chanceOf) 19 = .ok (.aload_n 0, 1) := o42 (byt_of hLedger_chanceOf_b0 (j := 19) rfl)
theorem dLedger_chanceOf_20 : decode (mcc mLedger_chanceOf) 20 = .ok (.getfield 55, 3) := o180 (a := 0) (b := 55) (byt_of hLedger_chanceOf_b0 (j := 20) rfl) (byt_of hLedger_chanceOf_b0 (j := 21) rfl) (byt_of hLedger_chanceOf_b0 (j := 22) rfl) rfl
theorem dLedger_chanceOf_23 : decode (mcc mLedger_chanceOf) 23 = .ok (.getfield 144, 3) := o180 (a := 0) (b := 144) (byt_of hLedger_chanceOf_b0 (j := 23) rfl) (byt_of hLedger_chanceOf_b0 (j := 24) rfl) (byt_of hLedger_chanceOf_b0 (j := 25) rfl) rfl
theorem dLedger_chanceOf_26 : decode (mcc mLedger_chanceOf) 26 = .ok (.iload 5, 2) := o21 (a := 5) (byt_of hLedger_chanceOf_b0 (j := 26) rfl) (byt_of hLedger_chanceOf_b0 (j := 27) rfl)
theorem dLedger_chanceOf_28 : decode (mcc mLedger_chanceOf) 28 = .ok (.iaload, 1) := o46 (byt_of hLedger_chanceOf_b0 (j := 28) rfl)
theorem dLedger_chanceOf_29 : decode (mcc mLedger_chanceOf) 29 = .ok (.iload_n 2, 1) := o28 (byt_of hLedger_chanceOf_b0 (j := 29) rfl)
theorem dLedger_chanceOf_30 : decode (mcc mLedger_chanceOf) 30 = .ok (.if_icmp .ne 26, 3) := o160 (a := 0) (b := 26) (byt_of hLedger_chanceOf_b0 (j := 30) rfl) (byt_of hLedger_chanceOf_b0 (j := 31) rfl) (byt_of hLedger_chanceOf_b0 (j := 32) rfl) rfl
def bLedger_chanceOf_b1 : List Nat := [26, 33, 16, 100, 42, 180, 0, 15, 21, 5, 16, 8, 104, 27, 96, 46, 100, 133, 105, 20, 0, 222, 109, 66, 132, 5, 1, 167, 255, 204, 20, 0, 236, 33, 101, 173]
theorem hLedger_chanceOf_b1 : BL (mcc mLedger_chanceOf) 32 bLedger_chanceOf_b1 := by decide +kernel
theorem dLedger_chanceOf_33 : decode (mcc mLedger_chanceOf) 33 = .ok (.lload_n 3, 1) := o33 (byt_of hLedger_chanceOf_b1 (j := 1) rfl)
theorem dLedger_chanceOf_34 : decode (mcc mLedger_chanceOf) 34 = .ok (.bipush 100, 2) := o16 (a := 100) (byt_of hLedger_chanceOf_b1 (j := 2) rfl) (byt_of hLedger_chanceOf_b1 (j := 3) rfl) rfl
theorem dLedger_chanceOf_36 : decode (mcc mLedger_chanceOf) 36 = .ok (.aload_n 0, 1) := o42 (byt_of hLedger_chanceOf_b1 (j := 4) rfl)
theorem dLedger_chanceOf_37 : decode (mcc mLedger_chanceOf) 37 = .ok (.getfield 15, 3) := o180 (a := 0) (b := 15) (byt_of hLedger_chanceOf_b1 (j := 5) rfl) (byt_of hLedger_chanceOf_b1 (j := 6) rfl) (byt_of hLedger_chanceOf_b1 (j := 7) rfl) rfl
theorem dLedger_chanceOf_40 : decode (mcc mLedger_chanceOf) 40 = .ok (.iload 5, 2) := o21 (a := 5) (byt_of hLedger_chanceOf_b1 (j := 8) rfl) (byt_of hLedger_chanceOf_b1 (j := 9) rfl)
theorem dLedger_chanceOf_42 : decode (mcc mLedger_chanceOf) 42 = .ok (.bipush 8, 2) := o16 (a := 8) (byt_of hLedger_chanceOf_b1 (j := 10) rfl) (byt_of hLedger_chanceOf_b1 (j := 11) rfl) rfl
theorem dLedger_chanceOf_44 : decode (mcc mLedger_chanceOf) 44 = .ok (.imul, 1) := o104 (byt_of hLedger_chanceOf_b1 (j := 12) rfl)
theorem dLedger_chanceOf_45 : decode (mcc mLedger_chanceOf) 45 = .ok (.iload_n 1, 1) := o27 (byt_of hLedger_chanceOf_b1 (j := 13) rfl)
theorem dLedger_chanceOf_46 : decode (mcc mLedger_chanceOf) 46 = .ok (.iadd, 1) := o96 (byt_of hLedger_chanceOf_b1 (j := 14) rfl)
theorem dLedger_chanceOf_47 : decode (mcc mLedger_chanceOf) 47 = .ok (.iaload, 1) := o46 (byt_of hLedger_chanceOf_b1 (j := 15) rfl)
theorem dLedger_chanceOf_48 : decode (mcc mLedger_chanceOf) 48 = .ok (.isub, 1) := o100 (byt_of hLedger_chanceOf_b1 (j := 16) rfl)
theorem dLedger_chanceOf_49 : decode (mcc mLedger_chanceOf) 49 = .ok (.i2l, 1) := o133 (byt_of hLedger_chanceOf_b1 (j := 17) rfl)
theorem dLedger_chanceOf_50 : decode (mcc mLedger_chanceOf) 50 = .ok (.lmul, 1) := o105 (byt_of hLedger_chanceOf_b1 (j := 18) rfl)
theorem dLedger_chanceOf_51 : decode (mcc mLedger_chanceOf) 51 = .ok (.ldc2_w 222, 3) := o20 (a := 0) (b := 222) (byt_of hLedger_chanceOf_b1 (j := 19) rfl) (byt_of hLedger_chanceOf_b1 (j := 20) rfl) (byt_of hLedger_chanceOf_b1 (j := 21) rfl) rfl
theorem dLedger_chanceOf_54 : decode (mcc mLedger_chanceOf) 54 = .ok (.ldiv, 1) := o109 (byt_of hLedger_chanceOf_b1 (j := 22) rfl)
theorem dLedger_chanceOf_55 : decode (mcc mLedger_chanceOf) 55 = .ok (.lstore_n 3, 1) := o66 (byt_of hLedger_chanceOf_b1 (j := 23) rfl)
theorem dLedger_chanceOf_56 : decode (mcc mLedger_chanceOf) 56 = .ok (.iinc 5 1, 3) := o132 (a := 5) (b := 1) (byt_of hLedger_chanceOf_b1 (j := 24) rfl) (byt_of hLedger_chanceOf_b1 (j := 25) rfl) (byt_of hLedger_chanceOf_b1 (j := 26) rfl) rfl
theorem dLedger_chanceOf_59 : decode (mcc mLedger_chanceOf) 59 = .ok (.goto (-52), 3) := o167 (a := 255) (b := 204) (byt_of hLedger_chanceOf_b1 (j := 27) rfl) (byt_of hLedger_chanceOf_b1 (j := 28) rfl) (byt_of hLedger_chanceOf_b1 (j := 29) rfl) rfl
theorem dLedger_chanceOf_62 : decode (mcc mLedger_chanceOf) 62 = .ok (.ldc2_w 236, 3) := o20 (a := 0) (b := 236) (byt_of hLedger_chanceOf_b1 (j := 30) rfl) (byt_of hLedger_chanceOf_b1 (j := 31) rfl) (byt_of hLedger_chanceOf_b1 (j := 32) rfl) rfl
def bLedger_chanceOf_b2 : List Nat := [236, 33, 101, 173]
theorem hLedger_chanceOf_b2 : BL (mcc mLedger_chanceOf) 64 bLedger_chanceOf_b2 := by decide +kernel
theorem dLedger_chanceOf_65 : decode (mcc mLedger_chanceOf) 65 = .ok (.lload_n 3, 1) := o33 (byt_of hLedger_chanceOf_b2 (j := 1) rfl)
theorem dLedger_chanceOf_66 : decode (mcc mLedger_chanceOf) 66 = .ok (.lsub, 1) := o101 (byt_of hLedger_chanceOf_b2 (j := 2) rfl)
theorem dLedger_chanceOf_67 : decode (mcc mLedger_chanceOf) 67 = .ok (.lreturn, 1) := o173 (byt_of hLedger_chanceOf_b2 (j := 3) rfl)
def bReader_init_b0 : List Nat := [42, 183, 0, 3, 42, 17, 0, 160, 188, 10, 181, 0, 9, 42, 3, 181, 0, 15, 42, 17, 0, 161, 188, 10, 181, 0, 19, 42, 17, 0, 161, 188, 10, 181, 0, 22, 42, 17]
theorem hReader_init_b0 : BL (mcc mReader_init) 0 bReader_init_b0 := by decide +kernel
theorem dReader_init_0 : decode (mcc mReader_init) 0 = .ok (.aload_n 0, 1) := o42 (byt_of hReader_init_b0 (j := 0) rfl)
theorem dReader_init_1 : decode (mcc mReader_init) 1 = .ok (.invokespecial 3, 3) := o183 (a := 0) (b := 3) (byt_of hReader_init_b0 (j := 1) rfl) (byt_of hReader_init_b0 (j := 2) rfl) (byt_of hReader_init_b0 (j := 3) rfl) rfl
theorem dReader_init_4 : decode (mcc mReader_init) 4 = .ok (.aload_n 0, 1) := o42 (byt_of hReader_init_b0 (j := 4) rfl)
theorem dReader_init_5 : decode (mcc mReader_init) 5 = .ok (.sipush 160, 3) := o17 (a := 0) (b := 160) (byt_of hReader_init_b0 (j := 5) rfl) (byt_of hReader_init_b0 (j := 6) rfl) (byt_of hReader_init_b0 (j := 7) rfl) rfl
theorem dReader_init_8 : decode (mcc mReader_init) 8 = .ok (.newarray .int, 2) := o188 (byt_of hReader_init_b0 (j := 8) rfl) (byt_of hReader_init_b0 (j := 9) rfl)
theorem dReader_init_10 : decode (mcc mReader_init) 10 = .ok (.putfield 9, 3) := o181 (a := 0) (b := 9) (byt_of hReader_init_b0 (j := 10) rfl) (byt_of hReader_init_b0 (j := 11) rfl) (byt_of hReader_init_b0 (j := 12) rfl) rfl
theorem dReader_init_13 : decode (mcc mReader_init) 13 = .ok (.aload_n 0, 1) := o42 (byt_of hReader_init_b0 (j := 13) rfl)
theorem dReader_init_14 : decode (mcc mReader_init) 14 = .ok (.iconst 0, 1) := o3 (byt_of hReader_init_b0 (j := 14) rfl)
theorem dReader_init_15 : decode (mcc mReader_init) 15 = .ok (.putfield 15, 3) := o181 (a := 0) (b := 15) (byt_of hReader_init_b0 (j := 15) rfl) (byt_of hReader_init_b0 (j := 16) rfl) (byt_of hReader_init_b0 (j := 17) rfl) rfl
theorem dReader_init_18 : decode (mcc mReader_init) 18 = .ok (.aload_n 0, 1) := o42 (byt_of hReader_init_b0 (j := 18) rfl)
theorem dReader_init_19 : decode (mcc mReader_init) 19 = .ok (.sipush 161, 3) := o17 (a := 0) (b := 161) (byt_of hReader_init_b0 (j := 19) rfl) (byt_of hReader_init_b0 (j := 20) rfl) (byt_of hReader_init_b0 (j := 21) rfl) rfl
theorem dReader_init_22 : decode (mcc mReader_init) 22 = .ok (.newarray .int, 2) := o188 (byt_of hReader_init_b0 (j := 22) rfl) (byt_of hReader_init_b0 (j := 23) rfl)
theorem dReader_init_24 : decode (mcc mReader_init) 24 = .ok (.putfield 19, 3) := o181 (a := 0) (b := 19) (byt_of hReader_init_b0 (j := 24) rfl) (byt_of hReader_init_b0 (j := 25) rfl) (byt_of hReader_init_b0 (j := 26) rfl) rfl
theorem dReader_init_27 : decode (mcc mReader_init) 27 = .ok (.aload_n 0, 1) := o42 (byt_of hReader_init_b0 (j := 27) rfl)
theorem dReader_init_28 : decode (mcc mReader_init) 28 = .ok (.sipush 161, 3) := o17 (a := 0) (b := 161) (byt_of hReader_init_b0 (j := 28) rfl) (byt_of hReader_init_b0 (j := 29) rfl) (byt_of hReader_init_b0 (j := 30) rfl) rfl
theorem dReader_init_31 : decode (mcc mReader_init) 31 = .ok (.newarray .int, 2) := o188 (byt_of hReader_init_b0 (j := 31) rfl) (byt_of hReader_init_b0 (j := 32) rfl)
def bReader_init_b1 : List Nat := [10, 181, 0, 22, 42, 17, 0, 161, 188, 10, 181, 0, 25, 42, 3, 181, 0, 28, 42, 3, 181, 0, 31, 42, 17, 0, 160, 188, 10, 181, 0, 34, 42, 7, 188, 10, 181, 0]
theorem hReader_init_b1 : BL (mcc mReader_init) 32 bReader_init_b1 := by decide +kernel
theorem dReader_init_33 : decode (mcc mReader_init) 33 = .ok (.putfield 22, 3) := o181 (a := 0) (b := 22) (byt_of hReader_init_b1 (j := 1) rfl) (byt_of hReader_init_b1 (j := 2) rfl) (byt_of hReader_init_b1 (j := 3) rfl) rfl
theorem dReader_init_36 : decode (mcc mReader_init) 36 = .ok (.aload_n 0, 1) := o42 (byt_of hReader_init_b1 (j := 4) rfl)
theorem dReader_init_37 : decode (mcc mReader_init) 37 = .ok (.sipush 161, 3) := o17 (a := 0) (b := 161) (byt_of hReader_init_b1 (j := 5) rfl) (byt_of hReader_init_b1 (j := 6) rfl) (byt_of hReader_init_b1 (j := 7) rfl) rfl
theorem dReader_init_40 : decode (mcc mReader_init) 40 = .ok (.newarray .int, 2) := o188 (byt_of hReader_init_b1 (j := 8) rfl) (byt_of hReader_init_b1 (j := 9) rfl)
theorem dReader_init_42 : decode (mcc mReader_init) 42 = .ok (.putfield 25, 3) := o181 (a := 0) (b := 25) (byt_of hReader_init_b1 (j := 10) rfl) (byt_of hReader_init_b1 (j := 11) rfl) (byt_of hReader_init_b1 (j := 12) rfl) rfl
theorem dReader_init_45 : decode (mcc mReader_init) 45 = .ok (.aload_n 0, 1) := o42 (byt_of hReader_init_b1 (j := 13) rfl)
theorem dReader_init_46 : decode (mcc mReader_init) 46 = .ok (.iconst 0, 1) := o3 (byt_of hReader_init_b1 (j := 14) rfl)
theorem dReader_init_47 : decode (mcc mReader_init) 47 = .ok (.putfield 28, 3) := o181 (a := 0) (b := 28) (byt_of hReader_init_b1 (j := 15) rfl) (byt_of hReader_init_b1 (j := 16) rfl) (byt_of hReader_init_b1 (j := 17) rfl) rfl
theorem dReader_init_50 : decode (mcc mReader_init) 50 = .ok (.aload_n 0, 1) := o42 (byt_of hReader_init_b1 (j := 18) rfl)
theorem dReader_init_51 : decode (mcc mReader_init) 51 = .ok (.iconst 0, 1) := o3 (byt_of hReader_init_b1 (j := 19) rfl)
theorem dReader_init_52 : decode (mcc mReader_init) 52 = .ok (.putfield 31, 3) := o181 (a := 0) (b := 31) (byt_of hReader_init_b1 (j := 20) rfl) (byt_of hReader_init_b1 (j := 21) rfl) (byt_of hReader_init_b1 (j := 22) rfl) rfl
theorem dReader_init_55 : decode (mcc mReader_init) 55 = .ok (.aload_n 0, 1) := o42 (byt_of hReader_init_b1 (j := 23) rfl)
theorem dReader_init_56 : decode (mcc mReader_init) 56 = .ok (.sipush 160, 3) := o17 (a := 0) (b := 160) (byt_of hReader_init_b1 (j := 24) rfl) (byt_of hReader_init_b1 (j := 25) rfl) (byt_of hReader_init_b1 (j := 26) rfl) rfl
theorem dReader_init_59 : decode (mcc mReader_init) 59 = .ok (.newarray .int, 2) := o188 (byt_of hReader_init_b1 (j := 27) rfl) (byt_of hReader_init_b1 (j := 28) rfl)
theorem dReader_init_61 : decode (mcc mReader_init) 61 = .ok (.putfield 34, 3) := o181 (a := 0) (b := 34) (byt_of hReader_init_b1 (j := 29) rfl) (byt_of hReader_init_b1 (j := 30) rfl) (byt_of hReader_init_b1 (j := 31) rfl) rfl
def bReader_init_b2 : List Nat := [42, 7, 188, 10, 181, 0, 37, 42, 3, 181, 0, 40, 177]
theorem hReader_init_b2 : BL (mcc mReader_init) 64 bReader_init_b2 := by decide +kernel
theorem dReader_init_64 : decode (mcc mReader_init) 64 = .ok (.aload_n 0, 1) := o42 (byt_of hReader_init_b2 (j := 0) rfl)
theorem dReader_init_65 : decode (mcc mReader_init) 65 = .ok (.iconst 4, 1) := o7 (byt_of hReader_init_b2 (j := 1) rfl)
theorem dReader_init_66 : decode (mcc mReader_init) 66 = .ok (.newarray .int, 2) := o188 (byt_of hReader_init_b2 (j := 2) rfl) (byt_of hReader_init_b2 (j := 3) rfl)
theorem dReader_init_68 : decode (mcc mReader_init) 68 = .ok (.putfield 37, 3) := o181 (a := 0) (b := 37) (byt_of hReader_init_b2 (j := 4) rfl) (byt_of hReader_init_b2 (j := 5) rfl) (byt_of hReader_init_b2 (j := 6) rfl) rfl
theorem dReader_init_71 : decode (mcc mReader_init) 71 = .ok (.aload_n 0, 1) := o42 (byt_of hReader_init_b2 (j := 7) rfl)
theorem dReader_init_72 : decode (mcc mReader_init) 72 = .ok (.iconst 0, 1) := o3 (byt_of hReader_init_b2 (j := 8) rfl)
theorem dReader_init_73 : decode (mcc mReader_init) 73 = .ok (.putfield 40, 3) := o181 (a := 0) (b := 40) (byt_of hReader_init_b2 (j := 9) rfl) (byt_of hReader_init_b2 (j := 10) rfl) (byt_of hReader_init_b2 (j := 11) rfl) rfl
theorem dReader_init_76 : decode (mcc mReader_init) 76 = .ok (.return_, 1) := o177 (byt_of hReader_init_b2 (j := 12) rfl)
def bReader_put_b0 : List Nat := [42, 180, 0, 15, 17, 0, 160, 162, 0, 23, 42, 180, 0, 9, 42, 180, 0, 15, 27, 79, 42, 89, 180, 0, 15, 4, 96, 181, 0, 15, 177]
theorem hReader_put_b0 : BL (mcc mReader_put) 0 bReader_put_b0 := by decide +kernel
theorem dReader_put_0 : decode (mcc mReader_put) 0 = .ok (.aload_n 0, 1) := o42 (byt_of hReader_put_b0 (j := 0) rfl)
theorem dReader_put_1 : decode (mcc mReader_put) 1 = .ok (.getfield 15, 3) := o180 (a := 0) (b := 15) (byt_of hReader_put_b0 (j := 1) rfl) (byt_of hReader_put_b0 (j := 2) rfl) (byt_of hReader_put_b0 (j := 3) rfl) rfl
theorem dReader_put_4 : decode (mcc mReader_put) 4 = .ok (.sipush 160, 3) := o17 (a := 0) (b := 160) (byt_of hReader_put_b0 (j := 4) rfl) (byt_of hReader_put_b0 (j := 5) rfl) (byt_of hReader_put_b0 (j := 6) rfl) rfl
theorem dReader_put_7 : decode (mcc mReader_put) 7 = .ok (.if_icmp .ge 23, 3) := o162 (a := 0) (b := 23) (byt_of hReader_put_b0 (j := 7) rfl) (byt_of hReader_put_b0 (j := 8) rfl) (byt_of hReader_put_b0 (j := 9) rfl) rfl
theorem dReader_put_10 : decode (mcc mReader_put) 10 = .ok (.aload_n 0, 1) := o42 (byt_of hReader_put_b0 (j := 10) rfl)
theorem dReader_put_11 : decode (mcc mReader_put) 11 = .ok (.getfield 9, 3) := o180 (a := 0) (b := 9) (byt_of hReader_put_b0 (j := 11) rfl) (byt_of hReader_put_b0 (j := 12) rfl) (byt_of hReader_put_b0 (j := 13) rfl) rfl
theorem dReader_put_14 : decode (mcc mReader_put) 14 = .ok (.aload_n 0, 1) := o42 (byt_of hReader_put_b0 (j := 14) rfl)
theorem dReader_put_15 : decode (mcc mReader_put) 15 = .ok (.getfield 15, 3) := o180 (a := 0) (b := 15) (byt_of hReader_put_b0 (j := 15) rfl) (byt_of hReader_put_b0 (j := 16) rfl) (byt_of hReader_put_b0 (j := 17) rfl) rfl
theorem dReader_put_18 : decode (mcc mReader_put) 18 = .ok (.iload_n 1, 1) := o27 (byt_of hReader_put_b0 (j := 18) rfl)
theorem dReader_put_19 : decode (mcc mReader_put) 19 = .ok (.iastore, 1) := o79 (byt_of hReader_put_b0 (j := 19) rfl)
theorem dReader_put_20 : decode (mcc mReader_put) 20 = .ok (.aload_n 0, 1) := o42 (byt_of hReader_put_b0 (j := 20) rfl)
theorem dReader_put_21 : decode (mcc mReader_put) 21 = .ok (.dup, 1) := o89 (byt_of hReader_put_b0 (j := 21) rfl)
theorem dReader_put_22 : decode (mcc mReader_put) 22 = .ok (.getfield 15, 3) := o180 (a := 0) (b := 15) (byt_of hReader_put_b0 (j := 22) rfl) (byt_of hReader_put_b0 (j := 23) rfl) (byt_of hReader_put_b0 (j := 24) rfl) rfl
theorem dReader_put_25 : decode (mcc mReader_put) 25 = .ok (.iconst 1, 1) := o4 (byt_of hReader_put_b0 (j := 25) rfl)
theorem dReader_put_26 : decode (mcc mReader_put) 26 = .ok (.iadd, 1) := o96 (byt_of hReader_put_b0 (j := 26) rfl)
theorem dReader_put_27 : decode (mcc mReader_put) 27 = .ok (.putfield 15, 3) := o181 (a := 0) (b := 15) (byt_of hReader_put_b0 (j := 27) rfl) (byt_of hReader_put_b0 (j := 28) rfl) (byt_of hReader_put_b0 (j := 29) rfl) rfl
theorem dReader_put_30 : decode (mcc mReader_put) 30 = .ok (.return_, 1) := o177 (byt_of hReader_put_b0 (j := 30) rfl)
def bReader_clear_b0 : List Nat := [42, 3, 181, 0, 15, 177]
theorem hReader_clear_b0 : BL (mcc mReader_clear) 0 bReader_clear_b0 := by decide +kernel
theorem dReader_clear_0 : decode (mcc mReader_clear) 0 = .ok (.aload_n 0, 1) := o42 (byt_of hReader_clear_b0 (j := 0) rfl)
theorem dReader_clear_1 : decode (mcc mReader_clear) 1 = .ok (.iconst 0, 1) := o3 (byt_of hReader_clear_b0 (j := 1) rfl)
theorem dReader_clear_2 : decode (mcc mReader_clear) 2 = .ok (.putfield 15, 3) := o181 (a := 0) (b := 15) (byt_of hReader_clear_b0 (j := 2) rfl) (byt_of hReader_clear_b0 (j := 3) rfl) (byt_of hReader_clear_b0 (j := 4) rfl) rfl
theorem dReader_clear_5 : decode (mcc mReader_clear) 5 = .ok (.return_, 1) := o177 (byt_of hReader_clear_b0 (j := 5) rfl)
def bReader_fault_b0 : List Nat := [42, 180, 0, 22, 42, 180, 0, 31, 46, 172]
theorem hReader_fault_b0 : BL (mcc mReader_fault) 0 bReader_fault_b0 := by decide +kernel
theorem dReader_fault_0 : decode (mcc mReader_fault) 0 = .ok (.aload_n 0, 1) := o42 (byt_of hReader_fault_b0 (j := 0) rfl)
theorem dReader_fault_1 : decode (mcc mReader_fault) 1 = .ok (.getfield 22, 3) := o180 (a := 0) (b := 22) (byt_of hReader_fault_b0 (j := 1) rfl) (byt_of hReader_fault_b0 (j := 2) rfl) (byt_of hReader_fault_b0 (j := 3) rfl) rfl
theorem dReader_fault_4 : decode (mcc mReader_fault) 4 = .ok (.aload_n 0, 1) := o42 (byt_of hReader_fault_b0 (j := 4) rfl)
theorem dReader_fault_5 : decode (mcc mReader_fault) 5 = .ok (.getfield 31, 3) := o180 (a := 0) (b := 31) (byt_of hReader_fault_b0 (j := 5) rfl) (byt_of hReader_fault_b0 (j := 6) rfl) (byt_of hReader_fault_b0 (j := 7) rfl) rfl
theorem dReader_fault_8 : decode (mcc mReader_fault) 8 = .ok (.iaload, 1) := o46 (byt_of hReader_fault_b0 (j := 8) rfl)
theorem dReader_fault_9 : decode (mcc mReader_fault) 9 = .ok (.ireturn, 1) := o172 (byt_of hReader_fault_b0 (j := 9) rfl)
def bReader_reads_b0 : List Nat := [42, 182, 0, 43, 42, 3, 181, 0, 31, 42, 3, 181, 0, 40, 3, 60, 27, 6, 162, 0, 49, 42, 180, 0, 37, 27, 42, 180, 0, 40, 79, 42, 7, 27, 96, 182, 0, 46]
theorem hReader_reads_b0 : BL (mcc mReader_reads) 0 bReader_reads_b0 := by decide +kernel
theorem dReader_reads_0 : decode (mcc mReader_reads) 0 = .ok (.aload_n 0, 1) := o42 (byt_of hReader_reads_b0 (j := 0) rfl)
theorem dReader_reads_1 : decode (mcc mReader_reads) 1 = .ok (.invokevirtual 43, 3) := o182 (a := 0) (b := 43) (byt_of hReader_reads_b0 (j := 1) rfl) (byt_of hReader_reads_b0 (j := 2) rfl) (byt_of hReader_reads_b0 (j := 3) rfl) rfl
theorem dReader_reads_4 : decode (mcc mReader_reads) 4 = .ok (.aload_n 0, 1) := o42 (byt_of hReader_reads_b0 (j := 4) rfl)
theorem dReader_reads_5 : decode (mcc mReader_reads) 5 = .ok (.iconst 0, 1) := o3 (byt_of hReader_reads_b0 (j := 5) rfl)
theorem dReader_reads_6 : decode (mcc mReader_reads) 6 = .ok (.putfield 31, 3) := o181 (a := 0) (b := 31) (byt_of hReader_reads_b0 (j := 6) rfl) (byt_of hReader_reads_b0 (j := 7) rfl) (byt_of hReader_reads_b0 (j := 8) rfl) rfl
theorem dReader_reads_9 : decode (mcc mReader_reads) 9 = .ok (.aload_n 0, 1) := o42 (byt_of hReader_reads_b0 (j := 9) rfl)
theorem dReader_reads_10 : decode (mcc mReader_reads) 10 = .ok (.iconst 0, 1) := o3 (byt_of hReader_reads_b0 (j := 10) rfl)
theorem dReader_reads_11 : decode (mcc mReader_reads) 11 = .ok (.putfield 40, 3) := o181 (a := 0) (b := 40) (byt_of hReader_reads_b0 (j := 11) rfl) (byt_of hReader_reads_b0 (j := 12) rfl) (byt_of hReader_reads_b0 (j := 13) rfl) rfl
theorem dReader_reads_14 : decode (mcc mReader_reads) 14 = .ok (.iconst 0, 1) := o3 (byt_of hReader_reads_b0 (j := 14) rfl)
theorem dReader_reads_15 : decode (mcc mReader_reads) 15 = .ok (.istore_n 1, 1) := o60 (byt_of hReader_reads_b0 (j := 15) rfl)
theorem dReader_reads_16 : decode (mcc mReader_reads) 16 = .ok (.iload_n 1, 1) := o27 (byt_of hReader_reads_b0 (j := 16) rfl)
theorem dReader_reads_17 : decode (mcc mReader_reads) 17 = .ok (.iconst 3, 1) := o6 (byt_of hReader_reads_b0 (j := 17) rfl)
theorem dReader_reads_18 : decode (mcc mReader_reads) 18 = .ok (.if_icmp .ge 49, 3) := o162 (a := 0) (b := 49) (byt_of hReader_reads_b0 (j := 18) rfl) (byt_of hReader_reads_b0 (j := 19) rfl) (byt_of hReader_reads_b0 (j := 20) rfl) rfl
theorem dReader_reads_21 : decode (mcc mReader_reads) 21 = .ok (.aload_n 0, 1) := o42 (byt_of hReader_reads_b0 (j := 21) rfl)
theorem dReader_reads_22 : decode (mcc mReader_reads) 22 = .ok (.getfield 37, 3) := o180 (a := 0) (b := 37) (byt_of hReader_reads_b0 (j := 22) rfl) (byt_of hReader_reads_b0 (j := 23) rfl) (byt_of hReader_reads_b0 (j := 24) rfl) rfl
theorem dReader_reads_25 : decode (mcc mReader_reads) 25 = .ok (.iload_n 1, 1) := o27 (byt_of hReader_reads_b0 (j := 25) rfl)
theorem dReader_reads_26 : decode (mcc mReader_reads) 26 = .ok (.aload_n 0, 1) := o42 (byt_of hReader_reads_b0 (j := 26) rfl)
theorem dReader_reads_27 : decode (mcc mReader_reads) 27 = .ok (.getfield 40, 3) := o180 (a := 0) (b := 40) (byt_of hReader_reads_b0 (j := 27) rfl) (byt_of hReader_reads_b0 (j := 28) rfl) (byt_of hReader_reads_b0 (j := 29) rfl) rfl
theorem dReader_reads_30 : decode (mcc mReader_reads) 30 = .ok (.iastore, 1) := o79 (byt_of hReader_reads_b0 (j := 30) rfl)
theorem dReader_reads_31 : decode (mcc mReader_reads) 31 = .ok (.aload_n 0, 1) := o42 (byt_of hReader_reads_b0 (j := 31) rfl)
def bReader_reads_b1 : List Nat := [7, 27, 96, 182, 0, 46, 153, 0, 21, 42, 3, 3, 182, 0, 50, 153, 0, 12, 42, 16, 59, 182, 0, 46, 154, 0, 5, 3, 172, 132, 1, 1, 167, 255, 208, 42, 180, 0]
theorem hReader_reads_b1 : BL (mcc mReader_reads) 32 bReader_reads_b1 := by decide +kernel
theorem dReader_reads_32 : decode (mcc mReader_reads) 32 = .ok (.iconst 4, 1) := o7 (byt_of hReader_reads_b1 (j := 0) rfl)
theorem dReader_reads_33 : decode (mcc mReader_reads) 33 = .ok (.iload_n 1, 1) := o27 (byt_of hReader_reads_b1 (j := 1) rfl)
theorem dReader_reads_34 : decode (mcc mReader_reads) 34 = .ok (.iadd, 1) := o96 (byt_of hReader_reads_b1 (j := 2) rfl)
theorem dReader_reads_35 : decode (mcc mReader_reads) 35 = .ok (.invokevirtual 46, 3) := o182 (a := 0) (b := 46) (byt_of hReader_reads_b1 (j := 3) rfl) (byt_of hReader_reads_b1 (j := 4) rfl) (byt_of hReader_reads_b1 (j := 5) rfl) rfl
theorem dReader_reads_38 : decode (mcc mReader_reads) 38 = .ok (.ifCond .eq 21, 3) := o153 (a := 0) (b := 21) (byt_of hReader_reads_b1 (j := 6) rfl) (byt_of hReader_reads_b1 (j := 7) rfl) (byt_of hReader_reads_b1 (j := 8) rfl) rfl
theorem dReader_reads_41 : decode (mcc mReader_reads) 41 = .ok (.aload_n 0, 1) := o42 (byt_of hReader_reads_b1 (j := 9) rfl)
theorem dReader_reads_42 : decode (mcc mReader_reads) 42 = .ok (.iconst 0, 1) := o3 (byt_of hReader_reads_b1 (j := 10) rfl)
theorem dReader_reads_43 : decode (mcc mReader_reads) 43 = .ok (.iconst 0, 1) := o3 (byt_of hReader_reads_b1 (j := 11) rfl)
theorem dReader_reads_44 : decode (mcc mReader_reads) 44 = .ok (.invokevirtual 50, 3) := o182 (a := 0) (b := 50) (byt_of hReader_reads_b1 (j := 12) rfl) (byt_of hReader_reads_b1 (j := 13) rfl) (byt_of hReader_reads_b1 (j := 14) rfl) rfl
theorem dReader_reads_47 : decode (mcc mReader_reads) 47 = .ok (.ifCond .eq 12, 3) := o153 (a := 0) (b := 12) (byt_of hReader_reads_b1 (j := 15) rfl) (byt_of hReader_reads_b1 (j := 16) rfl) (byt_of hReader_reads_b1 (j := 17) rfl) rfl
theorem dReader_reads_50 : decode (mcc mReader_reads) 50 = .ok (.aload_n 0, 1) := o42 (byt_of hReader_reads_b1 (j := 18) rfl)
theorem dReader_reads_51 : decode (mcc mReader_reads) 51 = .ok (.bipush 59, 2) := o16 (a := 59) (byt_of hReader_reads_b1 (j := 19) rfl) (byt_of hReader_reads_b1 (j := 20) rfl) rfl
theorem dReader_reads_53 : decode (mcc mReader_reads) 53 = .ok (.invokevirtual 46, 3) := o182 (a := 0) (b := 46) (byt_of hReader_reads_b1 (j := 21) rfl) (byt_of hReader_reads_b1 (j := 22) rfl) (byt_of hReader_reads_b1 (j := 23) rfl) rfl
theorem dReader_reads_56 : decode (mcc mReader_reads) 56 = .ok (.ifCond .ne 5, 3) := o154 (a := 0) (b := 5) (byt_of hReader_reads_b1 (j := 24) rfl) (byt_of hReader_reads_b1 (j := 25) rfl) (byt_of hReader_reads_b1 (j := 26) rfl) rfl
theorem dReader_reads_59 : decode (mcc mReader_reads) 59 = .ok (.iconst 0, 1) := o3 (byt_of hReader_reads_b1 (j := 27) rfl)
theorem dReader_reads_60 : decode (mcc mReader_reads) 60 = .ok (.ireturn, 1) := o172 (byt_of hReader_reads_b1 (j := 28) rfl)
theorem dReader_reads_61 : decode (mcc mReader_reads) 61 = .ok (.iinc 1 1, 3) := o132 (a := 1) (b := 1) (byt_of hReader_reads_b1 (j := 29) rfl) (byt_of hReader_reads_b1 (j := 30) rfl) (byt_of hReader_reads_b1 (j := 31) rfl) rfl
def bReader_reads_b2 : List Nat := [167, 255, 208, 42, 180, 0, 37, 6, 42, 180, 0, 40, 79, 42, 180, 0, 19, 42, 180, 0, 31, 46, 154, 0, 7, 4, 167, 0, 4, 3, 172]
theorem hReader_reads_b2 : BL (mcc mReader_reads) 64 bReader_reads_b2 := by decide +kernel
theorem dReader_reads_64 : decode (mcc mReader_reads) 64 = .ok (.goto (-48), 3) := o167 (a := 255) (b := 208) (byt_of hReader_reads_b2 (j := 0) rfl) (byt_of hReader_reads_b2 (j := 1) rfl) (byt_of hReader_reads_b2 (j := 2) rfl) rfl
theorem dReader_reads_67 : decode (mcc mReader_reads) 67 = .ok (.aload_n 0, 1) := o42 (byt_of hReader_reads_b2 (j := 3) rfl)
theorem dReader_reads_68 : decode (mcc mReader_reads) 68 = .ok (.getfield 37, 3) := o180 (a := 0) (b := 37) (byt_of hReader_reads_b2 (j := 4) rfl) (byt_of hReader_reads_b2 (j := 5) rfl) (byt_of hReader_reads_b2 (j := 6) rfl) rfl
theorem dReader_reads_71 : decode (mcc mReader_reads) 71 = .ok (.iconst 3, 1) := o6 (byt_of hReader_reads_b2 (j := 7) rfl)
theorem dReader_reads_72 : decode (mcc mReader_reads) 72 = .ok (.aload_n 0, 1) := o42 (byt_of hReader_reads_b2 (j := 8) rfl)
theorem dReader_reads_73 : decode (mcc mReader_reads) 73 = .ok (.getfield 40, 3) := o180 (a := 0) (b := 40) (byt_of hReader_reads_b2 (j := 9) rfl) (byt_of hReader_reads_b2 (j := 10) rfl) (byt_of hReader_reads_b2 (j := 11) rfl) rfl
theorem dReader_reads_76 : decode (mcc mReader_reads) 76 = .ok (.iastore, 1) := o79 (byt_of hReader_reads_b2 (j := 12) rfl)
theorem dReader_reads_77 : decode (mcc mReader_reads) 77 = .ok (.aload_n 0, 1) := o42 (byt_of hReader_reads_b2 (j := 13) rfl)
theorem dReader_reads_78 : decode (mcc mReader_reads) 78 = .ok (.getfield 19, 3) := o180 (a := 0) (b := 19) (byt_of hReader_reads_b2 (j := 14) rfl) (byt_of hReader_reads_b2 (j := 15) rfl) (byt_of hReader_reads_b2 (j := 16) rfl) rfl
theorem dReader_reads_81 : decode (mcc mReader_reads) 81 = .ok (.aload_n 0, 1) := o42 (byt_of hReader_reads_b2 (j := 17) rfl)
theorem dReader_reads_82 : decode (mcc mReader_reads) 82 = .ok (.getfield 31, 3) := o180 (a := 0) (b := 31) (byt_of hReader_reads_b2 (j := 18) rfl) (byt_of hReader_reads_b2 (j := 19) rfl) (byt_of hReader_reads_b2 (j := 20) rfl) rfl
theorem dReader_reads_85 : decode (mcc mReader_reads) 85 = .ok (.iaload, 1) := o46 (byt_of hReader_reads_b2 (j := 21) rfl)
theorem dReader_reads_86 : decode (mcc mReader_reads) 86 = .ok (.ifCond .ne 7, 3) := o154 (a := 0) (b := 7) (byt_of hReader_reads_b2 (j := 22) rfl) (byt_of hReader_reads_b2 (j := 23) rfl) (byt_of hReader_reads_b2 (j := 24) rfl) rfl
theorem dReader_reads_89 : decode (mcc mReader_reads) 89 = .ok (.iconst 1, 1) := o4 (byt_of hReader_reads_b2 (j := 25) rfl)
theorem dReader_reads_90 : decode (mcc mReader_reads) 90 = .ok (.goto 4, 3) := o167 (a := 0) (b := 4) (byt_of hReader_reads_b2 (j := 26) rfl) (byt_of hReader_reads_b2 (j := 27) rfl) (byt_of hReader_reads_b2 (j := 28) rfl) rfl
theorem dReader_reads_93 : decode (mcc mReader_reads) 93 = .ok (.iconst 0, 1) := o3 (byt_of hReader_reads_b2 (j := 29) rfl)
theorem dReader_reads_94 : decode (mcc mReader_reads) 94 = .ok (.ireturn, 1) := o172 (byt_of hReader_reads_b2 (j := 30) rfl)
def bReader_cut_b0 : List Nat := [42, 3, 181, 0, 28, 3, 60, 3, 61, 28, 17, 0, 160, 162, 0, 110, 27, 42, 180, 0, 15, 162, 0, 102, 42, 180, 0, 9, 27, 46, 62, 27, 4, 96, 54, 4, 29, 184]
theorem hReader_cut_b0 : BL (mcc mReader_cut) 0 bReader_cut_b0 := by decide +kernel
theorem dReader_cut_0 : decode (mcc mReader_cut) 0 = .ok (.aload_n 0, 1) := o42 (byt_of hReader_cut_b0 (j := 0) rfl)
theorem dReader_cut_1 : decode (mcc mReader_cut) 1 = .ok (.iconst 0, 1) := o3 (byt_of hReader_cut_b0 (j := 1) rfl)
theorem dReader_cut_2 : decode (mcc mReader_cut) 2 = .ok (.putfield 28, 3) := o181 (a := 0) (b := 28) (byt_of hReader_cut_b0 (j := 2) rfl) (byt_of hReader_cut_b0 (j := 3) rfl) (byt_of hReader_cut_b0 (j := 4) rfl) rfl
theorem dReader_cut_5 : decode (mcc mReader_cut) 5 = .ok (.iconst 0, 1) := o3 (byt_of hReader_cut_b0 (j := 5) rfl)
theorem dReader_cut_6 : decode (mcc mReader_cut) 6 = .ok (.istore_n 1, 1) := o60 (byt_of hReader_cut_b0 (j := 6) rfl)
theorem dReader_cut_7 : decode (mcc mReader_cut) 7 = .ok (.iconst 0, 1) := o3 (byt_of hReader_cut_b0 (j := 7) rfl)
theorem dReader_cut_8 : decode (mcc mReader_cut) 8 = .ok (.istore_n 2, 1) := o61 (byt_of hReader_cut_b0 (j := 8) rfl)
theorem dReader_cut_9 : decode (mcc mReader_cut) 9 = .ok (.iload_n 2, 1) := o28 (byt_of hReader_cut_b0 (j := 9) rfl)
theorem dReader_cut_10 : decode (mcc mReader_cut) 10 = .ok (.sipush 160, 3) := o17 (a := 0) (b := 160) (byt_of hReader_cut_b0 (j := 10) rfl) (byt_of hReader_cut_b0 (j := 11) rfl) (byt_of hReader_cut_b0 (j := 12) rfl) rfl
theorem dReader_cut_13 : decode (mcc mReader_cut) 13 = .ok (.if_icmp .ge 110, 3) := o162 (a := 0) (b := 110) (byt_of hReader_cut_b0 (j := 13) rfl) (byt_of hReader_cut_b0 (j := 14) rfl) (byt_of hReader_cut_b0 (j := 15) rfl) rfl
theorem dReader_cut_16 : decode (mcc mReader_cut) 16 = .ok (.iload_n 1, 1) := o27 (byt_of hReader_cut_b0 (j := 16) rfl)
theorem dReader_cut_17 : decode (mcc mReader_cut) 17 = .ok (.aload_n 0, 1) := o42 (byt_of hReader_cut_b0 (j := 17) rfl)
theorem dReader_cut_18 : decode (mcc mReader_cut) 18 = .ok (.getfield 15, 3) := o180 (a := 0) (b := 15) (byt_of hReader_cut_b0 (j := 18) rfl) (byt_of hReader_cut_b0 (j := 19) rfl) (byt_of hReader_cut_b0 (j := 20) rfl) rfl
theorem dReader_cut_21 : decode (mcc mReader_cut) 21 = .ok (.if_icmp .ge 102, 3) := o162 (a := 0) (b := 102) (byt_of hReader_cut_b0 (j := 21) rfl) (byt_of hReader_cut_b0 (j := 22) rfl) (byt_of hReader_cut_b0 (j := 23) rfl) rfl
theorem dReader_cut_24 : decode (mcc mReader_cut) 24 = .ok (.aload_n 0, 1) := o42 (byt_of hReader_cut_b0 (j := 24) rfl)
theorem dReader_cut_25 : decode (mcc mReader_cut) 25 = .ok (.getfield 9, 3) := o180 (a := 0) (b := 9) (byt_of hReader_cut_b0 (j := 25) rfl) (byt_of hReader_cut_b0 (j := 26) rfl) (byt_of hReader_cut_b0 (j := 27) rfl) rfl
theorem dReader_cut_28 : decode (mcc mReader_cut) 28 = .ok (.iload_n 1, 1) := o27 (byt_of hReader_cut_b0 (j := 28) rfl)
theorem dReader_cut_29 : decode (mcc mReader_cut) 29 = .ok (.iaload, 1) := o46 (byt_of hReader_cut_b0 (j := 29) rfl)
theorem dReader_cut_30 : decode (mcc mReader_cut) 30 = .ok (.istore_n 3, 1) := o62 (byt_of hReader_cut_b0 (j := 30) rfl)
theorem dReader_cut_31 : decode (mcc mReader_cut) 31 = .ok (.iload_n 1, 1) := o27 (byt_of hReader_cut_b0 (j := 31) rfl)
def bReader_cut_b1 : List Nat := [4, 96, 54, 4, 29, 184, 0, 54, 153, 0, 20, 42, 27, 182, 0, 57, 54, 4, 42, 27, 21, 4, 182, 0, 61, 167, 0, 57, 29, 184, 0, 65, 153, 0, 20, 42, 27, 182]
theorem hReader_cut_b1 : BL (mcc mReader_cut) 32 bReader_cut_b1 := by decide +kernel
theorem dReader_cut_32 : decode (mcc mReader_cut) 32 = .ok (.iconst 1, 1) := o4 (byt_of hReader_cut_b1 (j := 0) rfl)
theorem dReader_cut_33 : decode (mcc mReader_cut) 33 = .ok (.iadd, 1) := o96 (byt_of hReader_cut_b1 (j := 1) rfl)
theorem dReader_cut_34 : decode (mcc mReader_cut) 34 = .ok (.istore 4, 2) := o54 (a := 4) (byt_of hReader_cut_b1 (j := 2) rfl) (byt_of hReader_cut_b1 (j := 3) rfl)
theorem dReader_cut_36 : decode (mcc mReader_cut) 36 = .ok (.iload_n 3, 1) := o29 (byt_of hReader_cut_b1 (j := 4) rfl)
theorem dReader_cut_37 : decode (mcc mReader_cut) 37 = .ok (.invokestatic 54, 3) := o184 (a := 0) (b := 54) (byt_of hReader_cut_b1 (j := 5) rfl) (byt_of hReader_cut_b1 (j := 6) rfl) (byt_of hReader_cut_b1 (j := 7) rfl) rfl
theorem dReader_cut_40 : decode (mcc mReader_cut) 40 = .ok (.ifCond .eq 20, 3) := o153 (a := 0) (b := 20) (byt_of hReader_cut_b1 (j := 8) rfl) (byt_of hReader_cut_b1 (j := 9) rfl) (byt_of hReader_cut_b1 (j := 10) rfl) rfl
theorem dReader_cut_43 : decode (mcc mReader_cut) 43 = .ok (.aload_n 0, 1) := o42 (byt_of hReader_cut_b1 (j := 11) rfl)
theorem dReader_cut_44 : decode (mcc mReader_cut) 44 = .ok (.iload_n 1, 1) := o27 (byt_of hReader_cut_b1 (j := 12) rfl)
theorem dReader_cut_45 : decode (mcc mReader_cut) 45 = .ok (.invokevirtual 57, 3) := o182 (a := 0) (b := 57) (byt_of hReader_cut_b1 (j := 13) rfl) (byt_of hReader_cut_b1 (j := 14) rfl) (byt_of hReader_cut_b1 (j := 15) rfl) rfl
theorem dReader_cut_48 : decode (mcc mReader_cut) 48 = .ok (.istore 4, 2) := o54 (a := 4) (byt_of hReader_cut_b1 (j := 16) rfl) (byt_of hReader_cut_b1 (j := 17) rfl)
theorem dReader_cut_50 : decode (mcc mReader_cut) 50 = .ok (.aload_n 0, 1) := o42 (byt_of hReader_cut_b1 (j := 18) rfl)
theorem dReader_cut_51 : decode (mcc mReader_cut) 51 = .ok (.iload_n 1, 1) := o27 (byt_of hReader_cut_b1 (j := 19) rfl)
theorem dReader_cut_52 : decode (mcc mReader_cut) 52 = .ok (.iload 4, 2) := o21 (a := 4) (byt_of hReader_cut_b1 (j := 20) rfl) (byt_of hReader_cut_b1 (j := 21) rfl)
theorem dReader_cut_54 : decode (mcc mReader_cut) 54 = .ok (.invokevirtual 61, 3) := o182 (a := 0) (b := 61) (byt_of hReader_cut_b1 (j := 22) rfl) (byt_of hReader_cut_b1 (j := 23) rfl) (byt_of hReader_cut_b1 (j := 24) rfl) rfl
theorem dReader_cut_57 : decode (mcc mReader_cut) 57 = .ok (.goto 57, 3) := o167 (a := 0) (b := 57) (byt_of hReader_cut_b1 (j := 25) rfl) (byt_of hReader_cut_b1 (j := 26) rfl) (byt_of hReader_cut_b1 (j := 27) rfl) rfl
theorem dReader_cut_60 : decode (mcc mReader_cut) 60 = .ok (.iload_n 3, 1) := o29 (byt_of hReader_cut_b1 (j := 28) rfl)
theorem dReader_cut_61 : decode (mcc mReader_cut) 61 = .ok (.invokestatic 65, 3) := o184 (a := 0) (b := 65) (byt_of hReader_cut_b1 (j := 29) rfl) (byt_of hReader_cut_b1 (j := 30) rfl) (byt_of hReader_cut_b1 (j := 31) rfl) rfl
def bReader_cut_b2 : List Nat := [153, 0, 20, 42, 27, 182, 0, 68, 54, 4, 42, 27, 21, 4, 182, 0, 71, 167, 0, 33, 29, 16, 32, 159, 0, 27, 29, 16, 10, 159, 0, 21, 42, 29, 184, 0, 74, 153]
theorem hReader_cut_b2 : BL (mcc mReader_cut) 64 bReader_cut_b2 := by decide +kernel
theorem dReader_cut_64 : decode (mcc mReader_cut) 64 = .ok (.ifCond .eq 20, 3) := o153 (a := 0) (b := 20) (byt_of hReader_cut_b2 (j := 0) rfl) (byt_of hReader_cut_b2 (j := 1) rfl) (byt_of hReader_cut_b2 (j := 2) rfl) rfl
theorem dReader_cut_67 : decode (mcc mReader_cut) 67 = .ok (.aload_n 0, 1) := o42 (byt_of hReader_cut_b2 (j := 3) rfl)
theorem dReader_cut_68 : decode (mcc mReader_cut) 68 = .ok (.iload_n 1, 1) := o27 (byt_of hReader_cut_b2 (j := 4) rfl)
theorem dReader_cut_69 : decode (mcc mReader_cut) 69 = .ok (.invokevirtual 68, 3) := o182 (a := 0) (b := 68) (byt_of hReader_cut_b2 (j := 5) rfl) (byt_of hReader_cut_b2 (j := 6) rfl) (byt_of hReader_cut_b2 (j := 7) rfl) rfl
theorem dReader_cut_72 : decode (mcc mReader_cut) 72 = .ok (.istore 4, 2) := o54 (a := 4) (byt_of hReader_cut_b2 (j := 8) rfl) (byt_of hReader_cut_b2 (j := 9) rfl)
theorem dReader_cut_74 : decode (mcc mReader_cut) 74 = .ok (.aload_n 0, 1) := o42 (byt_of hReader_cut_b2 (j := 10) rfl)
theorem dReader_cut_75 : decode (mcc mReader_cut) 75 = .ok (.iload_n 1, 1) := o27 (byt_of hReader_cut_b2 (j := 11) rfl)
theorem dReader_cut_76 : decode (mcc mReader_cut) 76 = .ok (.iload 4, 2) := o21 (a := 4) (byt_of hReader_cut_b2 (j := 12) rfl) (byt_of hReader_cut_b2 (j := 13) rfl)
theorem dReader_cut_78 : decode (mcc mReader_cut) 78 = .ok (.invokevirtual 71, 3) := o182 (a := 0) (b := 71) (byt_of hReader_cut_b2 (j := 14) rfl) (byt_of hReader_cut_b2 (j := 15) rfl) (byt_of hReader_cut_b2 (j := 16) rfl) rfl
theorem dReader_cut_81 : decode (mcc mReader_cut) 81 = .ok (.goto 33, 3) := o167 (a := 0) (b := 33) (byt_of hReader_cut_b2 (j := 17) rfl) (byt_of hReader_cut_b2 (j := 18) rfl) (byt_of hReader_cut_b2 (j := 19) rfl) rfl
theorem dReader_cut_84 : decode (mcc mReader_cut) 84 = .ok (.iload_n 3, 1) := o29 (byt_of hReader_cut_b2 (j := 20) rfl)
theorem dReader_cut_85 : decode (mcc mReader_cut) 85 = .ok (.bipush 32, 2) := o16 (a := 32) (byt_of hReader_cut_b2 (j := 21) rfl) (byt_of hReader_cut_b2 (j := 22) rfl) rfl
theorem dReader_cut_87 : decode (mcc mReader_cut) 87 = .ok (.if_icmp .eq 27, 3) := o159 (a := 0) (b := 27) (byt_of hReader_cut_b2 (j := 23) rfl) (byt_of hReader_cut_b2 (j := 24) rfl) (byt_of hReader_cut_b2 (j := 25) rfl) rfl
theorem dReader_cut_90 : decode (mcc mReader_cut) 90 = .ok (.iload_n 3, 1) := o29 (byt_of hReader_cut_b2 (j := 26) rfl)
theorem dReader_cut_91 : decode (mcc mReader_cut) 91 = .ok (.bipush 10, 2) := o16 (a := 10) (byt_of hReader_cut_b2 (j := 27) rfl) (byt_of hReader_cut_b2 (j := 28) rfl) rfl
theorem dReader_cut_93 : decode (mcc mReader_cut) 93 = .ok (.if_icmp .eq 21, 3) := o159 (a := 0) (b := 21) (byt_of hReader_cut_b2 (j := 29) rfl) (byt_of hReader_cut_b2 (j := 30) rfl) (byt_of hReader_cut_b2 (j := 31) rfl) rfl
def bReader_cut_b3 : List Nat := [42, 29, 184, 0, 74, 153, 0, 7, 29, 167, 0, 4, 4, 27, 3, 182, 0, 77, 21, 4, 60, 132, 2, 1, 167, 255, 145, 42, 3, 42, 180, 0, 15, 3, 182, 0, 77, 177]
theorem hReader_cut_b3 : BL (mcc mReader_cut) 96 bReader_cut_b3 := by decide +kernel
theorem dReader_cut_96 : decode (mcc mReader_cut) 96 = .ok (.aload_n 0, 1) := o42 (byt_of hReader_cut_b3 (j := 0) rfl)
theorem dReader_cut_97 : decode (mcc mReader_cut) 97 = .ok (.iload_n 3, 1) := o29 (byt_of hReader_cut_b3 (j := 1) rfl)
theorem dReader_cut_98 : decode (mcc mReader_cut) 98 = .ok (.invokestatic 74, 3) := o184 (a := 0) (b := 74) (byt_of hReader_cut_b3 (j := 2) rfl) (byt_of hReader_cut_b3 (j := 3) rfl) (byt_of hReader_cut_b3 (j := 4) rfl) rfl
theorem dReader_cut_101 : decode (mcc mReader_cut) 101 = .ok (.ifCond .eq 7, 3) := o153 (a := 0) (b := 7) (byt_of hReader_cut_b3 (j := 5) rfl) (byt_of hReader_cut_b3 (j := 6) rfl) (byt_of hReader_cut_b3 (j := 7) rfl) rfl
theorem dReader_cut_104 : decode (mcc mReader_cut) 104 = .ok (.iload_n 3, 1) := o29 (byt_of hReader_cut_b3 (j := 8) rfl)
theorem dReader_cut_105 : decode (mcc mReader_cut) 105 = .ok (.goto 4, 3) := o167 (a := 0) (b := 4) (byt_of hReader_cut_b3 (j := 9) rfl) (byt_of hReader_cut_b3 (j := 10) rfl) (byt_of hReader_cut_b3 (j := 11) rfl) rfl
theorem dReader_cut_108 : decode (mcc mReader_cut) 108 = .ok (.iconst 1, 1) := o4 (byt_of hReader_cut_b3 (j := 12) rfl)
theorem dReader_cut_109 : decode (mcc mReader_cut) 109 = .ok (.iload_n 1, 1) := o27 (byt_of hReader_cut_b3 (j := 13) rfl)
theorem dReader_cut_110 : decode (mcc mReader_cut) 110 = .ok (.iconst 0, 1) := o3 (byt_of hReader_cut_b3 (j := 14) rfl)
theorem dReader_cut_111 : decode (mcc mReader_cut) 111 = .ok (.invokevirtual 77, 3) := o182 (a := 0) (b := 77) (byt_of hReader_cut_b3 (j := 15) rfl) (byt_of hReader_cut_b3 (j := 16) rfl) (byt_of hReader_cut_b3 (j := 17) rfl) rfl
theorem dReader_cut_114 : decode (mcc mReader_cut) 114 = .ok (.iload 4, 2) := o21 (a := 4) (byt_of hReader_cut_b3 (j := 18) rfl) (byt_of hReader_cut_b3 (j := 19) rfl)
theorem dReader_cut_116 : decode (mcc mReader_cut) 116 = .ok (.istore_n 1, 1) := o60 (byt_of hReader_cut_b3 (j := 20) rfl)
theorem dReader_cut_117 : decode (mcc mReader_cut) 117 = .ok (.iinc 2 1, 3) := o132 (a := 2) (b := 1) (byt_of hReader_cut_b3 (j := 21) rfl) (byt_of hReader_cut_b3 (j := 22) rfl) (byt_of hReader_cut_b3 (j := 23) rfl) rfl
theorem dReader_cut_120 : decode (mcc mReader_cut) 120 = .ok (.goto (-111), 3) := o167 (a := 255) (b := 145) (byt_of hReader_cut_b3 (j := 24) rfl) (byt_of hReader_cut_b3 (j := 25) rfl) (byt_of hReader_cut_b3 (j := 26) rfl) rfl
theorem dReader_cut_123 : decode (mcc mReader_cut) 123 = .ok (.aload_n 0, 1) := o42 (byt_of hReader_cut_b3 (j := 27) rfl)
theorem dReader_cut_124 : decode (mcc mReader_cut) 124 = .ok (.iconst 0, 1) := o3 (byt_of hReader_cut_b3 (j := 28) rfl)
theorem dReader_cut_125 : decode (mcc mReader_cut) 125 = .ok (.aload_n 0, 1) := o42 (byt_of hReader_cut_b3 (j := 29) rfl)
theorem dReader_cut_126 : decode (mcc mReader_cut) 126 = .ok (.getfield 15, 3) := o180 (a := 0) (b := 15) (byt_of hReader_cut_b3 (j := 30) rfl) (byt_of hReader_cut_b3 (j := 31) rfl) (byt_of hReader_cut_b3 (j := 32) rfl) rfl
def bReader_cut_b4 : List Nat := [15, 3, 182, 0, 77, 177]
theorem hReader_cut_b4 : BL (mcc mReader_cut) 128 bReader_cut_b4 := by decide +kernel
theorem dReader_cut_129 : decode (mcc mReader_cut) 129 = .ok (.iconst 0, 1) := o3 (byt_of hReader_cut_b4 (j := 1) rfl)
theorem dReader_cut_130 : decode (mcc mReader_cut) 130 = .ok (.invokevirtual 77, 3) := o182 (a := 0) (b := 77) (byt_of hReader_cut_b4 (j := 2) rfl) (byt_of hReader_cut_b4 (j := 3) rfl) (byt_of hReader_cut_b4 (j := 4) rfl) rfl
theorem dReader_cut_133 : decode (mcc mReader_cut) 133 = .ok (.return_, 1) := o177 (byt_of hReader_cut_b4 (j := 5) rfl)
def bReader_putToken_b0 : List Nat := [42, 180, 0, 28, 17, 0, 160, 163, 0, 43, 42, 180, 0, 19, 42, 180, 0, 28, 27, 79, 42, 180, 0, 22, 42, 180, 0, 28, 28, 79, 42, 180, 0, 25, 42, 180, 0, 28]
theorem hReader_putToken_b0 : BL (mcc mReader_putToken) 0 bReader_putToken_b0 := by decide +kernel
theorem dReader_putToken_0 : decode (mcc mReader_putToken) 0 = .ok (.aload_n 0, 1) := o42 (byt_of hReader_putToken_b0 (j := 0) rfl)
theorem dReader_putToken_1 : decode (mcc mReader_putToken) 1 = .ok (.getfield 28, 3) := o180 (a := 0) (b := 28) (byt_of hReader_putToken_b0 (j := 1) rfl) (byt_of hReader_putToken_b0 (j := 2) rfl) (byt_of hReader_putToken_b0 (j := 3) rfl) rfl
theorem dReader_putToken_4 : decode (mcc mReader_putToken) 4 = .ok (.sipush 160, 3) := o17 (a := 0) (b := 160) (byt_of hReader_putToken_b0 (j := 4) rfl) (byt_of hReader_putToken_b0 (j := 5) rfl) (byt_of hReader_putToken_b0 (j := 6) rfl) rfl
theorem dReader_putToken_7 : decode (mcc mReader_putToken) 7 = .ok (.if_icmp .gt 43, 3) := o163 (a := 0) (b := 43) (byt_of hReader_putToken_b0 (j := 7) rfl) (byt_of hReader_putToken_b0 (j := 8) rfl) (byt_of hReader_putToken_b0 (j := 9) rfl) rfl
theorem dReader_putToken_10 : decode (mcc mReader_putToken) 10 = .ok (.aload_n 0, 1) := o42 (byt_of hReader_putToken_b0 (j := 10) rfl)
theorem dReader_putToken_11 : decode (mcc mReader_putToken) 11 = .ok (.getfield 19, 3) := o180 (a := 0) (b := 19) (byt_of hReader_putToken_b0 (j := 11) rfl) (byt_of hReader_putToken_b0 (j := 12) rfl) (byt_of hReader_putToken_b0 (j := 13) rfl) rfl
theorem dReader_putToken_14 : decode (mcc mReader_putToken) 14 = .ok (.aload_n 0, 1) := o42 (byt_of hReader_putToken_b0 (j := 14) rfl)
theorem dReader_putToken_15 : decode (mcc mReader_putToken) 15 = .ok (.getfield 28, 3) := o180 (a := 0) (b := 28) (byt_of hReader_putToken_b0 (j := 15) rfl) (byt_of hReader_putToken_b0 (j := 16) rfl) (byt_of hReader_putToken_b0 (j := 17) rfl) rfl
theorem dReader_putToken_18 : decode (mcc mReader_putToken) 18 = .ok (.iload_n 1, 1) := o27 (byt_of hReader_putToken_b0 (j := 18) rfl)
theorem dReader_putToken_19 : decode (mcc mReader_putToken) 19 = .ok (.iastore, 1) := o79 (byt_of hReader_putToken_b0 (j := 19) rfl)
theorem dReader_putToken_20 : decode (mcc mReader_putToken) 20 = .ok (.aload_n 0, 1) := o42 (byt_of hReader_putToken_b0 (j := 20) rfl)
theorem dReader_putToken_21 : decode (mcc mReader_putToken) 21 = .ok (.getfield 22, 3) := o180 (a := 0) (b := 22) (byt_of hReader_putToken_b0 (j := 21) rfl) (byt_of hReader_putToken_b0 (j := 22) rfl) (byt_of hReader_putToken_b0 (j := 23) rfl) rfl
theorem dReader_putToken_24 : decode (mcc mReader_putToken) 24 = .ok (.aload_n 0, 1) := o42 (byt_of hReader_putToken_b0 (j := 24) rfl)
theorem dReader_putToken_25 : decode (mcc mReader_putToken) 25 = .ok (.getfield 28, 3) := o180 (a := 0) (b := 28) (byt_of hReader_putToken_b0 (j := 25) rfl) (byt_of hReader_putToken_b0 (j := 26) rfl) (byt_of hReader_putToken_b0 (j := 27) rfl) rfl
theorem dReader_putToken_28 : decode (mcc mReader_putToken) 28 = .ok (.iload_n 2, 1) := o28 (byt_of hReader_putToken_b0 (j := 28) rfl)
theorem dReader_putToken_29 : decode (mcc mReader_putToken) 29 = .ok (.iastore, 1) := o79 (byt_of hReader_putToken_b0 (j := 29) rfl)
theorem dReader_putToken_30 : decode (mcc mReader_putToken) 30 = .ok (.aload_n 0, 1) := o42 (byt_of hReader_putToken_b0 (j := 30) rfl)
theorem dReader_putToken_31 : decode (mcc mReader_putToken) 31 = .ok (.getfield 25, 3) := o180 (a := 0) (b := 25) (byt_of hReader_putToken_b0 (j := 31) rfl) (byt_of hReader_putToken_b0 (j := 32) rfl) (byt_of hReader_putToken_b0 (j := 33) rfl) rfl
def bReader_putToken_b1 : List Nat := [0, 25, 42, 180, 0, 28, 29, 79, 42, 89, 180, 0, 28, 4, 96, 181, 0, 28, 177]
theorem hReader_putToken_b1 : BL (mcc mReader_putToken) 32 bReader_putToken_b1 := by decide +kernel
theorem dReader_putToken_34 : decode (mcc mReader_putToken) 34 = .ok (.aload_n 0, 1) := o42 (byt_of hReader_putToken_b1 (j := 2) rfl)
theorem dReader_putToken_35 : decode (mcc mReader_putToken) 35 = .ok (.getfield 28, 3) := o180 (a := 0) (b := 28) (byt_of hReader_putToken_b1 (j := 3) rfl) (byt_of hReader_putToken_b1 (j := 4) rfl) (byt_of hReader_putToken_b1 (j := 5) rfl) rfl
theorem dReader_putToken_38 : decode (mcc mReader_putToken) 38 = .ok (.iload_n 3, 1) := o29 (byt_of hReader_putToken_b1 (j := 6) rfl)
theorem dReader_putToken_39 : decode (mcc mReader_putToken) 39 = .ok (.iastore, 1) := o79 (byt_of hReader_putToken_b1 (j := 7) rfl)
theorem dReader_putToken_40 : decode (mcc mReader_putToken) 40 = .ok (.aload_n 0, 1) := o42 (byt_of hReader_putToken_b1 (j := 8) rfl)
theorem dReader_putToken_41 : decode (mcc mReader_putToken) 41 = .ok (.dup, 1) := o89 (byt_of hReader_putToken_b1 (j := 9) rfl)
theorem dReader_putToken_42 : decode (mcc mReader_putToken) 42 = .ok (.getfield 28, 3) := o180 (a := 0) (b := 28) (byt_of hReader_putToken_b1 (j := 10) rfl) (byt_of hReader_putToken_b1 (j := 11) rfl) (byt_of hReader_putToken_b1 (j := 12) rfl) rfl
theorem dReader_putToken_45 : decode (mcc mReader_putToken) 45 = .ok (.iconst 1, 1) := o4 (byt_of hReader_putToken_b1 (j := 13) rfl)
theorem dReader_putToken_46 : decode (mcc mReader_putToken) 46 = .ok (.iadd, 1) := o96 (byt_of hReader_putToken_b1 (j := 14) rfl)
theorem dReader_putToken_47 : decode (mcc mReader_putToken) 47 = .ok (.putfield 28, 3) := o181 (a := 0) (b := 28) (byt_of hReader_putToken_b1 (j := 15) rfl) (byt_of hReader_putToken_b1 (j := 16) rfl) (byt_of hReader_putToken_b1 (j := 17) rfl) rfl
theorem dReader_putToken_50 : decode (mcc mReader_putToken) 50 = .ok (.return_, 1) := o177 (byt_of hReader_putToken_b1 (j := 18) rfl)
def bReader_putNumber_b0 : List Nat := [28, 27, 100, 7, 164, 0, 11, 42, 4, 27, 3, 182, 0, 77, 177, 3, 62, 27, 54, 4, 21, 4, 28, 162, 0, 25, 29, 16, 10, 104, 42, 180, 0, 9, 21, 4, 46, 96]
theorem hReader_putNumber_b0 : BL (mcc mReader_putNumber) 0 bReader_putNumber_b0 := by decide +kernel
theorem dReader_putNumber_0 : decode (mcc mReader_putNumber) 0 = .ok (.iload_n 2, 1) := o28 (byt_of hReader_putNumber_b0 (j := 0) rfl)
theorem dReader_putNumber_1 : decode (mcc mReader_putNumber) 1 = .ok (.iload_n 1, 1) := o27 (byt_of hReader_putNumber_b0 (j := 1) rfl)
theorem dReader_putNumber_2 : decode (mcc mReader_putNumber) 2 = .ok (.isub, 1) := o100 (byt_of hReader_putNumber_b0 (j := 2) rfl)
theorem dReader_putNumber_3 : decode (mcc mReader_putNumber) 3 = .ok (.iconst 4, 1) := o7 (byt_of hReader_putNumber_b0 (j := 3) rfl)
theorem dReader_putNumber_4 : decode (mcc mReader_putNumber) 4 = .ok (.if_icmp .le 11, 3) := o164 (a := 0) (b := 11) (byt_of hReader_putNumber_b0 (j := 4) rfl) (byt_of hReader_putNumber_b0 (j := 5) rfl) (byt_of hReader_putNumber_b0 (j := 6) rfl) rfl
theorem dReader_putNumber_7 : decode (mcc mReader_putNumber) 7 = .ok (.aload_n 0, 1) := o42 (byt_of hReader_putNumber_b0 (j := 7) rfl)
theorem dReader_putNumber_8 : decode (mcc mReader_putNumber) 8 = .ok (.iconst 1, 1) := o4 (byt_of hReader_putNumber_b0 (j := 8) rfl)
theorem dReader_putNumber_9 : decode (mcc mReader_putNumber) 9 = .ok (.iload_n 1, 1) := o27 (byt_of hReader_putNumber_b0 (j := 9) rfl)
theorem dReader_putNumber_10 : decode (mcc mReader_putNumber) 10 = .ok (.iconst 0, 1) := o3 (byt_of hReader_putNumber_b0 (j := 10) rfl)
theorem dReader_putNumber_11 : decode (mcc mReader_putNumber) 11 = .ok (.invokevirtual 77, 3) := o182 (a := 0) (b := 77) (byt_of hReader_putNumber_b0 (j := 11) rfl) (byt_of hReader_putNumber_b0 (j := 12) rfl) (byt_of hReader_putNumber_b0 (j := 13) rfl) rfl
theorem dReader_putNumber_14 : decode (mcc mReader_putNumber) 14 = .ok (.return_, 1) := o177 (byt_of hReader_putNumber_b0 (j := 14) rfl)
theorem dReader_putNumber_15 : decode (mcc mReader_putNumber) 15 = .ok (.iconst 0, 1) := o3 (byt_of hReader_putNumber_b0 (j := 15) rfl)
theorem dReader_putNumber_16 : decode (mcc mReader_putNumber) 16 = .ok (.istore_n 3, 1) := o62 (byt_of hReader_putNumber_b0 (j := 16) rfl)
theorem dReader_putNumber_17 : decode (mcc mReader_putNumber) 17 = .ok (.iload_n 1, 1) := o27 (byt_of hReader_putNumber_b0 (j := 17) rfl)
theorem dReader_putNumber_18 : decode (mcc mReader_putNumber) 18 = .ok (.istore 4, 2) := o54 (a := 4) (byt_of hReader_putNumber_b0 (j := 18) rfl) (byt_of hReader_putNumber_b0 (j := 19) rfl)
theorem dReader_putNumber_20 : decode (mcc mReader_putNumber) 20 = .ok (.iload 4, 2) := o21 (a := 4) (byt_of hReader_putNumber_b0 (j := 20) rfl) (byt_of hReader_putNumber_b0 (j := 21) rfl)
theorem dReader_putNumber_22 : decode (mcc mReader_putNumber) 22 = .ok (.iload_n 2, 1) := o28 (byt_of hReader_putNumber_b0 (j := 22) rfl)
theorem dReader_putNumber_23 : decode (mcc mReader_putNumber) 23 = .ok (.if_icmp .ge 25, 3) := o162 (a := 0) (b := 25) (byt_of hReader_putNumber_b0 (j := 23) rfl) (byt_of hReader_putNumber_b0 (j := 24) rfl) (byt_of hReader_putNumber_b0 (j := 25) rfl) rfl
theorem dReader_putNumber_26 : decode (mcc mReader_putNumber) 26 = .ok (.iload_n 3, 1) := o29 (byt_of hReader_putNumber_b0 (j := 26) rfl)
theorem dReader_putNumber_27 : decode (mcc mReader_putNumber) 27 = .ok (.bipush 10, 2) := o16 (a := 10) (byt_of hReader_putNumber_b0 (j := 27) rfl) (byt_of hReader_putNumber_b0 (j := 28) rfl) rfl
theorem dReader_putNumber_29 : decode (mcc mReader_putNumber) 29 = .ok (.imul, 1) := o104 (byt_of hReader_putNumber_b0 (j := 29) rfl)
theorem dReader_putNumber_30 : decode (mcc mReader_putNumber) 30 = .ok (.aload_n 0, 1) := o42 (byt_of hReader_putNumber_b0 (j := 30) rfl)
theorem dReader_putNumber_31 : decode (mcc mReader_putNumber) 31 = .ok (.getfield 9, 3) := o180 (a := 0) (b := 9) (byt_of hReader_putNumber_b0 (j := 31) rfl) (byt_of hReader_putNumber_b0 (j := 32) rfl) (byt_of hReader_putNumber_b0 (j := 33) rfl) rfl
def bReader_putNumber_b1 : List Nat := [0, 9, 21, 4, 46, 96, 16, 48, 100, 62, 132, 4, 1, 167, 255, 231, 42, 5, 27, 29, 182, 0, 77, 177]
theorem hReader_putNumber_b1 : BL (mcc mReader_putNumber) 32 bReader_putNumber_b1 := by decide +kernel
theorem dReader_putNumber_34 : decode (mcc mReader_putNumber) 34 = .ok (.iload 4, 2) := o21 (a := 4) (byt_of hReader_putNumber_b1 (j := 2) rfl) (byt_of hReader_putNumber_b1 (j := 3) rfl)
theorem dReader_putNumber_36 : decode (mcc mReader_putNumber) 36 = .ok (.iaload, 1) := o46 (byt_of hReader_putNumber_b1 (j := 4) rfl)
theorem dReader_putNumber_37 : decode (mcc mReader_putNumber) 37 = .ok (.iadd, 1) := o96 (byt_of hReader_putNumber_b1 (j := 5) rfl)
theorem dReader_putNumber_38 : decode (mcc mReader_putNumber) 38 = .ok (.bipush 48, 2) := o16 (a := 48) (byt_of hReader_putNumber_b1 (j := 6) rfl) (byt_of hReader_putNumber_b1 (j := 7) rfl) rfl
theorem dReader_putNumber_40 : decode (mcc mReader_putNumber) 40 = .ok (.isub, 1) := o100 (byt_of hReader_putNumber_b1 (j := 8) rfl)
theorem dReader_putNumber_41 : decode (mcc mReader_putNumber) 41 = .ok (.istore_n 3, 1) := o62 (byt_of hReader_putNumber_b1 (j := 9) rfl)
theorem dReader_putNumber_42 : decode (mcc mReader_putNumber) 42 = .ok (.iinc 4 1, 3) := o132 (a := 4) (b := 1) (byt_of hReader_putNumber_b1 (j := 10) rfl) (byt_of hReader_putNumber_b1 (j := 11) rfl) (byt_of hReader_putNumber_b1 (j := 12) rfl) rfl
theorem dReader_putNumber_45 : decode (mcc mReader_putNumber) 45 = .ok (.goto (-25), 3) := o167 (a := 255) (b := 231) (byt_of hReader_putNumber_b1 (j := 13) rfl) (byt_of hReader_putNumber_b1 (j := 14) rfl) (byt_of hReader_putNumber_b1 (j := 15) rfl) rfl
theorem dReader_putNumber_48 : decode (mcc mReader_putNumber) 48 = .ok (.aload_n 0, 1) := o42 (byt_of hReader_putNumber_b1 (j := 16) rfl)
theorem dReader_putNumber_49 : decode (mcc mReader_putNumber) 49 = .ok (.iconst 2, 1) := o5 (byt_of hReader_putNumber_b1 (j := 17) rfl)
theorem dReader_putNumber_50 : decode (mcc mReader_putNumber) 50 = .ok (.iload_n 1, 1) := o27 (byt_of hReader_putNumber_b1 (j := 18) rfl)
theorem dReader_putNumber_51 : decode (mcc mReader_putNumber) 51 = .ok (.iload_n 3, 1) := o29 (byt_of hReader_putNumber_b1 (j := 19) rfl)
theorem dReader_putNumber_52 : decode (mcc mReader_putNumber) 52 = .ok (.invokevirtual 77, 3) := o182 (a := 0) (b := 77) (byt_of hReader_putNumber_b1 (j := 20) rfl) (byt_of hReader_putNumber_b1 (j := 21) rfl) (byt_of hReader_putNumber_b1 (j := 22) rfl) rfl
theorem dReader_putNumber_55 : decode (mcc mReader_putNumber) 55 = .ok (.return_, 1) := o177 (byt_of hReader_putNumber_b1 (j := 23) rfl)
def bReader_putWord_b0 : List Nat := [42, 27, 28, 182, 0, 81, 62, 29, 2, 159, 0, 13, 42, 6, 27, 29, 182, 0, 77, 167, 0, 15, 42, 42, 27, 28, 182, 0, 85, 27, 3, 182, 0, 77, 177]
theorem hReader_putWord_b0 : BL (mcc mReader_putWord) 0 bReader_putWord_b0 := by decide +kernel
theorem dReader_putWord_0 : decode (mcc mReader_putWord) 0 = .ok (.aload_n 0, 1) := o42 (byt_of hReader_putWord_b0 (j := 0) rfl)
theorem dReader_putWord_1 : decode (mcc mReader_putWord) 1 = .ok (.iload_n 1, 1) := o27 (byt_of hReader_putWord_b0 (j := 1) rfl)
theorem dReader_putWord_2 : decode (mcc mReader_putWord) 2 = .ok (.iload_n 2, 1) := o28 (byt_of hReader_putWord_b0 (j := 2) rfl)
theorem dReader_putWord_3 : decode (mcc mReader_putWord) 3 = .ok (.invokevirtual 81, 3) := o182 (a := 0) (b := 81) (byt_of hReader_putWord_b0 (j := 3) rfl) (byt_of hReader_putWord_b0 (j := 4) rfl) (byt_of hReader_putWord_b0 (j := 5) rfl) rfl
theorem dReader_putWord_6 : decode (mcc mReader_putWord) 6 = .ok (.istore_n 3, 1) := o62 (byt_of hReader_putWord_b0 (j := 6) rfl)
theorem dReader_putWord_7 : decode (mcc mReader_putWord) 7 = .ok (.iload_n 3, 1) := o29 (byt_of hReader_putWord_b0 (j := 7) rfl)
theorem dReader_putWord_8 : decode (mcc mReader_putWord) 8 = .ok (.iconst (-1), 1) := o2 (byt_of hReader_putWord_b0 (j := 8) rfl)
theorem dReader_putWord_9 : decode (mcc mReader_putWord) 9 = .ok (.if_icmp .eq 13, 3) := o159 (a := 0) (b := 13) (byt_of hReader_putWord_b0 (j := 9) rfl) (byt_of hReader_putWord_b0 (j := 10) rfl) (byt_of hReader_putWord_b0 (j := 11) rfl) rfl
theorem dReader_putWord_12 : decode (mcc mReader_putWord) 12 = .ok (.aload_n 0, 1) := o42 (byt_of hReader_putWord_b0 (j := 12) rfl)
theorem dReader_putWord_13 : decode (mcc mReader_putWord) 13 = .ok (.iconst 3, 1) := o6 (byt_of hReader_putWord_b0 (j := 13) rfl)
theorem dReader_putWord_14 : decode (mcc mReader_putWord) 14 = .ok (.iload_n 1, 1) := o27 (byt_of hReader_putWord_b0 (j := 14) rfl)
theorem dReader_putWord_15 : decode (mcc mReader_putWord) 15 = .ok (.iload_n 3, 1) := o29 (byt_of hReader_putWord_b0 (j := 15) rfl)
theorem dReader_putWord_16 : decode (mcc mReader_putWord) 16 = .ok (.invokevirtual 77, 3) := o182 (a := 0) (b := 77) (byt_of hReader_putWord_b0 (j := 16) rfl) (byt_of hReader_putWord_b0 (j := 17) rfl) (byt_of hReader_putWord_b0 (j := 18) rfl) rfl
theorem dReader_putWord_19 : decode (mcc mReader_putWord) 19 = .ok (.goto 15, 3) := o167 (a := 0) (b := 15) (byt_of hReader_putWord_b0 (j := 19) rfl) (byt_of hReader_putWord_b0 (j := 20) rfl) (byt_of hReader_putWord_b0 (j := 21) rfl) rfl
theorem dReader_putWord_22 : decode (mcc mReader_putWord) 22 = .ok (.aload_n 0, 1) := o42 (byt_of hReader_putWord_b0 (j := 22) rfl)
theorem dReader_putWord_23 : decode (mcc mReader_putWord) 23 = .ok (.aload_n 0, 1) := o42 (byt_of hReader_putWord_b0 (j := 23) rfl)
theorem dReader_putWord_24 : decode (mcc mReader_putWord) 24 = .ok (.iload_n 1, 1) := o27 (byt_of hReader_putWord_b0 (j := 24) rfl)
theorem dReader_putWord_25 : decode (mcc mReader_putWord) 25 = .ok (.iload_n 2, 1) := o28 (byt_of hReader_putWord_b0 (j := 25) rfl)
theorem dReader_putWord_26 : decode (mcc mReader_putWord) 26 = .ok (.invokevirtual 85, 3) := o182 (a := 0) (b := 85) (byt_of hReader_putWord_b0 (j := 26) rfl) (byt_of hReader_putWord_b0 (j := 27) rfl) (byt_of hReader_putWord_b0 (j := 28) rfl) rfl
theorem dReader_putWord_29 : decode (mcc mReader_putWord) 29 = .ok (.iload_n 1, 1) := o27 (byt_of hReader_putWord_b0 (j := 29) rfl)
theorem dReader_putWord_30 : decode (mcc mReader_putWord) 30 = .ok (.iconst 0, 1) := o3 (byt_of hReader_putWord_b0 (j := 30) rfl)
theorem dReader_putWord_31 : decode (mcc mReader_putWord) 31 = .ok (.invokevirtual 77, 3) := o182 (a := 0) (b := 77) (byt_of hReader_putWord_b0 (j := 31) rfl) (byt_of hReader_putWord_b0 (j := 32) rfl) (byt_of hReader_putWord_b0 (j := 33) rfl) rfl
def bReader_putWord_b1 : List Nat := [0, 77, 177]
theorem hReader_putWord_b1 : BL (mcc mReader_putWord) 32 bReader_putWord_b1 := by decide +kernel
theorem dReader_putWord_34 : decode (mcc mReader_putWord) 34 = .ok (.return_, 1) := o177 (byt_of hReader_putWord_b1 (j := 2) rfl)
def bReader_nameAt_b0 : List Nat := [42, 18, 88, 27, 28, 182, 0, 90, 153, 0, 5, 3, 172, 42, 18, 94, 27, 28, 182, 0, 90, 153, 0, 5, 4, 172, 42, 18, 96, 27, 28, 182, 0, 90, 153, 0, 5, 5]
theorem hReader_nameAt_b0 : BL (mcc mReader_nameAt) 0 bReader_nameAt_b0 := by decide +kernel
theorem dReader_nameAt_0 : decode (mcc mReader_nameAt) 0 = .ok (.aload_n 0, 1) := o42 (byt_of hReader_nameAt_b0 (j := 0) rfl)
theorem dReader_nameAt_1 : decode (mcc mReader_nameAt) 1 = .ok (.ldc 88, 2) := o18 (a := 88) (byt_of hReader_nameAt_b0 (j := 1) rfl) (byt_of hReader_nameAt_b0 (j := 2) rfl)
theorem dReader_nameAt_3 : decode (mcc mReader_nameAt) 3 = .ok (.iload_n 1, 1) := o27 (byt_of hReader_nameAt_b0 (j := 3) rfl)
theorem dReader_nameAt_4 : decode (mcc mReader_nameAt) 4 = .ok (.iload_n 2, 1) := o28 (byt_of hReader_nameAt_b0 (j := 4) rfl)
theorem dReader_nameAt_5 : decode (mcc mReader_nameAt) 5 = .ok (.invokevirtual 90, 3) := o182 (a := 0) (b := 90) (byt_of hReader_nameAt_b0 (j := 5) rfl) (byt_of hReader_nameAt_b0 (j := 6) rfl) (byt_of hReader_nameAt_b0 (j := 7) rfl) rfl
theorem dReader_nameAt_8 : decode (mcc mReader_nameAt) 8 = .ok (.ifCond .eq 5, 3) := o153 (a := 0) (b := 5) (byt_of hReader_nameAt_b0 (j := 8) rfl) (byt_of hReader_nameAt_b0 (j := 9) rfl) (byt_of hReader_nameAt_b0 (j := 10) rfl) rfl
theorem dReader_nameAt_11 : decode (mcc mReader_nameAt) 11 = .ok (.iconst 0, 1) := o3 (byt_of hReader_nameAt_b0 (j := 11) rfl)
theorem dReader_nameAt_12 : decode (mcc mReader_nameAt) 12 = .ok (.ireturn, 1) := o172 (byt_of hReader_nameAt_b0 (j := 12) rfl)
theorem dReader_nameAt_13 : decode (mcc mReader_nameAt) 13 = .ok (.aload_n 0, 1) := o42 (byt_of hReader_nameAt_b0 (j := 13) rfl)
theorem dReader_nameAt_14 : decode (mcc mReader_nameAt) 14 = .ok (.ldc 94, 2) := o18 (a := 94) (byt_of hReader_nameAt_b0 (j := 14) rfl) (byt_of hReader_nameAt_b0 (j := 15) rfl)
theorem dReader_nameAt_16 : decode (mcc mReader_nameAt) 16 = .ok (.iload_n 1, 1) := o27 (byt_of hReader_nameAt_b0 (j := 16) rfl)
theorem dReader_nameAt_17 : decode (mcc mReader_nameAt) 17 = .ok (.iload_n 2, 1) := o28 (byt_of hReader_nameAt_b0 (j := 17) rfl)
theorem dReader_nameAt_18 : decode (mcc mReader_nameAt) 18 = .ok (.invokevirtual 90, 3) := o182 (a := 0) (b := 90) (byt_of hReader_nameAt_b0 (j := 18) rfl) (byt_of hReader_nameAt_b0 (j := 19) rfl) (byt_of hReader_nameAt_b0 (j := 20) rfl) rfl
theorem dReader_nameAt_21 : decode (mcc mReader_nameAt) 21 = .ok (.ifCond .eq 5, 3) := o153 (a := 0) (b := 5) (byt_of hReader_nameAt_b0 (j := 21) rfl) (byt_of hReader_nameAt_b0 (j := 22) rfl) (byt_of hReader_nameAt_b0 (j := 23) rfl) rfl
theorem dReader_nameAt_24 : decode (mcc mReader_nameAt) 24 = .ok (.iconst 1, 1) := o4 (byt_of hReader_nameAt_b0 (j := 24) rfl)
theorem dReader_nameAt_25 : decode (mcc mReader_nameAt) 25 = .ok (.ireturn, 1) := o172 (byt_of hReader_nameAt_b0 (j := 25) rfl)
theorem dReader_nameAt_26 : decode (mcc mReader_nameAt) 26 = .ok (.aload_n 0, 1) := o42 (byt_of hReader_nameAt_b0 (j := 26) rfl)
theorem dReader_nameAt_27 : decode (mcc mReader_nameAt) 27 = .ok (.ldc 96, 2) := o18 (a := 96) (byt_of hReader_nameAt_b0 (j := 27) rfl) (byt_of hReader_nameAt_b0 (j := 28) rfl)
theorem dReader_nameAt_29 : decode (mcc mReader_nameAt) 29 = .ok (.iload_n 1, 1) := o27 (byt_of hReader_nameAt_b0 (j := 29) rfl)
theorem dReader_nameAt_30 : decode (mcc mReader_nameAt) 30 = .ok (.iload_n 2, 1) := o28 (byt_of hReader_nameAt_b0 (j := 30) rfl)
theorem dReader_nameAt_31 : decode (mcc mReader_nameAt) 31 = .ok (.invokevirtual 90, 3) := o182 (a := 0) (b := 90) (byt_of hReader_nameAt_b0 (j := 31) rfl) (byt_of hReader_nameAt_b0 (j := 32) rfl) (byt_of hReader_nameAt_b0 (j := 33) rfl) rfl
def bReader_nameAt_b1 : List Nat := [0, 90, 153, 0, 5, 5, 172, 42, 18, 98, 27, 28, 182, 0, 90, 153, 0, 5, 6, 172, 42, 18, 100, 27, 28, 182, 0, 90, 153, 0, 5, 7, 172, 42, 18, 102, 27, 28]
theorem hReader_nameAt_b1 : BL (mcc mReader_nameAt) 32 bReader_nameAt_b1 := by decide +kernel
theorem dReader_nameAt_34 : decode (mcc mReader_nameAt) 34 = .ok (.ifCond .eq 5, 3) := o153 (a := 0) (b := 5) (byt_of hReader_nameAt_b1 (j := 2) rfl) (byt_of hReader_nameAt_b1 (j := 3) rfl) (byt_of hReader_nameAt_b1 (j := 4) rfl) rfl
theorem dReader_nameAt_37 : decode (mcc mReader_nameAt) 37 = .ok (.iconst 2, 1) := o5 (byt_of hReader_nameAt_b1 (j := 5) rfl)
theorem dReader_nameAt_38 : decode (mcc mReader_nameAt) 38 = .ok (.ireturn, 1) := o172 (byt_of hReader_nameAt_b1 (j := 6) rfl)
theorem dReader_nameAt_39 : decode (mcc mReader_nameAt) 39 = .ok (.aload_n 0, 1) := o42 (byt_of hReader_nameAt_b1 (j := 7) rfl)
theorem dReader_nameAt_40 : decode (mcc mReader_nameAt) 40 = .ok (.ldc 98, 2) := o18 (a := 98) (byt_of hReader_nameAt_b1 (j := 8) rfl) (byt_of hReader_nameAt_b1 (j := 9) rfl)
theorem dReader_nameAt_42 : decode (mcc mReader_nameAt) 42 = .ok (.iload_n 1, 1) := o27 (byt_of hReader_nameAt_b1 (j := 10) rfl)
theorem dReader_nameAt_43 : decode (mcc mReader_nameAt) 43 = .ok (.iload_n 2, 1) := o28 (byt_of hReader_nameAt_b1 (j := 11) rfl)
theorem dReader_nameAt_44 : decode (mcc mReader_nameAt) 44 = .ok (.invokevirtual 90, 3) := o182 (a := 0) (b := 90) (byt_of hReader_nameAt_b1 (j := 12) rfl) (byt_of hReader_nameAt_b1 (j := 13) rfl) (byt_of hReader_nameAt_b1 (j := 14) rfl) rfl
theorem dReader_nameAt_47 : decode (mcc mReader_nameAt) 47 = .ok (.ifCond .eq 5, 3) := o153 (a := 0) (b := 5) (byt_of hReader_nameAt_b1 (j := 15) rfl) (byt_of hReader_nameAt_b1 (j := 16) rfl) (byt_of hReader_nameAt_b1 (j := 17) rfl) rfl
theorem dReader_nameAt_50 : decode (mcc mReader_nameAt) 50 = .ok (.iconst 3, 1) := o6 (byt_of hReader_nameAt_b1 (j := 18) rfl)
theorem dReader_nameAt_51 : decode (mcc mReader_nameAt) 51 = .ok (.ireturn, 1) := o172 (byt_of hReader_nameAt_b1 (j := 19) rfl)
theorem dReader_nameAt_52 : decode (mcc mReader_nameAt) 52 = .ok (.aload_n 0, 1) := o42 (byt_of hReader_nameAt_b1 (j := 20) rfl)
theorem dReader_nameAt_53 : decode (mcc mReader_nameAt) 53 = .ok (.ldc 100, 2) := o18 (a := 100) (byt_of hReader_nameAt_b1 (j := 21) rfl) (byt_of hReader_nameAt_b1 (j := 22) rfl)
theorem dReader_nameAt_55 : decode (mcc mReader_nameAt) 55 = .ok (.iload_n 1, 1) := o27 (byt_of hReader_nameAt_b1 (j := 23) rfl)
theorem dReader_nameAt_56 : decode (mcc mReader_nameAt) 56 = .ok (.iload_n 2, 1) := o28 (byt_of hReader_nameAt_b1 (j := 24) rfl)
theorem dReader_nameAt_57 : decode (mcc mReader_nameAt) 57 = .ok (.invokevirtual 90, 3) := o182 (a := 0) (b := 90) (byt_of hReader_nameAt_b1 (j := 25) rfl) (byt_of hReader_nameAt_b1 (j := 26) rfl) (byt_of hReader_nameAt_b1 (j := 27) rfl) rfl
theorem dReader_nameAt_60 : decode (mcc mReader_nameAt) 60 = .ok (.ifCond .eq 5, 3) := o153 (a := 0) (b := 5) (byt_of hReader_nameAt_b1 (j := 28) rfl) (byt_of hReader_nameAt_b1 (j := 29) rfl) (byt_of hReader_nameAt_b1 (j := 30) rfl) rfl
theorem dReader_nameAt_63 : decode (mcc mReader_nameAt) 63 = .ok (.iconst 4, 1) := o7 (byt_of hReader_nameAt_b1 (j := 31) rfl)
def bReader_nameAt_b2 : List Nat := [172, 42, 18, 102, 27, 28, 182, 0, 90, 153, 0, 5, 8, 172, 2, 172]
theorem hReader_nameAt_b2 : BL (mcc mReader_nameAt) 64 bReader_nameAt_b2 := by decide +kernel
theorem dReader_nameAt_64 : decode (mcc mReader_nameAt) 64 = .ok (.ireturn, 1) := o172 (byt_of hReader_nameAt_b2 (j := 0) rfl)
theorem dReader_nameAt_65 : decode (mcc mReader_nameAt) 65 = .ok (.aload_n 0, 1) := o42 (byt_of hReader_nameAt_b2 (j := 1) rfl)
theorem dReader_nameAt_66 : decode (mcc mReader_nameAt) 66 = .ok (.ldc 102, 2) := o18 (a := 102) (byt_of hReader_nameAt_b2 (j := 2) rfl) (byt_of hReader_nameAt_b2 (j := 3) rfl)
theorem dReader_nameAt_68 : decode (mcc mReader_nameAt) 68 = .ok (.iload_n 1, 1) := o27 (byt_of hReader_nameAt_b2 (j := 4) rfl)
theorem dReader_nameAt_69 : decode (mcc mReader_nameAt) 69 = .ok (.iload_n 2, 1) := o28 (byt_of hReader_nameAt_b2 (j := 5) rfl)
theorem dReader_nameAt_70 : decode (mcc mReader_nameAt) 70 = .ok (.invokevirtual 90, 3) := o182 (a := 0) (b := 90) (byt_of hReader_nameAt_b2 (j := 6) rfl) (byt_of hReader_nameAt_b2 (j := 7) rfl) (byt_of hReader_nameAt_b2 (j := 8) rfl) rfl
theorem dReader_nameAt_73 : decode (mcc mReader_nameAt) 73 = .ok (.ifCond .eq 5, 3) := o153 (a := 0) (b := 5) (byt_of hReader_nameAt_b2 (j := 9) rfl) (byt_of hReader_nameAt_b2 (j := 10) rfl) (byt_of hReader_nameAt_b2 (j := 11) rfl) rfl
theorem dReader_nameAt_76 : decode (mcc mReader_nameAt) 76 = .ok (.iconst 5, 1) := o8 (byt_of hReader_nameAt_b2 (j := 12) rfl)
theorem dReader_nameAt_77 : decode (mcc mReader_nameAt) 77 = .ok (.ireturn, 1) := o172 (byt_of hReader_nameAt_b2 (j := 13) rfl)
theorem dReader_nameAt_78 : decode (mcc mReader_nameAt) 78 = .ok (.iconst (-1), 1) := o2 (byt_of hReader_nameAt_b2 (j := 14) rfl)
theorem dReader_nameAt_79 : decode (mcc mReader_nameAt) 79 = .ok (.ireturn, 1) := o172 (byt_of hReader_nameAt_b2 (j := 15) rfl)
def bReader_keyAt_b0 : List Nat := [42, 18, 104, 27, 28, 182, 0, 90, 153, 0, 5, 7, 172, 42, 18, 106, 27, 28, 182, 0, 90, 153, 0, 5, 8, 172, 42, 18, 108, 27, 28, 182, 0, 90, 153, 0, 6, 16]
theorem hReader_keyAt_b0 : BL (mcc mReader_keyAt) 0 bReader_keyAt_b0 := by decide +kernel
theorem dReader_keyAt_0 : decode (mcc mReader_keyAt) 0 = .ok (.aload_n 0, 1) := o42 (byt_of hReader_keyAt_b0 (j := 0) rfl)
theorem dReader_keyAt_1 : decode (mcc mReader_keyAt) 1 = .ok (.ldc 104, 2) := o18 (a := 104) (byt_of hReader_keyAt_b0 (j := 1) rfl) (byt_of hReader_keyAt_b0 (j := 2) rfl)
theorem dReader_keyAt_3 : decode (mcc mReader_keyAt) 3 = .ok (.iload_n 1, 1) := o27 (byt_of hReader_keyAt_b0 (j := 3) rfl)
theorem dReader_keyAt_4 : decode (mcc mReader_keyAt) 4 = .ok (.iload_n 2, 1) := o28 (byt_of hReader_keyAt_b0 (j := 4) rfl)
theorem dReader_keyAt_5 : decode (mcc mReader_keyAt) 5 = .ok (.invokevirtual 90, 3) := o182 (a := 0) (b := 90) (byt_of hReader_keyAt_b0 (j := 5) rfl) (byt_of hReader_keyAt_b0 (j := 6) rfl) (byt_of hReader_keyAt_b0 (j := 7) rfl) rfl
theorem dReader_keyAt_8 : decode (mcc mReader_keyAt) 8 = .ok (.ifCond .eq 5, 3) := o153 (a := 0) (b := 5) (byt_of hReader_keyAt_b0 (j := 8) rfl) (byt_of hReader_keyAt_b0 (j := 9) rfl) (byt_of hReader_keyAt_b0 (j := 10) rfl) rfl
theorem dReader_keyAt_11 : decode (mcc mReader_keyAt) 11 = .ok (.iconst 4, 1) := o7 (byt_of hReader_keyAt_b0 (j := 11) rfl)
theorem dReader_keyAt_12 : decode (mcc mReader_keyAt) 12 = .ok (.ireturn, 1) := o172 (byt_of hReader_keyAt_b0 (j := 12) rfl)
theorem dReader_keyAt_13 : decode (mcc mReader_keyAt) 13 = .ok (.aload_n 0, 1) := o42 (byt_of hReader_keyAt_b0 (j := 13) rfl)
theorem dReader_keyAt_14 : decode (mcc mReader_keyAt) 14 = .ok (.ldc 106, 2) := o18 (a := 106) (byt_of hReader_keyAt_b0 (j := 14) rfl) (byt_of hReader_keyAt_b0 (j := 15) rfl)
theorem dReader_keyAt_16 : decode (mcc mReader_keyAt) 16 = .ok (.iload_n 1, 1) := o27 (byt_of hReader_keyAt_b0 (j := 16) rfl)
theorem dReader_keyAt_17 : decode (mcc mReader_keyAt) 17 = .ok (.iload_n 2, 1) := o28 (byt_of hReader_keyAt_b0 (j := 17) rfl)
theorem dReader_keyAt_18 : decode (mcc mReader_keyAt) 18 = .ok (.invokevirtual 90, 3) := o182 (a := 0) (b := 90) (byt_of hReader_keyAt_b0 (j := 18) rfl) (byt_of hReader_keyAt_b0 (j := 19) rfl) (byt_of hReader_keyAt_b0 (j := 20) rfl) rfl
theorem dReader_keyAt_21 : decode (mcc mReader_keyAt) 21 = .ok (.ifCond .eq 5, 3) := o153 (a := 0) (b := 5) (byt_of hReader_keyAt_b0 (j := 21) rfl) (byt_of hReader_keyAt_b0 (j := 22) rfl) (byt_of hReader_keyAt_b0 (j := 23) rfl) rfl
theorem dReader_keyAt_24 : decode (mcc mReader_keyAt) 24 = .ok (.iconst 5, 1) := o8 (byt_of hReader_keyAt_b0 (j := 24) rfl)
theorem dReader_keyAt_25 : decode (mcc mReader_keyAt) 25 = .ok (.ireturn, 1) := o172 (byt_of hReader_keyAt_b0 (j := 25) rfl)
theorem dReader_keyAt_26 : decode (mcc mReader_keyAt) 26 = .ok (.aload_n 0, 1) := o42 (byt_of hReader_keyAt_b0 (j := 26) rfl)
theorem dReader_keyAt_27 : decode (mcc mReader_keyAt) 27 = .ok (.ldc 108, 2) := o18 (a := 108) (byt_of hReader_keyAt_b0 (j := 27) rfl) (byt_of hReader_keyAt_b0 (j := 28) rfl)
theorem dReader_keyAt_29 : decode (mcc mReader_keyAt) 29 = .ok (.iload_n 1, 1) := o27 (byt_of hReader_keyAt_b0 (j := 29) rfl)
theorem dReader_keyAt_30 : decode (mcc mReader_keyAt) 30 = .ok (.iload_n 2, 1) := o28 (byt_of hReader_keyAt_b0 (j := 30) rfl)
theorem dReader_keyAt_31 : decode (mcc mReader_keyAt) 31 = .ok (.invokevirtual 90, 3) := o182 (a := 0) (b := 90) (byt_of hReader_keyAt_b0 (j := 31) rfl) (byt_of hReader_keyAt_b0 (j := 32) rfl) (byt_of hReader_keyAt_b0 (j := 33) rfl) rfl
def bReader_keyAt_b1 : List Nat := [0, 90, 153, 0, 6, 16, 6, 172, 42, 18, 110, 27, 28, 182, 0, 90, 153, 0, 6, 16, 7, 172, 42, 18, 112, 27, 28, 182, 0, 90, 153, 0, 6, 16, 8, 172, 42, 18]
theorem hReader_keyAt_b1 : BL (mcc mReader_keyAt) 32 bReader_keyAt_b1 := by decide +kernel
theorem dReader_keyAt_34 : decode (mcc mReader_keyAt) 34 = .ok (.ifCond .eq 6, 3) := o153 (a := 0) (b := 6) (byt_of hReader_keyAt_b1 (j := 2) rfl) (byt_of hReader_keyAt_b1 (j := 3) rfl) (byt_of hReader_keyAt_b1 (j := 4) rfl) rfl
theorem dReader_keyAt_37 : decode (mcc mReader_keyAt) 37 = .ok (.bipush 6, 2) := o16 (a := 6) (byt_of hReader_keyAt_b1 (j := 5) rfl) (byt_of hReader_keyAt_b1 (j := 6) rfl) rfl
theorem dReader_keyAt_39 : decode (mcc mReader_keyAt) 39 = .ok (.ireturn, 1) := o172 (byt_of hReader_keyAt_b1 (j := 7) rfl)
theorem dReader_keyAt_40 : decode (mcc mReader_keyAt) 40 = .ok (.aload_n 0, 1) := o42 (byt_of hReader_keyAt_b1 (j := 8) rfl)
theorem dReader_keyAt_41 : decode (mcc mReader_keyAt) 41 = .ok (.ldc 110, 2) := o18 (a := 110) (byt_of hReader_keyAt_b1 (j := 9) rfl) (byt_of hReader_keyAt_b1 (j := 10) rfl)
theorem dReader_keyAt_43 : decode (mcc mReader_keyAt) 43 = .ok (.iload_n 1, 1) := o27 (byt_of hReader_keyAt_b1 (j := 11) rfl)
theorem dReader_keyAt_44 : decode (mcc mReader_keyAt) 44 = .ok (.iload_n 2, 1) := o28 (byt_of hReader_keyAt_b1 (j := 12) rfl)
theorem dReader_keyAt_45 : decode (mcc mReader_keyAt) 45 = .ok (.invokevirtual 90, 3) := o182 (a := 0) (b := 90) (byt_of hReader_keyAt_b1 (j := 13) rfl) (byt_of hReader_keyAt_b1 (j := 14) rfl) (byt_of hReader_keyAt_b1 (j := 15) rfl) rfl
theorem dReader_keyAt_48 : decode (mcc mReader_keyAt) 48 = .ok (.ifCond .eq 6, 3) := o153 (a := 0) (b := 6) (byt_of hReader_keyAt_b1 (j := 16) rfl) (byt_of hReader_keyAt_b1 (j := 17) rfl) (byt_of hReader_keyAt_b1 (j := 18) rfl) rfl
theorem dReader_keyAt_51 : decode (mcc mReader_keyAt) 51 = .ok (.bipush 7, 2) := o16 (a := 7) (byt_of hReader_keyAt_b1 (j := 19) rfl) (byt_of hReader_keyAt_b1 (j := 20) rfl) rfl
theorem dReader_keyAt_53 : decode (mcc mReader_keyAt) 53 = .ok (.ireturn, 1) := o172 (byt_of hReader_keyAt_b1 (j := 21) rfl)
theorem dReader_keyAt_54 : decode (mcc mReader_keyAt) 54 = .ok (.aload_n 0, 1) := o42 (byt_of hReader_keyAt_b1 (j := 22) rfl)
theorem dReader_keyAt_55 : decode (mcc mReader_keyAt) 55 = .ok (.ldc 112, 2) := o18 (a := 112) (byt_of hReader_keyAt_b1 (j := 23) rfl) (byt_of hReader_keyAt_b1 (j := 24) rfl)
theorem dReader_keyAt_57 : decode (mcc mReader_keyAt) 57 = .ok (.iload_n 1, 1) := o27 (byt_of hReader_keyAt_b1 (j := 25) rfl)
theorem dReader_keyAt_58 : decode (mcc mReader_keyAt) 58 = .ok (.iload_n 2, 1) := o28 (byt_of hReader_keyAt_b1 (j := 26) rfl)
theorem dReader_keyAt_59 : decode (mcc mReader_keyAt) 59 = .ok (.invokevirtual 90, 3) := o182 (a := 0) (b := 90) (byt_of hReader_keyAt_b1 (j := 27) rfl) (byt_of hReader_keyAt_b1 (j := 28) rfl) (byt_of hReader_keyAt_b1 (j := 29) rfl) rfl
theorem dReader_keyAt_62 : decode (mcc mReader_keyAt) 62 = .ok (.ifCond .eq 6, 3) := o153 (a := 0) (b := 6) (byt_of hReader_keyAt_b1 (j := 30) rfl) (byt_of hReader_keyAt_b1 (j := 31) rfl) (byt_of hReader_keyAt_b1 (j := 32) rfl) rfl
def bReader_keyAt_b2 : List Nat := [6, 16, 8, 172, 42, 18, 114, 27, 28, 182, 0, 90, 153, 0, 6, 16, 9, 172, 4, 172]
theorem hReader_keyAt_b2 : BL (mcc mReader_keyAt) 64 bReader_keyAt_b2 := by decide +kernel
theorem dReader_keyAt_65 : decode (mcc mReader_keyAt) 65 = .ok (.bipush 8, 2) := o16 (a := 8) (byt_of hReader_keyAt_b2 (j := 1) rfl) (byt_of hReader_keyAt_b2 (j := 2) rfl) rfl
theorem dReader_keyAt_67 : decode (mcc mReader_keyAt) 67 = .ok (.ireturn, 1) := o172 (byt_of hReader_keyAt_b2 (j := 3) rfl)
theorem dReader_keyAt_68 : decode (mcc mReader_keyAt) 68 = .ok (.aload_n 0, 1) := o42 (byt_of hReader_keyAt_b2 (j := 4) rfl)
theorem dReader_keyAt_69 : decode (mcc mReader_keyAt) 69 = .ok (.ldc 114, 2) := o18 (a := 114) (byt_of hReader_keyAt_b2 (j := 5) rfl) (byt_of hReader_keyAt_b2 (j := 6) rfl)
theorem dReader_keyAt_71 : decode (mcc mReader_keyAt) 71 = .ok (.iload_n 1, 1) := o27 (byt_of hReader_keyAt_b2 (j := 7) rfl)
theorem dReader_keyAt_72 : decode (mcc mReader_keyAt) 72 = .ok (.iload_n 2, 1) := o28 (byt_of hReader_keyAt_b2 (j := 8) rfl)
theorem dReader_keyAt_73 : decode (mcc mReader_keyAt) 73 = .ok (.invokevirtual 90, 3) := o182 (a := 0) (b := 90) (byt_of hReader_keyAt_b2 (j := 9) rfl) (byt_of hReader_keyAt_b2 (j := 10) rfl) (byt_of hReader_keyAt_b2 (j := 11) rfl) rfl
theorem dReader_keyAt_76 : decode (mcc mReader_keyAt) 76 = .ok (.ifCond .eq 6, 3) := o153 (a := 0) (b := 6) (byt_of hReader_keyAt_b2 (j := 12) rfl) (byt_of hReader_keyAt_b2 (j := 13) rfl) (byt_of hReader_keyAt_b2 (j := 14) rfl) rfl
theorem dReader_keyAt_79 : decode (mcc mReader_keyAt) 79 = .ok (.bipush 9, 2) := o16 (a := 9) (byt_of hReader_keyAt_b2 (j := 15) rfl) (byt_of hReader_keyAt_b2 (j := 16) rfl) rfl
theorem dReader_keyAt_81 : decode (mcc mReader_keyAt) 81 = .ok (.ireturn, 1) := o172 (byt_of hReader_keyAt_b2 (j := 17) rfl)
theorem dReader_keyAt_82 : decode (mcc mReader_keyAt) 82 = .ok (.iconst 1, 1) := o4 (byt_of hReader_keyAt_b2 (j := 18) rfl)
theorem dReader_keyAt_83 : decode (mcc mReader_keyAt) 83 = .ok (.ireturn, 1) := o172 (byt_of hReader_keyAt_b2 (j := 19) rfl)
def bReader_spells_b0 : List Nat := [43, 182, 0, 116, 29, 28, 100, 159, 0, 5, 3, 172, 28, 54, 4, 21, 4, 29, 162, 0, 29, 43, 21, 4, 28, 100, 182, 0, 122, 42, 180, 0, 9, 21, 4, 46, 159, 0]
theorem hReader_spells_b0 : BL (mcc mReader_spells) 0 bReader_spells_b0 := by decide +kernel
theorem dReader_spells_0 : decode (mcc mReader_spells) 0 = .ok (.aload_n 1, 1) := o43 (byt_of hReader_spells_b0 (j := 0) rfl)
theorem dReader_spells_1 : decode (mcc mReader_spells) 1 = .ok (.invokevirtual 116, 3) := o182 (a := 0) (b := 116) (byt_of hReader_spells_b0 (j := 1) rfl) (byt_of hReader_spells_b0 (j := 2) rfl) (byt_of hReader_spells_b0 (j := 3) rfl) rfl
theorem dReader_spells_4 : decode (mcc mReader_spells) 4 = .ok (.iload_n 3, 1) := o29 (byt_of hReader_spells_b0 (j := 4) rfl)
theorem dReader_spells_5 : decode (mcc mReader_spells) 5 = .ok (.iload_n 2, 1) := o28 (byt_of hReader_spells_b0 (j := 5) rfl)
theorem dReader_spells_6 : decode (mcc mReader_spells) 6 = .ok (.isub, 1) := o100 (byt_of hReader_spells_b0 (j := 6) rfl)
theorem dReader_spells_7 : decode (mcc mReader_spells) 7 = .ok (.if_icmp .eq 5, 3) := o159 (a := 0) (b := 5) (byt_of hReader_spells_b0 (j := 7) rfl) (byt_of hReader_spells_b0 (j := 8) rfl) (byt_of hReader_spells_b0 (j := 9) rfl) rfl
theorem dReader_spells_10 : decode (mcc mReader_spells) 10 = .ok (.iconst 0, 1) := o3 (byt_of hReader_spells_b0 (j := 10) rfl)
theorem dReader_spells_11 : decode (mcc mReader_spells) 11 = .ok (.ireturn, 1) := o172 (byt_of hReader_spells_b0 (j := 11) rfl)
theorem dReader_spells_12 : decode (mcc mReader_spells) 12 = .ok (.iload_n 2, 1) := o28 (byt_of hReader_spells_b0 (j := 12) rfl)
theorem dReader_spells_13 : decode (mcc mReader_spells) 13 = .ok (.istore 4, 2) := o54 (a := 4) (byt_of hReader_spells_b0 (j := 13) rfl) (byt_of hReader_spells_b0 (j := 14) rfl)
theorem dReader_spells_15 : decode (mcc mReader_spells) 15 = .ok (.iload 4, 2) := o21 (a := 4) (byt_of hReader_spells_b0 (j := 15) rfl) (byt_of hReader_spells_b0 (j := 16) rfl)
theorem dReader_spells_17 : decode (mcc mReader_spells) 17 = .ok (.iload_n 3, 1) := o29 (byt_of hReader_spells_b0 (j := 17) rfl)
theorem dReader_spells_18 : decode (mcc mReader_spells) 18 = .ok (.if_icmp .ge 29, 3) := o162 (a := 0) (b := 29) (byt_of hReader_spells_b0 (j := 18) rfl) (byt_of hReader_spells_b0 (j := 19) rfl) (byt_of hReader_spells_b0 (j := 20) rfl) rfl
theorem dReader_spells_21 : decode (mcc mReader_spells) 21 = .ok (.aload_n 1, 1) := o43 (byt_of hReader_spells_b0 (j := 21) rfl)
theorem dReader_spells_22 : decode (mcc mReader_spells) 22 = .ok (.iload 4, 2) := o21 (a := 4) (byt_of hReader_spells_b0 (j := 22) rfl) (byt_of hReader_spells_b0 (j := 23) rfl)
theorem dReader_spells_24 : decode (mcc mReader_spells) 24 = .ok (.iload_n 2, 1) := o28 (byt_of hReader_spells_b0 (j := 24) rfl)
theorem dReader_spells_25 : decode (mcc mReader_spells) 25 = .ok (.isub, 1) := o100 (byt_of hReader_spells_b0 (j := 25) rfl)
theorem dReader_spells_26 : decode (mcc mReader_spells) 26 = .ok (.invokevirtual 122, 3) := o182 (a := 0) (b := 122) (byt_of hReader_spells_b0 (j := 26) rfl) (byt_of hReader_spells_b0 (j := 27) rfl) (byt_of hReader_spells_b0 (j := 28) rfl) rfl
theorem dReader_spells_29 : decode (mcc mReader_spells) 29 = .ok (.aload_n 0, 1) := o42 (byt_of hReader_spells_b0 (j := 29) rfl)
theorem dReader_spells_30 : decode (mcc mReader_spells) 30 = .ok (.getfield 9, 3) := o180 (a := 0) (b := 9) (byt_of hReader_spells_b0 (j := 30) rfl) (byt_of hReader_spells_b0 (j := 31) rfl) (byt_of hReader_spells_b0 (j := 32) rfl) rfl
def bReader_spells_b1 : List Nat := [9, 21, 4, 46, 159, 0, 5, 3, 172, 132, 4, 1, 167, 255, 227, 4, 172]
theorem hReader_spells_b1 : BL (mcc mReader_spells) 32 bReader_spells_b1 := by decide +kernel
theorem dReader_spells_33 : decode (mcc mReader_spells) 33 = .ok (.iload 4, 2) := o21 (a := 4) (byt_of hReader_spells_b1 (j := 1) rfl) (byt_of hReader_spells_b1 (j := 2) rfl)
theorem dReader_spells_35 : decode (mcc mReader_spells) 35 = .ok (.iaload, 1) := o46 (byt_of hReader_spells_b1 (j := 3) rfl)
theorem dReader_spells_36 : decode (mcc mReader_spells) 36 = .ok (.if_icmp .eq 5, 3) := o159 (a := 0) (b := 5) (byt_of hReader_spells_b1 (j := 4) rfl) (byt_of hReader_spells_b1 (j := 5) rfl) (byt_of hReader_spells_b1 (j := 6) rfl) rfl
theorem dReader_spells_39 : decode (mcc mReader_spells) 39 = .ok (.iconst 0, 1) := o3 (byt_of hReader_spells_b1 (j := 7) rfl)
theorem dReader_spells_40 : decode (mcc mReader_spells) 40 = .ok (.ireturn, 1) := o172 (byt_of hReader_spells_b1 (j := 8) rfl)
theorem dReader_spells_41 : decode (mcc mReader_spells) 41 = .ok (.iinc 4 1, 3) := o132 (a := 4) (b := 1) (byt_of hReader_spells_b1 (j := 9) rfl) (byt_of hReader_spells_b1 (j := 10) rfl) (byt_of hReader_spells_b1 (j := 11) rfl) rfl
theorem dReader_spells_44 : decode (mcc mReader_spells) 44 = .ok (.goto (-29), 3) := o167 (a := 255) (b := 227) (byt_of hReader_spells_b1 (j := 12) rfl) (byt_of hReader_spells_b1 (j := 13) rfl) (byt_of hReader_spells_b1 (j := 14) rfl) rfl
theorem dReader_spells_47 : decode (mcc mReader_spells) 47 = .ok (.iconst 1, 1) := o4 (byt_of hReader_spells_b1 (j := 15) rfl)
theorem dReader_spells_48 : decode (mcc mReader_spells) 48 = .ok (.ireturn, 1) := o172 (byt_of hReader_spells_b1 (j := 16) rfl)
def bReader_lettersEnd_b0 : List Nat := [27, 61, 28, 42, 180, 0, 15, 162, 0, 21, 42, 180, 0, 9, 28, 46, 184, 0, 54, 153, 0, 9, 132, 2, 1, 167, 255, 233, 28, 172]
theorem hReader_lettersEnd_b0 : BL (mcc mReader_lettersEnd) 0 bReader_lettersEnd_b0 := by decide +kernel
theorem dReader_lettersEnd_0 : decode (mcc mReader_lettersEnd) 0 = .ok (.iload_n 1, 1) := o27 (byt_of hReader_lettersEnd_b0 (j := 0) rfl)
theorem dReader_lettersEnd_1 : decode (mcc mReader_lettersEnd) 1 = .ok (.istore_n 2, 1) := o61 (byt_of hReader_lettersEnd_b0 (j := 1) rfl)
theorem dReader_lettersEnd_2 : decode (mcc mReader_lettersEnd) 2 = .ok (.iload_n 2, 1) := o28 (byt_of hReader_lettersEnd_b0 (j := 2) rfl)
theorem dReader_lettersEnd_3 : decode (mcc mReader_lettersEnd) 3 = .ok (.aload_n 0, 1) := o42 (byt_of hReader_lettersEnd_b0 (j := 3) rfl)
theorem dReader_lettersEnd_4 : decode (mcc mReader_lettersEnd) 4 = .ok (.getfield 15, 3) := o180 (a := 0) (b := 15) (byt_of hReader_lettersEnd_b0 (j := 4) rfl) (byt_of hReader_lettersEnd_b0 (j := 5) rfl) (byt_of hReader_lettersEnd_b0 (j := 6) rfl) rfl
theorem dReader_lettersEnd_7 : decode (mcc mReader_lettersEnd) 7 = .ok (.if_icmp .ge 21, 3) := o162 (a := 0) (b := 21) (byt_of hReader_lettersEnd_b0 (j := 7) rfl) (byt_of hReader_lettersEnd_b0 (j := 8) rfl) (byt_of hReader_lettersEnd_b0 (j := 9) rfl) rfl
theorem dReader_lettersEnd_10 : decode (mcc mReader_lettersEnd) 10 = .ok (.aload_n 0, 1) := o42 (byt_of hReader_lettersEnd_b0 (j := 10) rfl)
theorem dReader_lettersEnd_11 : decode (mcc mReader_lettersEnd) 11 = .ok (.getfield 9, 3) := o180 (a := 0) (b := 9) (byt_of hReader_lettersEnd_b0 (j := 11) rfl) (byt_of hReader_lettersEnd_b0 (j := 12) rfl) (byt_of hReader_lettersEnd_b0 (j := 13) rfl) rfl
theorem dReader_lettersEnd_14 : decode (mcc mReader_lettersEnd) 14 = .ok (.iload_n 2, 1) := o28 (byt_of hReader_lettersEnd_b0 (j := 14) rfl)
theorem dReader_lettersEnd_15 : decode (mcc mReader_lettersEnd) 15 = .ok (.iaload, 1) := o46 (byt_of hReader_lettersEnd_b0 (j := 15) rfl)
theorem dReader_lettersEnd_16 : decode (mcc mReader_lettersEnd) 16 = .ok (.invokestatic 54, 3) := o184 (a := 0) (b := 54) (byt_of hReader_lettersEnd_b0 (j := 16) rfl) (byt_of hReader_lettersEnd_b0 (j := 17) rfl) (byt_of hReader_lettersEnd_b0 (j := 18) rfl) rfl
theorem dReader_lettersEnd_19 : decode (mcc mReader_lettersEnd) 19 = .ok (.ifCond .eq 9, 3) := o153 (a := 0) (b := 9) (byt_of hReader_lettersEnd_b0 (j := 19) rfl) (byt_of hReader_lettersEnd_b0 (j := 20) rfl) (byt_of hReader_lettersEnd_b0 (j := 21) rfl) rfl
theorem dReader_lettersEnd_22 : decode (mcc mReader_lettersEnd) 22 = .ok (.iinc 2 1, 3) := o132 (a := 2) (b := 1) (byt_of hReader_lettersEnd_b0 (j := 22) rfl) (byt_of hReader_lettersEnd_b0 (j := 23) rfl) (byt_of hReader_lettersEnd_b0 (j := 24) rfl) rfl
theorem dReader_lettersEnd_25 : decode (mcc mReader_lettersEnd) 25 = .ok (.goto (-23), 3) := o167 (a := 255) (b := 233) (byt_of hReader_lettersEnd_b0 (j := 25) rfl) (byt_of hReader_lettersEnd_b0 (j := 26) rfl) (byt_of hReader_lettersEnd_b0 (j := 27) rfl) rfl
theorem dReader_lettersEnd_28 : decode (mcc mReader_lettersEnd) 28 = .ok (.iload_n 2, 1) := o28 (byt_of hReader_lettersEnd_b0 (j := 28) rfl)
theorem dReader_lettersEnd_29 : decode (mcc mReader_lettersEnd) 29 = .ok (.ireturn, 1) := o172 (byt_of hReader_lettersEnd_b0 (j := 29) rfl)
def bReader_digitsEnd_b0 : List Nat := [27, 61, 28, 42, 180, 0, 15, 162, 0, 21, 42, 180, 0, 9, 28, 46, 184, 0, 65, 153, 0, 9, 132, 2, 1, 167, 255, 233, 28, 172]
theorem hReader_digitsEnd_b0 : BL (mcc mReader_digitsEnd) 0 bReader_digitsEnd_b0 := by decide +kernel
theorem dReader_digitsEnd_0 : decode (mcc mReader_digitsEnd) 0 = .ok (.iload_n 1, 1) := o27 (byt_of hReader_digitsEnd_b0 (j := 0) rfl)
theorem dReader_digitsEnd_1 : decode (mcc mReader_digitsEnd) 1 = .ok (.istore_n 2, 1) := o61 (byt_of hReader_digitsEnd_b0 (j := 1) rfl)
theorem dReader_digitsEnd_2 : decode (mcc mReader_digitsEnd) 2 = .ok (.iload_n 2, 1) := o28 (byt_of hReader_digitsEnd_b0 (j := 2) rfl)
theorem dReader_digitsEnd_3 : decode (mcc mReader_digitsEnd) 3 = .ok (.aload_n 0, 1) := o42 (byt_of hReader_digitsEnd_b0 (j := 3) rfl)
theorem dReader_digitsEnd_4 : decode (mcc mReader_digitsEnd) 4 = .ok (.getfield 15, 3) := o180 (a := 0) (b := 15) (byt_of hReader_digitsEnd_b0 (j := 4) rfl) (byt_of hReader_digitsEnd_b0 (j := 5) rfl) (byt_of hReader_digitsEnd_b0 (j := 6) rfl) rfl
theorem dReader_digitsEnd_7 : decode (mcc mReader_digitsEnd) 7 = .ok (.if_icmp .ge 21, 3) := o162 (a := 0) (b := 21) (byt_of hReader_digitsEnd_b0 (j := 7) rfl) (byt_of hReader_digitsEnd_b0 (j := 8) rfl) (byt_of hReader_digitsEnd_b0 (j := 9) rfl) rfl
theorem dReader_digitsEnd_10 : decode (mcc mReader_digitsEnd) 10 = .ok (.aload_n 0, 1) := o42 (byt_of hReader_digitsEnd_b0 (j := 10) rfl)
theorem dReader_digitsEnd_11 : decode (mcc mReader_digitsEnd) 11 = .ok (.getfield 9, 3) := o180 (a := 0) (b := 9) (byt_of hReader_digitsEnd_b0 (j := 11) rfl) (byt_of hReader_digitsEnd_b0 (j := 12) rfl) (byt_of hReader_digitsEnd_b0 (j := 13) rfl) rfl
theorem dReader_digitsEnd_14 : decode (mcc mReader_digitsEnd) 14 = .ok (.iload_n 2, 1) := o28 (byt_of hReader_digitsEnd_b0 (j := 14) rfl)
theorem dReader_digitsEnd_15 : decode (mcc mReader_digitsEnd) 15 = .ok (.iaload, 1) := o46 (byt_of hReader_digitsEnd_b0 (j := 15) rfl)
theorem dReader_digitsEnd_16 : decode (mcc mReader_digitsEnd) 16 = .ok (.invokestatic 65, 3) := o184 (a := 0) (b := 65) (byt_of hReader_digitsEnd_b0 (j := 16) rfl) (byt_of hReader_digitsEnd_b0 (j := 17) rfl) (byt_of hReader_digitsEnd_b0 (j := 18) rfl) rfl
theorem dReader_digitsEnd_19 : decode (mcc mReader_digitsEnd) 19 = .ok (.ifCond .eq 9, 3) := o153 (a := 0) (b := 9) (byt_of hReader_digitsEnd_b0 (j := 19) rfl) (byt_of hReader_digitsEnd_b0 (j := 20) rfl) (byt_of hReader_digitsEnd_b0 (j := 21) rfl) rfl
theorem dReader_digitsEnd_22 : decode (mcc mReader_digitsEnd) 22 = .ok (.iinc 2 1, 3) := o132 (a := 2) (b := 1) (byt_of hReader_digitsEnd_b0 (j := 22) rfl) (byt_of hReader_digitsEnd_b0 (j := 23) rfl) (byt_of hReader_digitsEnd_b0 (j := 24) rfl) rfl
theorem dReader_digitsEnd_25 : decode (mcc mReader_digitsEnd) 25 = .ok (.goto (-23), 3) := o167 (a := 255) (b := 233) (byt_of hReader_digitsEnd_b0 (j := 25) rfl) (byt_of hReader_digitsEnd_b0 (j := 26) rfl) (byt_of hReader_digitsEnd_b0 (j := 27) rfl) rfl
theorem dReader_digitsEnd_28 : decode (mcc mReader_digitsEnd) 28 = .ok (.iload_n 2, 1) := o28 (byt_of hReader_digitsEnd_b0 (j := 28) rfl)
theorem dReader_digitsEnd_29 : decode (mcc mReader_digitsEnd) 29 = .ok (.ireturn, 1) := o172 (byt_of hReader_digitsEnd_b0 (j := 29) rfl)
def bReader_isLetter_b0 : List Nat := [26, 16, 97, 16, 122, 184, 0, 126, 172]
theorem hReader_isLetter_b0 : BL (mcc mReader_isLetter) 0 bReader_isLetter_b0 := by decide +kernel
theorem dReader_isLetter_0 : decode (mcc mReader_isLetter) 0 = .ok (.iload_n 0, 1) := o26 (byt_of hReader_isLetter_b0 (j := 0) rfl)
theorem dReader_isLetter_1 : decode (mcc mReader_isLetter) 1 = .ok (.bipush 97, 2) := o16 (a := 97) (byt_of hReader_isLetter_b0 (j := 1) rfl) (byt_of hReader_isLetter_b0 (j := 2) rfl) rfl
theorem dReader_isLetter_3 : decode (mcc mReader_isLetter) 3 = .ok (.bipush 122, 2) := o16 (a := 122) (byt_of hReader_isLetter_b0 (j := 3) rfl) (byt_of hReader_isLetter_b0 (j := 4) rfl) rfl
theorem dReader_isLetter_5 : decode (mcc mReader_isLetter) 5 = .ok (.invokestatic 126, 3) := o184 (a := 0) (b := 126) (byt_of hReader_isLetter_b0 (j := 5) rfl) (byt_of hReader_isLetter_b0 (j := 6) rfl) (byt_of hReader_isLetter_b0 (j := 7) rfl) rfl
theorem dReader_isLetter_8 : decode (mcc mReader_isLetter) 8 = .ok (.ireturn, 1) := o172 (byt_of hReader_isLetter_b0 (j := 8) rfl)
def bReader_isDigit_b0 : List Nat := [26, 16, 48, 16, 57, 184, 0, 126, 172]
theorem hReader_isDigit_b0 : BL (mcc mReader_isDigit) 0 bReader_isDigit_b0 := by decide +kernel
theorem dReader_isDigit_0 : decode (mcc mReader_isDigit) 0 = .ok (.iload_n 0, 1) := o26 (byt_of hReader_isDigit_b0 (j := 0) rfl)
theorem dReader_isDigit_1 : decode (mcc mReader_isDigit) 1 = .ok (.bipush 48, 2) := o16 (a := 48) (byt_of hReader_isDigit_b0 (j := 1) rfl) (byt_of hReader_isDigit_b0 (j := 2) rfl) rfl
theorem dReader_isDigit_3 : decode (mcc mReader_isDigit) 3 = .ok (.bipush 57, 2) := o16 (a := 57) (byt_of hReader_isDigit_b0 (j := 3) rfl) (byt_of hReader_isDigit_b0 (j := 4) rfl) rfl
theorem dReader_isDigit_5 : decode (mcc mReader_isDigit) 5 = .ok (.invokestatic 126, 3) := o184 (a := 0) (b := 126) (byt_of hReader_isDigit_b0 (j := 5) rfl) (byt_of hReader_isDigit_b0 (j := 6) rfl) (byt_of hReader_isDigit_b0 (j := 7) rfl) rfl
theorem dReader_isDigit_8 : decode (mcc mReader_isDigit) 8 = .ok (.ireturn, 1) := o172 (byt_of hReader_isDigit_b0 (j := 8) rfl)
def bReader_isSign_b0 : List Nat := [26, 170, 0, 0, 0, 0, 0, 105, 0, 0, 0, 40, 0, 0, 0, 61, 0, 0, 0, 103, 0, 0, 0, 103, 0, 0, 0, 103, 0, 0, 0, 103, 0, 0, 0, 105, 0, 0]
theorem hReader_isSign_b0 : BL (mcc mReader_isSign) 0 bReader_isSign_b0 := by decide +kernel
theorem dReader_isSign_0 : decode (mcc mReader_isSign) 0 = .ok (.iload_n 0, 1) := o26 (byt_of hReader_isSign_b0 (j := 0) rfl)
theorem dReader_isSign_1 : decode (mcc mReader_isSign) 1 = .ok (.tableswitch 105 40 61 #[103, 103, 103, 103, 105, 103, 105, 105, 105, 105, 105, 105, 105, 105, 105, 105, 105, 105, 105, 103, 103, 103], 103) := by decide +kernel
def bReader_isSign_b3 : List Nat := [0, 0, 0, 103, 0, 0, 0, 103, 4, 172, 3, 172]
theorem hReader_isSign_b3 : BL (mcc mReader_isSign) 96 bReader_isSign_b3 := by decide +kernel
theorem dReader_isSign_104 : decode (mcc mReader_isSign) 104 = .ok (.iconst 1, 1) := o4 (byt_of hReader_isSign_b3 (j := 8) rfl)
theorem dReader_isSign_105 : decode (mcc mReader_isSign) 105 = .ok (.ireturn, 1) := o172 (byt_of hReader_isSign_b3 (j := 9) rfl)
theorem dReader_isSign_106 : decode (mcc mReader_isSign) 106 = .ok (.iconst 0, 1) := o3 (byt_of hReader_isSign_b3 (j := 10) rfl)
theorem dReader_isSign_107 : decode (mcc mReader_isSign) 107 = .ok (.ireturn, 1) := o172 (byt_of hReader_isSign_b3 (j := 11) rfl)
def bReader_passes_b0 : List Nat := [42, 180, 0, 19, 42, 180, 0, 31, 46, 27, 159, 0, 5, 3, 172, 42, 89, 180, 0, 31, 4, 96, 181, 0, 31, 4, 172]
theorem hReader_passes_b0 : BL (mcc mReader_passes) 0 bReader_passes_b0 := by decide +kernel
theorem dReader_passes_0 : decode (mcc mReader_passes) 0 = .ok (.aload_n 0, 1) := o42 (byt_of hReader_passes_b0 (j := 0) rfl)
theorem dReader_passes_1 : decode (mcc mReader_passes) 1 = .ok (.getfield 19, 3) := o180 (a := 0) (b := 19) (byt_of hReader_passes_b0 (j := 1) rfl) (byt_of hReader_passes_b0 (j := 2) rfl) (byt_of hReader_passes_b0 (j := 3) rfl) rfl
theorem dReader_passes_4 : decode (mcc mReader_passes) 4 = .ok (.aload_n 0, 1) := o42 (byt_of hReader_passes_b0 (j := 4) rfl)
theorem dReader_passes_5 : decode (mcc mReader_passes) 5 = .ok (.getfield 31, 3) := o180 (a := 0) (b := 31) (byt_of hReader_passes_b0 (j := 5) rfl) (byt_of hReader_passes_b0 (j := 6) rfl) (byt_of hReader_passes_b0 (j := 7) rfl) rfl
theorem dReader_passes_8 : decode (mcc mReader_passes) 8 = .ok (.iaload, 1) := o46 (byt_of hReader_passes_b0 (j := 8) rfl)
theorem dReader_passes_9 : decode (mcc mReader_passes) 9 = .ok (.iload_n 1, 1) := o27 (byt_of hReader_passes_b0 (j := 9) rfl)
theorem dReader_passes_10 : decode (mcc mReader_passes) 10 = .ok (.if_icmp .eq 5, 3) := o159 (a := 0) (b := 5) (byt_of hReader_passes_b0 (j := 10) rfl) (byt_of hReader_passes_b0 (j := 11) rfl) (byt_of hReader_passes_b0 (j := 12) rfl) rfl
theorem dReader_passes_13 : decode (mcc mReader_passes) 13 = .ok (.iconst 0, 1) := o3 (byt_of hReader_passes_b0 (j := 13) rfl)
theorem dReader_passes_14 : decode (mcc mReader_passes) 14 = .ok (.ireturn, 1) := o172 (byt_of hReader_passes_b0 (j := 14) rfl)
theorem dReader_passes_15 : decode (mcc mReader_passes) 15 = .ok (.aload_n 0, 1) := o42 (byt_of hReader_passes_b0 (j := 15) rfl)
theorem dReader_passes_16 : decode (mcc mReader_passes) 16 = .ok (.dup, 1) := o89 (byt_of hReader_passes_b0 (j := 16) rfl)
theorem dReader_passes_17 : decode (mcc mReader_passes) 17 = .ok (.getfield 31, 3) := o180 (a := 0) (b := 31) (byt_of hReader_passes_b0 (j := 17) rfl) (byt_of hReader_passes_b0 (j := 18) rfl) (byt_of hReader_passes_b0 (j := 19) rfl) rfl
theorem dReader_passes_20 : decode (mcc mReader_passes) 20 = .ok (.iconst 1, 1) := o4 (byt_of hReader_passes_b0 (j := 20) rfl)
theorem dReader_passes_21 : decode (mcc mReader_passes) 21 = .ok (.iadd, 1) := o96 (byt_of hReader_passes_b0 (j := 21) rfl)
theorem dReader_passes_22 : decode (mcc mReader_passes) 22 = .ok (.putfield 31, 3) := o181 (a := 0) (b := 31) (byt_of hReader_passes_b0 (j := 22) rfl) (byt_of hReader_passes_b0 (j := 23) rfl) (byt_of hReader_passes_b0 (j := 24) rfl) rfl
theorem dReader_passes_25 : decode (mcc mReader_passes) 25 = .ok (.iconst 1, 1) := o4 (byt_of hReader_passes_b0 (j := 25) rfl)
theorem dReader_passes_26 : decode (mcc mReader_passes) 26 = .ok (.ireturn, 1) := o172 (byt_of hReader_passes_b0 (j := 26) rfl)
def bReader_step_b0 : List Nat := [42, 180, 0, 40, 17, 0, 160, 162, 0, 23, 42, 180, 0, 34, 42, 180, 0, 40, 27, 79, 42, 89, 180, 0, 40, 4, 96, 181, 0, 40, 177]
theorem hReader_step_b0 : BL (mcc mReader_step) 0 bReader_step_b0 := by decide +kernel
theorem dReader_step_0 : decode (mcc mReader_step) 0 = .ok (.aload_n 0, 1) := o42 (byt_of hReader_step_b0 (j := 0) rfl)
theorem dReader_step_1 : decode (mcc mReader_step) 1 = .ok (.getfield 40, 3) := o180 (a := 0) (b := 40) (byt_of hReader_step_b0 (j := 1) rfl) (byt_of hReader_step_b0 (j := 2) rfl) (byt_of hReader_step_b0 (j := 3) rfl) rfl
theorem dReader_step_4 : decode (mcc mReader_step) 4 = .ok (.sipush 160, 3) := o17 (a := 0) (b := 160) (byt_of hReader_step_b0 (j := 4) rfl) (byt_of hReader_step_b0 (j := 5) rfl) (byt_of hReader_step_b0 (j := 6) rfl) rfl
theorem dReader_step_7 : decode (mcc mReader_step) 7 = .ok (.if_icmp .ge 23, 3) := o162 (a := 0) (b := 23) (byt_of hReader_step_b0 (j := 7) rfl) (byt_of hReader_step_b0 (j := 8) rfl) (byt_of hReader_step_b0 (j := 9) rfl) rfl
theorem dReader_step_10 : decode (mcc mReader_step) 10 = .ok (.aload_n 0, 1) := o42 (byt_of hReader_step_b0 (j := 10) rfl)
theorem dReader_step_11 : decode (mcc mReader_step) 11 = .ok (.getfield 34, 3) := o180 (a := 0) (b := 34) (byt_of hReader_step_b0 (j := 11) rfl) (byt_of hReader_step_b0 (j := 12) rfl) (byt_of hReader_step_b0 (j := 13) rfl) rfl
theorem dReader_step_14 : decode (mcc mReader_step) 14 = .ok (.aload_n 0, 1) := o42 (byt_of hReader_step_b0 (j := 14) rfl)
theorem dReader_step_15 : decode (mcc mReader_step) 15 = .ok (.getfield 40, 3) := o180 (a := 0) (b := 40) (byt_of hReader_step_b0 (j := 15) rfl) (byt_of hReader_step_b0 (j := 16) rfl) (byt_of hReader_step_b0 (j := 17) rfl) rfl
theorem dReader_step_18 : decode (mcc mReader_step) 18 = .ok (.iload_n 1, 1) := o27 (byt_of hReader_step_b0 (j := 18) rfl)
theorem dReader_step_19 : decode (mcc mReader_step) 19 = .ok (.iastore, 1) := o79 (byt_of hReader_step_b0 (j := 19) rfl)
theorem dReader_step_20 : decode (mcc mReader_step) 20 = .ok (.aload_n 0, 1) := o42 (byt_of hReader_step_b0 (j := 20) rfl)
theorem dReader_step_21 : decode (mcc mReader_step) 21 = .ok (.dup, 1) := o89 (byt_of hReader_step_b0 (j := 21) rfl)
theorem dReader_step_22 : decode (mcc mReader_step) 22 = .ok (.getfield 40, 3) := o180 (a := 0) (b := 40) (byt_of hReader_step_b0 (j := 22) rfl) (byt_of hReader_step_b0 (j := 23) rfl) (byt_of hReader_step_b0 (j := 24) rfl) rfl
theorem dReader_step_25 : decode (mcc mReader_step) 25 = .ok (.iconst 1, 1) := o4 (byt_of hReader_step_b0 (j := 25) rfl)
theorem dReader_step_26 : decode (mcc mReader_step) 26 = .ok (.iadd, 1) := o96 (byt_of hReader_step_b0 (j := 26) rfl)
theorem dReader_step_27 : decode (mcc mReader_step) 27 = .ok (.putfield 40, 3) := o181 (a := 0) (b := 40) (byt_of hReader_step_b0 (j := 27) rfl) (byt_of hReader_step_b0 (j := 28) rfl) (byt_of hReader_step_b0 (j := 29) rfl) rfl
theorem dReader_step_30 : decode (mcc mReader_step) 30 = .ok (.return_, 1) := o177 (byt_of hReader_step_b0 (j := 30) rfl)
def bReader_joins_b0 : List Nat := [26, 170, 0, 0, 0, 0, 0, 89, 0, 0, 0, 0, 0, 0, 0, 4, 0, 0, 0, 35, 0, 0, 0, 47, 0, 0, 0, 89, 0, 0, 0, 59, 0, 0, 0, 77, 27, 16]
theorem hReader_joins_b0 : BL (mcc mReader_joins) 0 bReader_joins_b0 := by decide +kernel
theorem dReader_joins_0 : decode (mcc mReader_joins) 0 = .ok (.iload_n 0, 1) := o26 (byt_of hReader_joins_b0 (j := 0) rfl)
theorem dReader_joins_1 : decode (mcc mReader_joins) 1 = .ok (.tableswitch 89 0 4 #[35, 47, 89, 59, 77], 35) := by decide +kernel
def bReader_joins_b1 : List Nat := [0, 0, 0, 77, 27, 16, 7, 160, 0, 7, 4, 167, 0, 4, 3, 172, 27, 16, 8, 160, 0, 7, 4, 167, 0, 4, 3, 172, 27, 16, 43, 159, 0, 9, 27, 16, 45, 160]
theorem hReader_joins_b1 : BL (mcc mReader_joins) 32 bReader_joins_b1 := by decide +kernel
theorem dReader_joins_36 : decode (mcc mReader_joins) 36 = .ok (.iload_n 1, 1) := o27 (byt_of hReader_joins_b1 (j := 4) rfl)
theorem dReader_joins_37 : decode (mcc mReader_joins) 37 = .ok (.bipush 7, 2) := o16 (a := 7) (byt_of hReader_joins_b1 (j := 5) rfl) (byt_of hReader_joins_b1 (j := 6) rfl) rfl
theorem dReader_joins_39 : decode (mcc mReader_joins) 39 = .ok (.if_icmp .ne 7, 3) := o160 (a := 0) (b := 7) (byt_of hReader_joins_b1 (j := 7) rfl) (byt_of hReader_joins_b1 (j := 8) rfl) (byt_of hReader_joins_b1 (j := 9) rfl) rfl
theorem dReader_joins_42 : decode (mcc mReader_joins) 42 = .ok (.iconst 1, 1) := o4 (byt_of hReader_joins_b1 (j := 10) rfl)
theorem dReader_joins_43 : decode (mcc mReader_joins) 43 = .ok (.goto 4, 3) := o167 (a := 0) (b := 4) (byt_of hReader_joins_b1 (j := 11) rfl) (byt_of hReader_joins_b1 (j := 12) rfl) (byt_of hReader_joins_b1 (j := 13) rfl) rfl
theorem dReader_joins_46 : decode (mcc mReader_joins) 46 = .ok (.iconst 0, 1) := o3 (byt_of hReader_joins_b1 (j := 14) rfl)
theorem dReader_joins_47 : decode (mcc mReader_joins) 47 = .ok (.ireturn, 1) := o172 (byt_of hReader_joins_b1 (j := 15) rfl)
theorem dReader_joins_48 : decode (mcc mReader_joins) 48 = .ok (.iload_n 1, 1) := o27 (byt_of hReader_joins_b1 (j := 16) rfl)
theorem dReader_joins_49 : decode (mcc mReader_joins) 49 = .ok (.bipush 8, 2) := o16 (a := 8) (byt_of hReader_joins_b1 (j := 17) rfl) (byt_of hReader_joins_b1 (j := 18) rfl) rfl
theorem dReader_joins_51 : decode (mcc mReader_joins) 51 = .ok (.if_icmp .ne 7, 3) := o160 (a := 0) (b := 7) (byt_of hReader_joins_b1 (j := 19) rfl) (byt_of hReader_joins_b1 (j := 20) rfl) (byt_of hReader_joins_b1 (j := 21) rfl) rfl
theorem dReader_joins_54 : decode (mcc mReader_joins) 54 = .ok (.iconst 1, 1) := o4 (byt_of hReader_joins_b1 (j := 22) rfl)
theorem dReader_joins_55 : decode (mcc mReader_joins) 55 = .ok (.goto 4, 3) := o167 (a := 0) (b := 4) (byt_of hReader_joins_b1 (j := 23) rfl) (byt_of hReader_joins_b1 (j := 24) rfl) (byt_of hReader_joins_b1 (j := 25) rfl) rfl
theorem dReader_joins_58 : decode (mcc mReader_joins) 58 = .ok (.iconst 0, 1) := o3 (byt_of hReader_joins_b1 (j := 26) rfl)
theorem dReader_joins_59 : decode (mcc mReader_joins) 59 = .ok (.ireturn, 1) := o172 (byt_of hReader_joins_b1 (j := 27) rfl)
theorem dReader_joins_60 : decode (mcc mReader_joins) 60 = .ok (.iload_n 1, 1) := o27 (byt_of hReader_joins_b1 (j := 28) rfl)
theorem dReader_joins_61 : decode (mcc mReader_joins) 61 = .ok (.bipush 43, 2) := o16 (a := 43) (byt_of hReader_joins_b1 (j := 29) rfl) (byt_of hReader_joins_b1 (j := 30) rfl) rfl
theorem dReader_joins_63 : decode (mcc mReader_joins) 63 = .ok (.if_icmp .eq 9, 3) := o159 (a := 0) (b := 9) (byt_of hReader_joins_b1 (j := 31) rfl) (byt_of hReader_joins_b1 (j := 32) rfl) (byt_of hReader_joins_b1 (j := 33) rfl) rfl
def bReader_joins_b2 : List Nat := [0, 9, 27, 16, 45, 160, 0, 7, 4, 167, 0, 4, 3, 172, 27, 16, 42, 160, 0, 7, 4, 167, 0, 4, 3, 172, 3, 172]
theorem hReader_joins_b2 : BL (mcc mReader_joins) 64 bReader_joins_b2 := by decide +kernel
theorem dReader_joins_66 : decode (mcc mReader_joins) 66 = .ok (.iload_n 1, 1) := o27 (byt_of hReader_joins_b2 (j := 2) rfl)
theorem dReader_joins_67 : decode (mcc mReader_joins) 67 = .ok (.bipush 45, 2) := o16 (a := 45) (byt_of hReader_joins_b2 (j := 3) rfl) (byt_of hReader_joins_b2 (j := 4) rfl) rfl
theorem dReader_joins_69 : decode (mcc mReader_joins) 69 = .ok (.if_icmp .ne 7, 3) := o160 (a := 0) (b := 7) (byt_of hReader_joins_b2 (j := 5) rfl) (byt_of hReader_joins_b2 (j := 6) rfl) (byt_of hReader_joins_b2 (j := 7) rfl) rfl
theorem dReader_joins_72 : decode (mcc mReader_joins) 72 = .ok (.iconst 1, 1) := o4 (byt_of hReader_joins_b2 (j := 8) rfl)
theorem dReader_joins_73 : decode (mcc mReader_joins) 73 = .ok (.goto 4, 3) := o167 (a := 0) (b := 4) (byt_of hReader_joins_b2 (j := 9) rfl) (byt_of hReader_joins_b2 (j := 10) rfl) (byt_of hReader_joins_b2 (j := 11) rfl) rfl
theorem dReader_joins_76 : decode (mcc mReader_joins) 76 = .ok (.iconst 0, 1) := o3 (byt_of hReader_joins_b2 (j := 12) rfl)
theorem dReader_joins_77 : decode (mcc mReader_joins) 77 = .ok (.ireturn, 1) := o172 (byt_of hReader_joins_b2 (j := 13) rfl)
theorem dReader_joins_78 : decode (mcc mReader_joins) 78 = .ok (.iload_n 1, 1) := o27 (byt_of hReader_joins_b2 (j := 14) rfl)
theorem dReader_joins_79 : decode (mcc mReader_joins) 79 = .ok (.bipush 42, 2) := o16 (a := 42) (byt_of hReader_joins_b2 (j := 15) rfl) (byt_of hReader_joins_b2 (j := 16) rfl) rfl
theorem dReader_joins_81 : decode (mcc mReader_joins) 81 = .ok (.if_icmp .ne 7, 3) := o160 (a := 0) (b := 7) (byt_of hReader_joins_b2 (j := 17) rfl) (byt_of hReader_joins_b2 (j := 18) rfl) (byt_of hReader_joins_b2 (j := 19) rfl) rfl
theorem dReader_joins_84 : decode (mcc mReader_joins) 84 = .ok (.iconst 1, 1) := o4 (byt_of hReader_joins_b2 (j := 20) rfl)
theorem dReader_joins_85 : decode (mcc mReader_joins) 85 = .ok (.goto 4, 3) := o167 (a := 0) (b := 4) (byt_of hReader_joins_b2 (j := 21) rfl) (byt_of hReader_joins_b2 (j := 22) rfl) (byt_of hReader_joins_b2 (j := 23) rfl) rfl
theorem dReader_joins_88 : decode (mcc mReader_joins) 88 = .ok (.iconst 0, 1) := o3 (byt_of hReader_joins_b2 (j := 24) rfl)
theorem dReader_joins_89 : decode (mcc mReader_joins) 89 = .ok (.ireturn, 1) := o172 (byt_of hReader_joins_b2 (j := 25) rfl)
theorem dReader_joins_90 : decode (mcc mReader_joins) 90 = .ok (.iconst 0, 1) := o3 (byt_of hReader_joins_b2 (j := 26) rfl)
theorem dReader_joins_91 : decode (mcc mReader_joins) 91 = .ok (.ireturn, 1) := o172 (byt_of hReader_joins_b2 (j := 27) rfl)
def bReader_level_b0 : List Nat := [27, 5, 160, 0, 9, 42, 28, 182, 0, 130, 172, 27, 8, 161, 0, 9, 42, 28, 182, 0, 133, 172, 42, 27, 4, 96, 28, 182, 0, 50, 154, 0, 5, 3, 172, 3, 62, 29]
theorem hReader_level_b0 : BL (mcc mReader_level) 0 bReader_level_b0 := by decide +kernel
theorem dReader_level_0 : decode (mcc mReader_level) 0 = .ok (.iload_n 1, 1) := o27 (byt_of hReader_level_b0 (j := 0) rfl)
theorem dReader_level_1 : decode (mcc mReader_level) 1 = .ok (.iconst 2, 1) := o5 (byt_of hReader_level_b0 (j := 1) rfl)
theorem dReader_level_2 : decode (mcc mReader_level) 2 = .ok (.if_icmp .ne 9, 3) := o160 (a := 0) (b := 9) (byt_of hReader_level_b0 (j := 2) rfl) (byt_of hReader_level_b0 (j := 3) rfl) (byt_of hReader_level_b0 (j := 4) rfl) rfl
theorem dReader_level_5 : decode (mcc mReader_level) 5 = .ok (.aload_n 0, 1) := o42 (byt_of hReader_level_b0 (j := 5) rfl)
theorem dReader_level_6 : decode (mcc mReader_level) 6 = .ok (.iload_n 2, 1) := o28 (byt_of hReader_level_b0 (j := 6) rfl)
theorem dReader_level_7 : decode (mcc mReader_level) 7 = .ok (.invokevirtual 130, 3) := o182 (a := 0) (b := 130) (byt_of hReader_level_b0 (j := 7) rfl) (byt_of hReader_level_b0 (j := 8) rfl) (byt_of hReader_level_b0 (j := 9) rfl) rfl
theorem dReader_level_10 : decode (mcc mReader_level) 10 = .ok (.ireturn, 1) := o172 (byt_of hReader_level_b0 (j := 10) rfl)
theorem dReader_level_11 : decode (mcc mReader_level) 11 = .ok (.iload_n 1, 1) := o27 (byt_of hReader_level_b0 (j := 11) rfl)
theorem dReader_level_12 : decode (mcc mReader_level) 12 = .ok (.iconst 5, 1) := o8 (byt_of hReader_level_b0 (j := 12) rfl)
theorem dReader_level_13 : decode (mcc mReader_level) 13 = .ok (.if_icmp .lt 9, 3) := o161 (a := 0) (b := 9) (byt_of hReader_level_b0 (j := 13) rfl) (byt_of hReader_level_b0 (j := 14) rfl) (byt_of hReader_level_b0 (j := 15) rfl) rfl
theorem dReader_level_16 : decode (mcc mReader_level) 16 = .ok (.aload_n 0, 1) := o42 (byt_of hReader_level_b0 (j := 16) rfl)
theorem dReader_level_17 : decode (mcc mReader_level) 17 = .ok (.iload_n 2, 1) := o28 (byt_of hReader_level_b0 (j := 17) rfl)
theorem dReader_level_18 : decode (mcc mReader_level) 18 = .ok (.invokevirtual 133, 3) := o182 (a := 0) (b := 133) (byt_of hReader_level_b0 (j := 18) rfl) (byt_of hReader_level_b0 (j := 19) rfl) (byt_of hReader_level_b0 (j := 20) rfl) rfl
theorem dReader_level_21 : decode (mcc mReader_level) 21 = .ok (.ireturn, 1) := o172 (byt_of hReader_level_b0 (j := 21) rfl)
theorem dReader_level_22 : decode (mcc mReader_level) 22 = .ok (.aload_n 0, 1) := o42 (byt_of hReader_level_b0 (j := 22) rfl)
theorem dReader_level_23 : decode (mcc mReader_level) 23 = .ok (.iload_n 1, 1) := o27 (byt_of hReader_level_b0 (j := 23) rfl)
theorem dReader_level_24 : decode (mcc mReader_level) 24 = .ok (.iconst 1, 1) := o4 (byt_of hReader_level_b0 (j := 24) rfl)
theorem dReader_level_25 : decode (mcc mReader_level) 25 = .ok (.iadd, 1) := o96 (byt_of hReader_level_b0 (j := 25) rfl)
theorem dReader_level_26 : decode (mcc mReader_level) 26 = .ok (.iload_n 2, 1) := o28 (byt_of hReader_level_b0 (j := 26) rfl)
theorem dReader_level_27 : decode (mcc mReader_level) 27 = .ok (.invokevirtual 50, 3) := o182 (a := 0) (b := 50) (byt_of hReader_level_b0 (j := 27) rfl) (byt_of hReader_level_b0 (j := 28) rfl) (byt_of hReader_level_b0 (j := 29) rfl) rfl
theorem dReader_level_30 : decode (mcc mReader_level) 30 = .ok (.ifCond .ne 5, 3) := o154 (a := 0) (b := 5) (byt_of hReader_level_b0 (j := 30) rfl) (byt_of hReader_level_b0 (j := 31) rfl) (byt_of hReader_level_b0 (j := 32) rfl) rfl
def bReader_level_b1 : List Nat := [5, 3, 172, 3, 62, 29, 17, 0, 160, 162, 0, 69, 27, 42, 180, 0, 19, 42, 180, 0, 31, 46, 184, 0, 136, 153, 0, 53, 42, 180, 0, 19, 42, 180, 0, 31, 46, 54]
theorem hReader_level_b1 : BL (mcc mReader_level) 32 bReader_level_b1 := by decide +kernel
theorem dReader_level_33 : decode (mcc mReader_level) 33 = .ok (.iconst 0, 1) := o3 (byt_of hReader_level_b1 (j := 1) rfl)
theorem dReader_level_34 : decode (mcc mReader_level) 34 = .ok (.ireturn, 1) := o172 (byt_of hReader_level_b1 (j := 2) rfl)
theorem dReader_level_35 : decode (mcc mReader_level) 35 = .ok (.iconst 0, 1) := o3 (byt_of hReader_level_b1 (j := 3) rfl)
theorem dReader_level_36 : decode (mcc mReader_level) 36 = .ok (.istore_n 3, 1) := o62 (byt_of hReader_level_b1 (j := 4) rfl)
theorem dReader_level_37 : decode (mcc mReader_level) 37 = .ok (.iload_n 3, 1) := o29 (byt_of hReader_level_b1 (j := 5) rfl)
theorem dReader_level_38 : decode (mcc mReader_level) 38 = .ok (.sipush 160, 3) := o17 (a := 0) (b := 160) (byt_of hReader_level_b1 (j := 6) rfl) (byt_of hReader_level_b1 (j := 7) rfl) (byt_of hReader_level_b1 (j := 8) rfl) rfl
theorem dReader_level_41 : decode (mcc mReader_level) 41 = .ok (.if_icmp .ge 69, 3) := o162 (a := 0) (b := 69) (byt_of hReader_level_b1 (j := 9) rfl) (byt_of hReader_level_b1 (j := 10) rfl) (byt_of hReader_level_b1 (j := 11) rfl) rfl
theorem dReader_level_44 : decode (mcc mReader_level) 44 = .ok (.iload_n 1, 1) := o27 (byt_of hReader_level_b1 (j := 12) rfl)
theorem dReader_level_45 : decode (mcc mReader_level) 45 = .ok (.aload_n 0, 1) := o42 (byt_of hReader_level_b1 (j := 13) rfl)
theorem dReader_level_46 : decode (mcc mReader_level) 46 = .ok (.getfield 19, 3) := o180 (a := 0) (b := 19) (byt_of hReader_level_b1 (j := 14) rfl) (byt_of hReader_level_b1 (j := 15) rfl) (byt_of hReader_level_b1 (j := 16) rfl) rfl
theorem dReader_level_49 : decode (mcc mReader_level) 49 = .ok (.aload_n 0, 1) := o42 (byt_of hReader_level_b1 (j := 17) rfl)
theorem dReader_level_50 : decode (mcc mReader_level) 50 = .ok (.getfield 31, 3) := o180 (a := 0) (b := 31) (byt_of hReader_level_b1 (j := 18) rfl) (byt_of hReader_level_b1 (j := 19) rfl) (byt_of hReader_level_b1 (j := 20) rfl) rfl
theorem dReader_level_53 : decode (mcc mReader_level) 53 = .ok (.iaload, 1) := o46 (byt_of hReader_level_b1 (j := 21) rfl)
theorem dReader_level_54 : decode (mcc mReader_level) 54 = .ok (.invokestatic 136, 3) := o184 (a := 0) (b := 136) (byt_of hReader_level_b1 (j := 22) rfl) (byt_of hReader_level_b1 (j := 23) rfl) (byt_of hReader_level_b1 (j := 24) rfl) rfl
theorem dReader_level_57 : decode (mcc mReader_level) 57 = .ok (.ifCond .eq 53, 3) := o153 (a := 0) (b := 53) (byt_of hReader_level_b1 (j := 25) rfl) (byt_of hReader_level_b1 (j := 26) rfl) (byt_of hReader_level_b1 (j := 27) rfl) rfl
theorem dReader_level_60 : decode (mcc mReader_level) 60 = .ok (.aload_n 0, 1) := o42 (byt_of hReader_level_b1 (j := 28) rfl)
theorem dReader_level_61 : decode (mcc mReader_level) 61 = .ok (.getfield 19, 3) := o180 (a := 0) (b := 19) (byt_of hReader_level_b1 (j := 29) rfl) (byt_of hReader_level_b1 (j := 30) rfl) (byt_of hReader_level_b1 (j := 31) rfl) rfl
def bReader_level_b2 : List Nat := [42, 180, 0, 31, 46, 54, 4, 42, 89, 180, 0, 31, 4, 96, 181, 0, 31, 42, 27, 4, 96, 28, 182, 0, 50, 154, 0, 5, 3, 172, 42, 17, 78, 32, 21, 4, 96, 182]
theorem hReader_level_b2 : BL (mcc mReader_level) 64 bReader_level_b2 := by decide +kernel
theorem dReader_level_64 : decode (mcc mReader_level) 64 = .ok (.aload_n 0, 1) := o42 (byt_of hReader_level_b2 (j := 0) rfl)
theorem dReader_level_65 : decode (mcc mReader_level) 65 = .ok (.getfield 31, 3) := o180 (a := 0) (b := 31) (byt_of hReader_level_b2 (j := 1) rfl) (byt_of hReader_level_b2 (j := 2) rfl) (byt_of hReader_level_b2 (j := 3) rfl) rfl
theorem dReader_level_68 : decode (mcc mReader_level) 68 = .ok (.iaload, 1) := o46 (byt_of hReader_level_b2 (j := 4) rfl)
theorem dReader_level_69 : decode (mcc mReader_level) 69 = .ok (.istore 4, 2) := o54 (a := 4) (byt_of hReader_level_b2 (j := 5) rfl) (byt_of hReader_level_b2 (j := 6) rfl)
theorem dReader_level_71 : decode (mcc mReader_level) 71 = .ok (.aload_n 0, 1) := o42 (byt_of hReader_level_b2 (j := 7) rfl)
theorem dReader_level_72 : decode (mcc mReader_level) 72 = .ok (.dup, 1) := o89 (byt_of hReader_level_b2 (j := 8) rfl)
theorem dReader_level_73 : decode (mcc mReader_level) 73 = .ok (.getfield 31, 3) := o180 (a := 0) (b := 31) (byt_of hReader_level_b2 (j := 9) rfl) (byt_of hReader_level_b2 (j := 10) rfl) (byt_of hReader_level_b2 (j := 11) rfl) rfl
theorem dReader_level_76 : decode (mcc mReader_level) 76 = .ok (.iconst 1, 1) := o4 (byt_of hReader_level_b2 (j := 12) rfl)
theorem dReader_level_77 : decode (mcc mReader_level) 77 = .ok (.iadd, 1) := o96 (byt_of hReader_level_b2 (j := 13) rfl)
theorem dReader_level_78 : decode (mcc mReader_level) 78 = .ok (.putfield 31, 3) := o181 (a := 0) (b := 31) (byt_of hReader_level_b2 (j := 14) rfl) (byt_of hReader_level_b2 (j := 15) rfl) (byt_of hReader_level_b2 (j := 16) rfl) rfl
theorem dReader_level_81 : decode (mcc mReader_level) 81 = .ok (.aload_n 0, 1) := o42 (byt_of hReader_level_b2 (j := 17) rfl)
theorem dReader_level_82 : decode (mcc mReader_level) 82 = .ok (.iload_n 1, 1) := o27 (byt_of hReader_level_b2 (j := 18) rfl)
theorem dReader_level_83 : decode (mcc mReader_level) 83 = .ok (.iconst 1, 1) := o4 (byt_of hReader_level_b2 (j := 19) rfl)
theorem dReader_level_84 : decode (mcc mReader_level) 84 = .ok (.iadd, 1) := o96 (byt_of hReader_level_b2 (j := 20) rfl)
theorem dReader_level_85 : decode (mcc mReader_level) 85 = .ok (.iload_n 2, 1) := o28 (byt_of hReader_level_b2 (j := 21) rfl)
theorem dReader_level_86 : decode (mcc mReader_level) 86 = .ok (.invokevirtual 50, 3) := o182 (a := 0) (b := 50) (byt_of hReader_level_b2 (j := 22) rfl) (byt_of hReader_level_b2 (j := 23) rfl) (byt_of hReader_level_b2 (j := 24) rfl) rfl
theorem dReader_level_89 : decode (mcc mReader_level) 89 = .ok (.ifCond .ne 5, 3) := o154 (a := 0) (b := 5) (byt_of hReader_level_b2 (j := 25) rfl) (byt_of hReader_level_b2 (j := 26) rfl) (byt_of hReader_level_b2 (j := 27) rfl) rfl
theorem dReader_level_92 : decode (mcc mReader_level) 92 = .ok (.iconst 0, 1) := o3 (byt_of hReader_level_b2 (j := 28) rfl)
theorem dReader_level_93 : decode (mcc mReader_level) 93 = .ok (.ireturn, 1) := o172 (byt_of hReader_level_b2 (j := 29) rfl)
theorem dReader_level_94 : decode (mcc mReader_level) 94 = .ok (.aload_n 0, 1) := o42 (byt_of hReader_level_b2 (j := 30) rfl)
theorem dReader_level_95 : decode (mcc mReader_level) 95 = .ok (.sipush 20000, 3) := o17 (a := 78) (b := 32) (byt_of hReader_level_b2 (j := 31) rfl) (byt_of hReader_level_b2 (j := 32) rfl) (byt_of hReader_level_b2 (j := 33) rfl) rfl
def bReader_level_b3 : List Nat := [78, 32, 21, 4, 96, 182, 0, 139, 132, 3, 1, 167, 255, 186, 4, 172]
theorem hReader_level_b3 : BL (mcc mReader_level) 96 bReader_level_b3 := by decide +kernel
theorem dReader_level_98 : decode (mcc mReader_level) 98 = .ok (.iload 4, 2) := o21 (a := 4) (byt_of hReader_level_b3 (j := 2) rfl) (byt_of hReader_level_b3 (j := 3) rfl)
theorem dReader_level_100 : decode (mcc mReader_level) 100 = .ok (.iadd, 1) := o96 (byt_of hReader_level_b3 (j := 4) rfl)
theorem dReader_level_101 : decode (mcc mReader_level) 101 = .ok (.invokevirtual 139, 3) := o182 (a := 0) (b := 139) (byt_of hReader_level_b3 (j := 5) rfl) (byt_of hReader_level_b3 (j := 6) rfl) (byt_of hReader_level_b3 (j := 7) rfl) rfl
theorem dReader_level_104 : decode (mcc mReader_level) 104 = .ok (.iinc 3 1, 3) := o132 (a := 3) (b := 1) (byt_of hReader_level_b3 (j := 8) rfl) (byt_of hReader_level_b3 (j := 9) rfl) (byt_of hReader_level_b3 (j := 10) rfl) rfl
theorem dReader_level_107 : decode (mcc mReader_level) 107 = .ok (.goto (-70), 3) := o167 (a := 255) (b := 186) (byt_of hReader_level_b3 (j := 11) rfl) (byt_of hReader_level_b3 (j := 12) rfl) (byt_of hReader_level_b3 (j := 13) rfl) rfl
theorem dReader_level_110 : decode (mcc mReader_level) 110 = .ok (.iconst 1, 1) := o4 (byt_of hReader_level_b3 (j := 14) rfl)
theorem dReader_level_111 : decode (mcc mReader_level) 111 = .ok (.ireturn, 1) := o172 (byt_of hReader_level_b3 (j := 15) rfl)
def bReader_negation_b0 : List Nat := [42, 180, 0, 19, 42, 180, 0, 31, 46, 16, 9, 160, 0, 38, 42, 16, 9, 27, 182, 0, 143, 153, 0, 26, 42, 27, 4, 96, 182, 0, 130, 153, 0, 16, 42, 16, 9, 182]
theorem hReader_negation_b0 : BL (mcc mReader_negation) 0 bReader_negation_b0 := by decide +kernel
theorem dReader_negation_0 : decode (mcc mReader_negation) 0 = .ok (.aload_n 0, 1) := o42 (byt_of hReader_negation_b0 (j := 0) rfl)
theorem dReader_negation_1 : decode (mcc mReader_negation) 1 = .ok (.getfield 19, 3) := o180 (a := 0) (b := 19) (byt_of hReader_negation_b0 (j := 1) rfl) (byt_of hReader_negation_b0 (j := 2) rfl) (byt_of hReader_negation_b0 (j := 3) rfl) rfl
theorem dReader_negation_4 : decode (mcc mReader_negation) 4 = .ok (.aload_n 0, 1) := o42 (byt_of hReader_negation_b0 (j := 4) rfl)
theorem dReader_negation_5 : decode (mcc mReader_negation) 5 = .ok (.getfield 31, 3) := o180 (a := 0) (b := 31) (byt_of hReader_negation_b0 (j := 5) rfl) (byt_of hReader_negation_b0 (j := 6) rfl) (byt_of hReader_negation_b0 (j := 7) rfl) rfl
theorem dReader_negation_8 : decode (mcc mReader_negation) 8 = .ok (.iaload, 1) := o46 (byt_of hReader_negation_b0 (j := 8) rfl)
theorem dReader_negation_9 : decode (mcc mReader_negation) 9 = .ok (.bipush 9, 2) := o16 (a := 9) (byt_of hReader_negation_b0 (j := 9) rfl) (byt_of hReader_negation_b0 (j := 10) rfl) rfl
theorem dReader_negation_11 : decode (mcc mReader_negation) 11 = .ok (.if_icmp .ne 38, 3) := o160 (a := 0) (b := 38) (byt_of hReader_negation_b0 (j := 11) rfl) (byt_of hReader_negation_b0 (j := 12) rfl) (byt_of hReader_negation_b0 (j := 13) rfl) rfl
theorem dReader_negation_14 : decode (mcc mReader_negation) 14 = .ok (.aload_n 0, 1) := o42 (byt_of hReader_negation_b0 (j := 14) rfl)
theorem dReader_negation_15 : decode (mcc mReader_negation) 15 = .ok (.bipush 9, 2) := o16 (a := 9) (byt_of hReader_negation_b0 (j := 15) rfl) (byt_of hReader_negation_b0 (j := 16) rfl) rfl
theorem dReader_negation_17 : decode (mcc mReader_negation) 17 = .ok (.iload_n 1, 1) := o27 (byt_of hReader_negation_b0 (j := 17) rfl)
theorem dReader_negation_18 : decode (mcc mReader_negation) 18 = .ok (.invokevirtual 143, 3) := o182 (a := 0) (b := 143) (byt_of hReader_negation_b0 (j := 18) rfl) (byt_of hReader_negation_b0 (j := 19) rfl) (byt_of hReader_negation_b0 (j := 20) rfl) rfl
theorem dReader_negation_21 : decode (mcc mReader_negation) 21 = .ok (.ifCond .eq 26, 3) := o153 (a := 0) (b := 26) (byt_of hReader_negation_b0 (j := 21) rfl) (byt_of hReader_negation_b0 (j := 22) rfl) (byt_of hReader_negation_b0 (j := 23) rfl) rfl
theorem dReader_negation_24 : decode (mcc mReader_negation) 24 = .ok (.aload_n 0, 1) := o42 (byt_of hReader_negation_b0 (j := 24) rfl)
theorem dReader_negation_25 : decode (mcc mReader_negation) 25 = .ok (.iload_n 1, 1) := o27 (byt_of hReader_negation_b0 (j := 25) rfl)
theorem dReader_negation_26 : decode (mcc mReader_negation) 26 = .ok (.iconst 1, 1) := o4 (byt_of hReader_negation_b0 (j := 26) rfl)
theorem dReader_negation_27 : decode (mcc mReader_negation) 27 = .ok (.iadd, 1) := o96 (byt_of hReader_negation_b0 (j := 27) rfl)
theorem dReader_negation_28 : decode (mcc mReader_negation) 28 = .ok (.invokevirtual 130, 3) := o182 (a := 0) (b := 130) (byt_of hReader_negation_b0 (j := 28) rfl) (byt_of hReader_negation_b0 (j := 29) rfl) (byt_of hReader_negation_b0 (j := 30) rfl) rfl
theorem dReader_negation_31 : decode (mcc mReader_negation) 31 = .ok (.ifCond .eq 16, 3) := o153 (a := 0) (b := 16) (byt_of hReader_negation_b0 (j := 31) rfl) (byt_of hReader_negation_b0 (j := 32) rfl) (byt_of hReader_negation_b0 (j := 33) rfl) rfl
def bReader_negation_b1 : List Nat := [0, 16, 42, 16, 9, 182, 0, 146, 153, 0, 7, 4, 167, 0, 4, 3, 172, 42, 6, 27, 182, 0, 50, 154, 0, 5, 3, 172, 42, 180, 0, 19, 42, 180, 0, 31, 46, 61]
theorem hReader_negation_b1 : BL (mcc mReader_negation) 32 bReader_negation_b1 := by decide +kernel
theorem dReader_negation_34 : decode (mcc mReader_negation) 34 = .ok (.aload_n 0, 1) := o42 (byt_of hReader_negation_b1 (j := 2) rfl)
theorem dReader_negation_35 : decode (mcc mReader_negation) 35 = .ok (.bipush 9, 2) := o16 (a := 9) (byt_of hReader_negation_b1 (j := 3) rfl) (byt_of hReader_negation_b1 (j := 4) rfl) rfl
theorem dReader_negation_37 : decode (mcc mReader_negation) 37 = .ok (.invokevirtual 146, 3) := o182 (a := 0) (b := 146) (byt_of hReader_negation_b1 (j := 5) rfl) (byt_of hReader_negation_b1 (j := 6) rfl) (byt_of hReader_negation_b1 (j := 7) rfl) rfl
theorem dReader_negation_40 : decode (mcc mReader_negation) 40 = .ok (.ifCond .eq 7, 3) := o153 (a := 0) (b := 7) (byt_of hReader_negation_b1 (j := 8) rfl) (byt_of hReader_negation_b1 (j := 9) rfl) (byt_of hReader_negation_b1 (j := 10) rfl) rfl
theorem dReader_negation_43 : decode (mcc mReader_negation) 43 = .ok (.iconst 1, 1) := o4 (byt_of hReader_negation_b1 (j := 11) rfl)
theorem dReader_negation_44 : decode (mcc mReader_negation) 44 = .ok (.goto 4, 3) := o167 (a := 0) (b := 4) (byt_of hReader_negation_b1 (j := 12) rfl) (byt_of hReader_negation_b1 (j := 13) rfl) (byt_of hReader_negation_b1 (j := 14) rfl) rfl
theorem dReader_negation_47 : decode (mcc mReader_negation) 47 = .ok (.iconst 0, 1) := o3 (byt_of hReader_negation_b1 (j := 15) rfl)
theorem dReader_negation_48 : decode (mcc mReader_negation) 48 = .ok (.ireturn, 1) := o172 (byt_of hReader_negation_b1 (j := 16) rfl)
theorem dReader_negation_49 : decode (mcc mReader_negation) 49 = .ok (.aload_n 0, 1) := o42 (byt_of hReader_negation_b1 (j := 17) rfl)
theorem dReader_negation_50 : decode (mcc mReader_negation) 50 = .ok (.iconst 3, 1) := o6 (byt_of hReader_negation_b1 (j := 18) rfl)
theorem dReader_negation_51 : decode (mcc mReader_negation) 51 = .ok (.iload_n 1, 1) := o27 (byt_of hReader_negation_b1 (j := 19) rfl)
theorem dReader_negation_52 : decode (mcc mReader_negation) 52 = .ok (.invokevirtual 50, 3) := o182 (a := 0) (b := 50) (byt_of hReader_negation_b1 (j := 20) rfl) (byt_of hReader_negation_b1 (j := 21) rfl) (byt_of hReader_negation_b1 (j := 22) rfl) rfl
theorem dReader_negation_55 : decode (mcc mReader_negation) 55 = .ok (.ifCond .ne 5, 3) := o154 (a := 0) (b := 5) (byt_of hReader_negation_b1 (j := 23) rfl) (byt_of hReader_negation_b1 (j := 24) rfl) (byt_of hReader_negation_b1 (j := 25) rfl) rfl
theorem dReader_negation_58 : decode (mcc mReader_negation) 58 = .ok (.iconst 0, 1) := o3 (byt_of hReader_negation_b1 (j := 26) rfl)
theorem dReader_negation_59 : decode (mcc mReader_negation) 59 = .ok (.ireturn, 1) := o172 (byt_of hReader_negation_b1 (j := 27) rfl)
theorem dReader_negation_60 : decode (mcc mReader_negation) 60 = .ok (.aload_n 0, 1) := o42 (byt_of hReader_negation_b1 (j := 28) rfl)
theorem dReader_negation_61 : decode (mcc mReader_negation) 61 = .ok (.getfield 19, 3) := o180 (a := 0) (b := 19) (byt_of hReader_negation_b1 (j := 29) rfl) (byt_of hReader_negation_b1 (j := 30) rfl) (byt_of hReader_negation_b1 (j := 31) rfl) rfl
def bReader_negation_b2 : List Nat := [42, 180, 0, 31, 46, 61, 28, 16, 60, 159, 0, 11, 28, 16, 61, 159, 0, 5, 4, 172, 42, 89, 180, 0, 31, 4, 96, 181, 0, 31, 42, 6, 27, 182, 0, 50, 153, 0]
theorem hReader_negation_b2 : BL (mcc mReader_negation) 64 bReader_negation_b2 := by decide +kernel
theorem dReader_negation_64 : decode (mcc mReader_negation) 64 = .ok (.aload_n 0, 1) := o42 (byt_of hReader_negation_b2 (j := 0) rfl)
theorem dReader_negation_65 : decode (mcc mReader_negation) 65 = .ok (.getfield 31, 3) := o180 (a := 0) (b := 31) (byt_of hReader_negation_b2 (j := 1) rfl) (byt_of hReader_negation_b2 (j := 2) rfl) (byt_of hReader_negation_b2 (j := 3) rfl) rfl
theorem dReader_negation_68 : decode (mcc mReader_negation) 68 = .ok (.iaload, 1) := o46 (byt_of hReader_negation_b2 (j := 4) rfl)
theorem dReader_negation_69 : decode (mcc mReader_negation) 69 = .ok (.istore_n 2, 1) := o61 (byt_of hReader_negation_b2 (j := 5) rfl)
theorem dReader_negation_70 : decode (mcc mReader_negation) 70 = .ok (.iload_n 2, 1) := o28 (byt_of hReader_negation_b2 (j := 6) rfl)
theorem dReader_negation_71 : decode (mcc mReader_negation) 71 = .ok (.bipush 60, 2) := o16 (a := 60) (byt_of hReader_negation_b2 (j := 7) rfl) (byt_of hReader_negation_b2 (j := 8) rfl) rfl
theorem dReader_negation_73 : decode (mcc mReader_negation) 73 = .ok (.if_icmp .eq 11, 3) := o159 (a := 0) (b := 11) (byt_of hReader_negation_b2 (j := 9) rfl) (byt_of hReader_negation_b2 (j := 10) rfl) (byt_of hReader_negation_b2 (j := 11) rfl) rfl
theorem dReader_negation_76 : decode (mcc mReader_negation) 76 = .ok (.iload_n 2, 1) := o28 (byt_of hReader_negation_b2 (j := 12) rfl)
theorem dReader_negation_77 : decode (mcc mReader_negation) 77 = .ok (.bipush 61, 2) := o16 (a := 61) (byt_of hReader_negation_b2 (j := 13) rfl) (byt_of hReader_negation_b2 (j := 14) rfl) rfl
theorem dReader_negation_79 : decode (mcc mReader_negation) 79 = .ok (.if_icmp .eq 5, 3) := o159 (a := 0) (b := 5) (byt_of hReader_negation_b2 (j := 15) rfl) (byt_of hReader_negation_b2 (j := 16) rfl) (byt_of hReader_negation_b2 (j := 17) rfl) rfl
theorem dReader_negation_82 : decode (mcc mReader_negation) 82 = .ok (.iconst 1, 1) := o4 (byt_of hReader_negation_b2 (j := 18) rfl)
theorem dReader_negation_83 : decode (mcc mReader_negation) 83 = .ok (.ireturn, 1) := o172 (byt_of hReader_negation_b2 (j := 19) rfl)
theorem dReader_negation_84 : decode (mcc mReader_negation) 84 = .ok (.aload_n 0, 1) := o42 (byt_of hReader_negation_b2 (j := 20) rfl)
theorem dReader_negation_85 : decode (mcc mReader_negation) 85 = .ok (.dup, 1) := o89 (byt_of hReader_negation_b2 (j := 21) rfl)
theorem dReader_negation_86 : decode (mcc mReader_negation) 86 = .ok (.getfield 31, 3) := o180 (a := 0) (b := 31) (byt_of hReader_negation_b2 (j := 22) rfl) (byt_of hReader_negation_b2 (j := 23) rfl) (byt_of hReader_negation_b2 (j := 24) rfl) rfl
theorem dReader_negation_89 : decode (mcc mReader_negation) 89 = .ok (.iconst 1, 1) := o4 (byt_of hReader_negation_b2 (j := 25) rfl)
theorem dReader_negation_90 : decode (mcc mReader_negation) 90 = .ok (.iadd, 1) := o96 (byt_of hReader_negation_b2 (j := 26) rfl)
theorem dReader_negation_91 : decode (mcc mReader_negation) 91 = .ok (.putfield 31, 3) := o181 (a := 0) (b := 31) (byt_of hReader_negation_b2 (j := 27) rfl) (byt_of hReader_negation_b2 (j := 28) rfl) (byt_of hReader_negation_b2 (j := 29) rfl) rfl
theorem dReader_negation_94 : decode (mcc mReader_negation) 94 = .ok (.aload_n 0, 1) := o42 (byt_of hReader_negation_b2 (j := 30) rfl)
theorem dReader_negation_95 : decode (mcc mReader_negation) 95 = .ok (.iconst 3, 1) := o6 (byt_of hReader_negation_b2 (j := 31) rfl)
def bReader_negation_b3 : List Nat := [27, 182, 0, 50, 153, 0, 15, 42, 28, 182, 0, 146, 153, 0, 7, 4, 167, 0, 4, 3, 172]
theorem hReader_negation_b3 : BL (mcc mReader_negation) 96 bReader_negation_b3 := by decide +kernel
theorem dReader_negation_96 : decode (mcc mReader_negation) 96 = .ok (.iload_n 1, 1) := o27 (byt_of hReader_negation_b3 (j := 0) rfl)
theorem dReader_negation_97 : decode (mcc mReader_negation) 97 = .ok (.invokevirtual 50, 3) := o182 (a := 0) (b := 50) (byt_of hReader_negation_b3 (j := 1) rfl) (byt_of hReader_negation_b3 (j := 2) rfl) (byt_of hReader_negation_b3 (j := 3) rfl) rfl
theorem dReader_negation_100 : decode (mcc mReader_negation) 100 = .ok (.ifCond .eq 15, 3) := o153 (a := 0) (b := 15) (byt_of hReader_negation_b3 (j := 4) rfl) (byt_of hReader_negation_b3 (j := 5) rfl) (byt_of hReader_negation_b3 (j := 6) rfl) rfl
theorem dReader_negation_103 : decode (mcc mReader_negation) 103 = .ok (.aload_n 0, 1) := o42 (byt_of hReader_negation_b3 (j := 7) rfl)
theorem dReader_negation_104 : decode (mcc mReader_negation) 104 = .ok (.iload_n 2, 1) := o28 (byt_of hReader_negation_b3 (j := 8) rfl)
theorem dReader_negation_105 : decode (mcc mReader_negation) 105 = .ok (.invokevirtual 146, 3) := o182 (a := 0) (b := 146) (byt_of hReader_negation_b3 (j := 9) rfl) (byt_of hReader_negation_b3 (j := 10) rfl) (byt_of hReader_negation_b3 (j := 11) rfl) rfl
theorem dReader_negation_108 : decode (mcc mReader_negation) 108 = .ok (.ifCond .eq 7, 3) := o153 (a := 0) (b := 7) (byt_of hReader_negation_b3 (j := 12) rfl) (byt_of hReader_negation_b3 (j := 13) rfl) (byt_of hReader_negation_b3 (j := 14) rfl) rfl
theorem dReader_negation_111 : decode (mcc mReader_negation) 111 = .ok (.iconst 1, 1) := o4 (byt_of hReader_negation_b3 (j := 15) rfl)
theorem dReader_negation_112 : decode (mcc mReader_negation) 112 = .ok (.goto 4, 3) := o167 (a := 0) (b := 4) (byt_of hReader_negation_b3 (j := 16) rfl) (byt_of hReader_negation_b3 (j := 17) rfl) (byt_of hReader_negation_b3 (j := 18) rfl) rfl
theorem dReader_negation_115 : decode (mcc mReader_negation) 115 = .ok (.iconst 0, 1) := o3 (byt_of hReader_negation_b3 (j := 19) rfl)
theorem dReader_negation_116 : decode (mcc mReader_negation) 116 = .ok (.ireturn, 1) := o172 (byt_of hReader_negation_b3 (j := 20) rfl)
def bReader_one_b0 : List Nat := [42, 180, 0, 19, 42, 180, 0, 31, 46, 61, 28, 5, 159, 0, 8, 28, 6, 160, 0, 49, 42, 28, 5, 160, 0, 15, 42, 180, 0, 25, 42, 180, 0, 31, 46, 167, 0, 16]
theorem hReader_one_b0 : BL (mcc mReader_one) 0 bReader_one_b0 := by decide +kernel
theorem dReader_one_0 : decode (mcc mReader_one) 0 = .ok (.aload_n 0, 1) := o42 (byt_of hReader_one_b0 (j := 0) rfl)
theorem dReader_one_1 : decode (mcc mReader_one) 1 = .ok (.getfield 19, 3) := o180 (a := 0) (b := 19) (byt_of hReader_one_b0 (j := 1) rfl) (byt_of hReader_one_b0 (j := 2) rfl) (byt_of hReader_one_b0 (j := 3) rfl) rfl
theorem dReader_one_4 : decode (mcc mReader_one) 4 = .ok (.aload_n 0, 1) := o42 (byt_of hReader_one_b0 (j := 4) rfl)
theorem dReader_one_5 : decode (mcc mReader_one) 5 = .ok (.getfield 31, 3) := o180 (a := 0) (b := 31) (byt_of hReader_one_b0 (j := 5) rfl) (byt_of hReader_one_b0 (j := 6) rfl) (byt_of hReader_one_b0 (j := 7) rfl) rfl
theorem dReader_one_8 : decode (mcc mReader_one) 8 = .ok (.iaload, 1) := o46 (byt_of hReader_one_b0 (j := 8) rfl)
theorem dReader_one_9 : decode (mcc mReader_one) 9 = .ok (.istore_n 2, 1) := o61 (byt_of hReader_one_b0 (j := 9) rfl)
theorem dReader_one_10 : decode (mcc mReader_one) 10 = .ok (.iload_n 2, 1) := o28 (byt_of hReader_one_b0 (j := 10) rfl)
theorem dReader_one_11 : decode (mcc mReader_one) 11 = .ok (.iconst 2, 1) := o5 (byt_of hReader_one_b0 (j := 11) rfl)
theorem dReader_one_12 : decode (mcc mReader_one) 12 = .ok (.if_icmp .eq 8, 3) := o159 (a := 0) (b := 8) (byt_of hReader_one_b0 (j := 12) rfl) (byt_of hReader_one_b0 (j := 13) rfl) (byt_of hReader_one_b0 (j := 14) rfl) rfl
theorem dReader_one_15 : decode (mcc mReader_one) 15 = .ok (.iload_n 2, 1) := o28 (byt_of hReader_one_b0 (j := 15) rfl)
theorem dReader_one_16 : decode (mcc mReader_one) 16 = .ok (.iconst 3, 1) := o6 (byt_of hReader_one_b0 (j := 16) rfl)
theorem dReader_one_17 : decode (mcc mReader_one) 17 = .ok (.if_icmp .ne 49, 3) := o160 (a := 0) (b := 49) (byt_of hReader_one_b0 (j := 17) rfl) (byt_of hReader_one_b0 (j := 18) rfl) (byt_of hReader_one_b0 (j := 19) rfl) rfl
theorem dReader_one_20 : decode (mcc mReader_one) 20 = .ok (.aload_n 0, 1) := o42 (byt_of hReader_one_b0 (j := 20) rfl)
theorem dReader_one_21 : decode (mcc mReader_one) 21 = .ok (.iload_n 2, 1) := o28 (byt_of hReader_one_b0 (j := 21) rfl)
theorem dReader_one_22 : decode (mcc mReader_one) 22 = .ok (.iconst 2, 1) := o5 (byt_of hReader_one_b0 (j := 22) rfl)
theorem dReader_one_23 : decode (mcc mReader_one) 23 = .ok (.if_icmp .ne 15, 3) := o160 (a := 0) (b := 15) (byt_of hReader_one_b0 (j := 23) rfl) (byt_of hReader_one_b0 (j := 24) rfl) (byt_of hReader_one_b0 (j := 25) rfl) rfl
theorem dReader_one_26 : decode (mcc mReader_one) 26 = .ok (.aload_n 0, 1) := o42 (byt_of hReader_one_b0 (j := 26) rfl)
theorem dReader_one_27 : decode (mcc mReader_one) 27 = .ok (.getfield 25, 3) := o180 (a := 0) (b := 25) (byt_of hReader_one_b0 (j := 27) rfl) (byt_of hReader_one_b0 (j := 28) rfl) (byt_of hReader_one_b0 (j := 29) rfl) rfl
theorem dReader_one_30 : decode (mcc mReader_one) 30 = .ok (.aload_n 0, 1) := o42 (byt_of hReader_one_b0 (j := 30) rfl)
theorem dReader_one_31 : decode (mcc mReader_one) 31 = .ok (.getfield 31, 3) := o180 (a := 0) (b := 31) (byt_of hReader_one_b0 (j := 31) rfl) (byt_of hReader_one_b0 (j := 32) rfl) (byt_of hReader_one_b0 (j := 33) rfl) rfl
def bReader_one_b1 : List Nat := [0, 31, 46, 167, 0, 16, 17, 39, 16, 42, 180, 0, 25, 42, 180, 0, 31, 46, 96, 182, 0, 139, 42, 89, 180, 0, 31, 4, 96, 181, 0, 31, 4, 172, 28, 16, 45, 160]
theorem hReader_one_b1 : BL (mcc mReader_one) 32 bReader_one_b1 := by decide +kernel
theorem dReader_one_34 : decode (mcc mReader_one) 34 = .ok (.iaload, 1) := o46 (byt_of hReader_one_b1 (j := 2) rfl)
theorem dReader_one_35 : decode (mcc mReader_one) 35 = .ok (.goto 16, 3) := o167 (a := 0) (b := 16) (byt_of hReader_one_b1 (j := 3) rfl) (byt_of hReader_one_b1 (j := 4) rfl) (byt_of hReader_one_b1 (j := 5) rfl) rfl
theorem dReader_one_38 : decode (mcc mReader_one) 38 = .ok (.sipush 10000, 3) := o17 (a := 39) (b := 16) (byt_of hReader_one_b1 (j := 6) rfl) (byt_of hReader_one_b1 (j := 7) rfl) (byt_of hReader_one_b1 (j := 8) rfl) rfl
theorem dReader_one_41 : decode (mcc mReader_one) 41 = .ok (.aload_n 0, 1) := o42 (byt_of hReader_one_b1 (j := 9) rfl)
theorem dReader_one_42 : decode (mcc mReader_one) 42 = .ok (.getfield 25, 3) := o180 (a := 0) (b := 25) (byt_of hReader_one_b1 (j := 10) rfl) (byt_of hReader_one_b1 (j := 11) rfl) (byt_of hReader_one_b1 (j := 12) rfl) rfl
theorem dReader_one_45 : decode (mcc mReader_one) 45 = .ok (.aload_n 0, 1) := o42 (byt_of hReader_one_b1 (j := 13) rfl)
theorem dReader_one_46 : decode (mcc mReader_one) 46 = .ok (.getfield 31, 3) := o180 (a := 0) (b := 31) (byt_of hReader_one_b1 (j := 14) rfl) (byt_of hReader_one_b1 (j := 15) rfl) (byt_of hReader_one_b1 (j := 16) rfl) rfl
theorem dReader_one_49 : decode (mcc mReader_one) 49 = .ok (.iaload, 1) := o46 (byt_of hReader_one_b1 (j := 17) rfl)
theorem dReader_one_50 : decode (mcc mReader_one) 50 = .ok (.iadd, 1) := o96 (byt_of hReader_one_b1 (j := 18) rfl)
theorem dReader_one_51 : decode (mcc mReader_one) 51 = .ok (.invokevirtual 139, 3) := o182 (a := 0) (b := 139) (byt_of hReader_one_b1 (j := 19) rfl) (byt_of hReader_one_b1 (j := 20) rfl) (byt_of hReader_one_b1 (j := 21) rfl) rfl
theorem dReader_one_54 : decode (mcc mReader_one) 54 = .ok (.aload_n 0, 1) := o42 (byt_of hReader_one_b1 (j := 22) rfl)
theorem dReader_one_55 : decode (mcc mReader_one) 55 = .ok (.dup, 1) := o89 (byt_of hReader_one_b1 (j := 23) rfl)
theorem dReader_one_56 : decode (mcc mReader_one) 56 = .ok (.getfield 31, 3) := o180 (a := 0) (b := 31) (byt_of hReader_one_b1 (j := 24) rfl) (byt_of hReader_one_b1 (j := 25) rfl) (byt_of hReader_one_b1 (j := 26) rfl) rfl
theorem dReader_one_59 : decode (mcc mReader_one) 59 = .ok (.iconst 1, 1) := o4 (byt_of hReader_one_b1 (j := 27) rfl)
theorem dReader_one_60 : decode (mcc mReader_one) 60 = .ok (.iadd, 1) := o96 (byt_of hReader_one_b1 (j := 28) rfl)
theorem dReader_one_61 : decode (mcc mReader_one) 61 = .ok (.putfield 31, 3) := o181 (a := 0) (b := 31) (byt_of hReader_one_b1 (j := 29) rfl) (byt_of hReader_one_b1 (j := 30) rfl) (byt_of hReader_one_b1 (j := 31) rfl) rfl
def bReader_one_b2 : List Nat := [4, 172, 28, 16, 45, 160, 0, 38, 42, 16, 45, 27, 182, 0, 143, 153, 0, 26, 42, 27, 4, 96, 182, 0, 133, 153, 0, 16, 42, 16, 10, 182, 0, 146, 153, 0, 7, 4]
theorem hReader_one_b2 : BL (mcc mReader_one) 64 bReader_one_b2 := by decide +kernel
theorem dReader_one_64 : decode (mcc mReader_one) 64 = .ok (.iconst 1, 1) := o4 (byt_of hReader_one_b2 (j := 0) rfl)
theorem dReader_one_65 : decode (mcc mReader_one) 65 = .ok (.ireturn, 1) := o172 (byt_of hReader_one_b2 (j := 1) rfl)
theorem dReader_one_66 : decode (mcc mReader_one) 66 = .ok (.iload_n 2, 1) := o28 (byt_of hReader_one_b2 (j := 2) rfl)
theorem dReader_one_67 : decode (mcc mReader_one) 67 = .ok (.bipush 45, 2) := o16 (a := 45) (byt_of hReader_one_b2 (j := 3) rfl) (byt_of hReader_one_b2 (j := 4) rfl) rfl
theorem dReader_one_69 : decode (mcc mReader_one) 69 = .ok (.if_icmp .ne 38, 3) := o160 (a := 0) (b := 38) (byt_of hReader_one_b2 (j := 5) rfl) (byt_of hReader_one_b2 (j := 6) rfl) (byt_of hReader_one_b2 (j := 7) rfl) rfl
theorem dReader_one_72 : decode (mcc mReader_one) 72 = .ok (.aload_n 0, 1) := o42 (byt_of hReader_one_b2 (j := 8) rfl)
theorem dReader_one_73 : decode (mcc mReader_one) 73 = .ok (.bipush 45, 2) := o16 (a := 45) (byt_of hReader_one_b2 (j := 9) rfl) (byt_of hReader_one_b2 (j := 10) rfl) rfl
theorem dReader_one_75 : decode (mcc mReader_one) 75 = .ok (.iload_n 1, 1) := o27 (byt_of hReader_one_b2 (j := 11) rfl)
theorem dReader_one_76 : decode (mcc mReader_one) 76 = .ok (.invokevirtual 143, 3) := o182 (a := 0) (b := 143) (byt_of hReader_one_b2 (j := 12) rfl) (byt_of hReader_one_b2 (j := 13) rfl) (byt_of hReader_one_b2 (j := 14) rfl) rfl
theorem dReader_one_79 : decode (mcc mReader_one) 79 = .ok (.ifCond .eq 26, 3) := o153 (a := 0) (b := 26) (byt_of hReader_one_b2 (j := 15) rfl) (byt_of hReader_one_b2 (j := 16) rfl) (byt_of hReader_one_b2 (j := 17) rfl) rfl
theorem dReader_one_82 : decode (mcc mReader_one) 82 = .ok (.aload_n 0, 1) := o42 (byt_of hReader_one_b2 (j := 18) rfl)
theorem dReader_one_83 : decode (mcc mReader_one) 83 = .ok (.iload_n 1, 1) := o27 (byt_of hReader_one_b2 (j := 19) rfl)
theorem dReader_one_84 : decode (mcc mReader_one) 84 = .ok (.iconst 1, 1) := o4 (byt_of hReader_one_b2 (j := 20) rfl)
theorem dReader_one_85 : decode (mcc mReader_one) 85 = .ok (.iadd, 1) := o96 (byt_of hReader_one_b2 (j := 21) rfl)
theorem dReader_one_86 : decode (mcc mReader_one) 86 = .ok (.invokevirtual 133, 3) := o182 (a := 0) (b := 133) (byt_of hReader_one_b2 (j := 22) rfl) (byt_of hReader_one_b2 (j := 23) rfl) (byt_of hReader_one_b2 (j := 24) rfl) rfl
theorem dReader_one_89 : decode (mcc mReader_one) 89 = .ok (.ifCond .eq 16, 3) := o153 (a := 0) (b := 16) (byt_of hReader_one_b2 (j := 25) rfl) (byt_of hReader_one_b2 (j := 26) rfl) (byt_of hReader_one_b2 (j := 27) rfl) rfl
theorem dReader_one_92 : decode (mcc mReader_one) 92 = .ok (.aload_n 0, 1) := o42 (byt_of hReader_one_b2 (j := 28) rfl)
theorem dReader_one_93 : decode (mcc mReader_one) 93 = .ok (.bipush 10, 2) := o16 (a := 10) (byt_of hReader_one_b2 (j := 29) rfl) (byt_of hReader_one_b2 (j := 30) rfl) rfl
theorem dReader_one_95 : decode (mcc mReader_one) 95 = .ok (.invokevirtual 146, 3) := o182 (a := 0) (b := 146) (byt_of hReader_one_b2 (j := 31) rfl) (byt_of hReader_one_b2 (j := 32) rfl) (byt_of hReader_one_b2 (j := 33) rfl) rfl
def bReader_one_b3 : List Nat := [0, 146, 153, 0, 7, 4, 167, 0, 4, 3, 172, 42, 16, 40, 27, 182, 0, 143, 153, 0, 27, 42, 3, 27, 4, 96, 182, 0, 50, 153, 0, 16, 42, 16, 41, 182, 0, 46]
theorem hReader_one_b3 : BL (mcc mReader_one) 96 bReader_one_b3 := by decide +kernel
theorem dReader_one_98 : decode (mcc mReader_one) 98 = .ok (.ifCond .eq 7, 3) := o153 (a := 0) (b := 7) (byt_of hReader_one_b3 (j := 2) rfl) (byt_of hReader_one_b3 (j := 3) rfl) (byt_of hReader_one_b3 (j := 4) rfl) rfl
theorem dReader_one_101 : decode (mcc mReader_one) 101 = .ok (.iconst 1, 1) := o4 (byt_of hReader_one_b3 (j := 5) rfl)
theorem dReader_one_102 : decode (mcc mReader_one) 102 = .ok (.goto 4, 3) := o167 (a := 0) (b := 4) (byt_of hReader_one_b3 (j := 6) rfl) (byt_of hReader_one_b3 (j := 7) rfl) (byt_of hReader_one_b3 (j := 8) rfl) rfl
theorem dReader_one_105 : decode (mcc mReader_one) 105 = .ok (.iconst 0, 1) := o3 (byt_of hReader_one_b3 (j := 9) rfl)
theorem dReader_one_106 : decode (mcc mReader_one) 106 = .ok (.ireturn, 1) := o172 (byt_of hReader_one_b3 (j := 10) rfl)
theorem dReader_one_107 : decode (mcc mReader_one) 107 = .ok (.aload_n 0, 1) := o42 (byt_of hReader_one_b3 (j := 11) rfl)
theorem dReader_one_108 : decode (mcc mReader_one) 108 = .ok (.bipush 40, 2) := o16 (a := 40) (byt_of hReader_one_b3 (j := 12) rfl) (byt_of hReader_one_b3 (j := 13) rfl) rfl
theorem dReader_one_110 : decode (mcc mReader_one) 110 = .ok (.iload_n 1, 1) := o27 (byt_of hReader_one_b3 (j := 14) rfl)
theorem dReader_one_111 : decode (mcc mReader_one) 111 = .ok (.invokevirtual 143, 3) := o182 (a := 0) (b := 143) (byt_of hReader_one_b3 (j := 15) rfl) (byt_of hReader_one_b3 (j := 16) rfl) (byt_of hReader_one_b3 (j := 17) rfl) rfl
theorem dReader_one_114 : decode (mcc mReader_one) 114 = .ok (.ifCond .eq 27, 3) := o153 (a := 0) (b := 27) (byt_of hReader_one_b3 (j := 18) rfl) (byt_of hReader_one_b3 (j := 19) rfl) (byt_of hReader_one_b3 (j := 20) rfl) rfl
theorem dReader_one_117 : decode (mcc mReader_one) 117 = .ok (.aload_n 0, 1) := o42 (byt_of hReader_one_b3 (j := 21) rfl)
theorem dReader_one_118 : decode (mcc mReader_one) 118 = .ok (.iconst 0, 1) := o3 (byt_of hReader_one_b3 (j := 22) rfl)
theorem dReader_one_119 : decode (mcc mReader_one) 119 = .ok (.iload_n 1, 1) := o27 (byt_of hReader_one_b3 (j := 23) rfl)
theorem dReader_one_120 : decode (mcc mReader_one) 120 = .ok (.iconst 1, 1) := o4 (byt_of hReader_one_b3 (j := 24) rfl)
theorem dReader_one_121 : decode (mcc mReader_one) 121 = .ok (.iadd, 1) := o96 (byt_of hReader_one_b3 (j := 25) rfl)
theorem dReader_one_122 : decode (mcc mReader_one) 122 = .ok (.invokevirtual 50, 3) := o182 (a := 0) (b := 50) (byt_of hReader_one_b3 (j := 26) rfl) (byt_of hReader_one_b3 (j := 27) rfl) (byt_of hReader_one_b3 (j := 28) rfl) rfl
theorem dReader_one_125 : decode (mcc mReader_one) 125 = .ok (.ifCond .eq 16, 3) := o153 (a := 0) (b := 16) (byt_of hReader_one_b3 (j := 29) rfl) (byt_of hReader_one_b3 (j := 30) rfl) (byt_of hReader_one_b3 (j := 31) rfl) rfl
def bReader_one_b4 : List Nat := [42, 16, 41, 182, 0, 46, 153, 0, 7, 4, 167, 0, 4, 3, 172]
theorem hReader_one_b4 : BL (mcc mReader_one) 128 bReader_one_b4 := by decide +kernel
theorem dReader_one_128 : decode (mcc mReader_one) 128 = .ok (.aload_n 0, 1) := o42 (byt_of hReader_one_b4 (j := 0) rfl)
theorem dReader_one_129 : decode (mcc mReader_one) 129 = .ok (.bipush 41, 2) := o16 (a := 41) (byt_of hReader_one_b4 (j := 1) rfl) (byt_of hReader_one_b4 (j := 2) rfl) rfl
theorem dReader_one_131 : decode (mcc mReader_one) 131 = .ok (.invokevirtual 46, 3) := o182 (a := 0) (b := 46) (byt_of hReader_one_b4 (j := 3) rfl) (byt_of hReader_one_b4 (j := 4) rfl) (byt_of hReader_one_b4 (j := 5) rfl) rfl
theorem dReader_one_134 : decode (mcc mReader_one) 134 = .ok (.ifCond .eq 7, 3) := o153 (a := 0) (b := 7) (byt_of hReader_one_b4 (j := 6) rfl) (byt_of hReader_one_b4 (j := 7) rfl) (byt_of hReader_one_b4 (j := 8) rfl) rfl
theorem dReader_one_137 : decode (mcc mReader_one) 137 = .ok (.iconst 1, 1) := o4 (byt_of hReader_one_b4 (j := 9) rfl)
theorem dReader_one_138 : decode (mcc mReader_one) 138 = .ok (.goto 4, 3) := o167 (a := 0) (b := 4) (byt_of hReader_one_b4 (j := 10) rfl) (byt_of hReader_one_b4 (j := 11) rfl) (byt_of hReader_one_b4 (j := 12) rfl) rfl
theorem dReader_one_141 : decode (mcc mReader_one) 141 = .ok (.iconst 0, 1) := o3 (byt_of hReader_one_b4 (j := 13) rfl)
theorem dReader_one_142 : decode (mcc mReader_one) 142 = .ok (.ireturn, 1) := o172 (byt_of hReader_one_b4 (j := 14) rfl)
def bReader_opens_b0 : List Nat := [28, 8, 162, 0, 15, 42, 27, 182, 0, 46, 153, 0, 7, 4, 167, 0, 4, 3, 172]
theorem hReader_opens_b0 : BL (mcc mReader_opens) 0 bReader_opens_b0 := by decide +kernel
theorem dReader_opens_0 : decode (mcc mReader_opens) 0 = .ok (.iload_n 2, 1) := o28 (byt_of hReader_opens_b0 (j := 0) rfl)
theorem dReader_opens_1 : decode (mcc mReader_opens) 1 = .ok (.iconst 5, 1) := o8 (byt_of hReader_opens_b0 (j := 1) rfl)
theorem dReader_opens_2 : decode (mcc mReader_opens) 2 = .ok (.if_icmp .ge 15, 3) := o162 (a := 0) (b := 15) (byt_of hReader_opens_b0 (j := 2) rfl) (byt_of hReader_opens_b0 (j := 3) rfl) (byt_of hReader_opens_b0 (j := 4) rfl) rfl
theorem dReader_opens_5 : decode (mcc mReader_opens) 5 = .ok (.aload_n 0, 1) := o42 (byt_of hReader_opens_b0 (j := 5) rfl)
theorem dReader_opens_6 : decode (mcc mReader_opens) 6 = .ok (.iload_n 1, 1) := o27 (byt_of hReader_opens_b0 (j := 6) rfl)
theorem dReader_opens_7 : decode (mcc mReader_opens) 7 = .ok (.invokevirtual 46, 3) := o182 (a := 0) (b := 46) (byt_of hReader_opens_b0 (j := 7) rfl) (byt_of hReader_opens_b0 (j := 8) rfl) (byt_of hReader_opens_b0 (j := 9) rfl) rfl
theorem dReader_opens_10 : decode (mcc mReader_opens) 10 = .ok (.ifCond .eq 7, 3) := o153 (a := 0) (b := 7) (byt_of hReader_opens_b0 (j := 10) rfl) (byt_of hReader_opens_b0 (j := 11) rfl) (byt_of hReader_opens_b0 (j := 12) rfl) rfl
theorem dReader_opens_13 : decode (mcc mReader_opens) 13 = .ok (.iconst 1, 1) := o4 (byt_of hReader_opens_b0 (j := 13) rfl)
theorem dReader_opens_14 : decode (mcc mReader_opens) 14 = .ok (.goto 4, 3) := o167 (a := 0) (b := 4) (byt_of hReader_opens_b0 (j := 14) rfl) (byt_of hReader_opens_b0 (j := 15) rfl) (byt_of hReader_opens_b0 (j := 16) rfl) rfl
theorem dReader_opens_17 : decode (mcc mReader_opens) 17 = .ok (.iconst 0, 1) := o3 (byt_of hReader_opens_b0 (j := 17) rfl)
theorem dReader_opens_18 : decode (mcc mReader_opens) 18 = .ok (.ireturn, 1) := o172 (byt_of hReader_opens_b0 (j := 18) rfl)
def bReader_did_b0 : List Nat := [42, 17, 78, 32, 27, 96, 182, 0, 139, 4, 172]
theorem hReader_did_b0 : BL (mcc mReader_did) 0 bReader_did_b0 := by decide +kernel
theorem dReader_did_0 : decode (mcc mReader_did) 0 = .ok (.aload_n 0, 1) := o42 (byt_of hReader_did_b0 (j := 0) rfl)
theorem dReader_did_1 : decode (mcc mReader_did) 1 = .ok (.sipush 20000, 3) := o17 (a := 78) (b := 32) (byt_of hReader_did_b0 (j := 1) rfl) (byt_of hReader_did_b0 (j := 2) rfl) (byt_of hReader_did_b0 (j := 3) rfl) rfl
theorem dReader_did_4 : decode (mcc mReader_did) 4 = .ok (.iload_n 1, 1) := o27 (byt_of hReader_did_b0 (j := 4) rfl)
theorem dReader_did_5 : decode (mcc mReader_did) 5 = .ok (.iadd, 1) := o96 (byt_of hReader_did_b0 (j := 5) rfl)
theorem dReader_did_6 : decode (mcc mReader_did) 6 = .ok (.invokevirtual 139, 3) := o182 (a := 0) (b := 139) (byt_of hReader_did_b0 (j := 6) rfl) (byt_of hReader_did_b0 (j := 7) rfl) (byt_of hReader_did_b0 (j := 8) rfl) rfl
theorem dReader_did_9 : decode (mcc mReader_did) 9 = .ok (.iconst 1, 1) := o4 (byt_of hReader_did_b0 (j := 9) rfl)
theorem dReader_did_10 : decode (mcc mReader_did) 10 = .ok (.ireturn, 1) := o172 (byt_of hReader_did_b0 (j := 10) rfl)
def bSayings_init_b0 : List Nat := [42, 183, 0, 3, 42, 16, 11, 188, 10, 181, 0, 9, 42, 16, 11, 188, 10, 181, 0, 15, 42, 16, 11, 188, 10, 181, 0, 18, 42, 16, 11, 188, 10, 181, 0, 21, 42, 3]
theorem hSayings_init_b0 : BL (mcc mSayings_init) 0 bSayings_init_b0 := by decide +kernel
theorem dSayings_init_0 : decode (mcc mSayings_init) 0 = .ok (.aload_n 0, 1) := o42 (byt_of hSayings_init_b0 (j := 0) rfl)
theorem dSayings_init_1 : decode (mcc mSayings_init) 1 = .ok (.invokespecial 3, 3) := o183 (a := 0) (b := 3) (byt_of hSayings_init_b0 (j := 1) rfl) (byt_of hSayings_init_b0 (j := 2) rfl) (byt_of hSayings_init_b0 (j := 3) rfl) rfl
theorem dSayings_init_4 : decode (mcc mSayings_init) 4 = .ok (.aload_n 0, 1) := o42 (byt_of hSayings_init_b0 (j := 4) rfl)
theorem dSayings_init_5 : decode (mcc mSayings_init) 5 = .ok (.bipush 11, 2) := o16 (a := 11) (byt_of hSayings_init_b0 (j := 5) rfl) (byt_of hSayings_init_b0 (j := 6) rfl) rfl
theorem dSayings_init_7 : decode (mcc mSayings_init) 7 = .ok (.newarray .int, 2) := o188 (byt_of hSayings_init_b0 (j := 7) rfl) (byt_of hSayings_init_b0 (j := 8) rfl)
theorem dSayings_init_9 : decode (mcc mSayings_init) 9 = .ok (.putfield 9, 3) := o181 (a := 0) (b := 9) (byt_of hSayings_init_b0 (j := 9) rfl) (byt_of hSayings_init_b0 (j := 10) rfl) (byt_of hSayings_init_b0 (j := 11) rfl) rfl
theorem dSayings_init_12 : decode (mcc mSayings_init) 12 = .ok (.aload_n 0, 1) := o42 (byt_of hSayings_init_b0 (j := 12) rfl)
theorem dSayings_init_13 : decode (mcc mSayings_init) 13 = .ok (.bipush 11, 2) := o16 (a := 11) (byt_of hSayings_init_b0 (j := 13) rfl) (byt_of hSayings_init_b0 (j := 14) rfl) rfl
theorem dSayings_init_15 : decode (mcc mSayings_init) 15 = .ok (.newarray .int, 2) := o188 (byt_of hSayings_init_b0 (j := 15) rfl) (byt_of hSayings_init_b0 (j := 16) rfl)
theorem dSayings_init_17 : decode (mcc mSayings_init) 17 = .ok (.putfield 15, 3) := o181 (a := 0) (b := 15) (byt_of hSayings_init_b0 (j := 17) rfl) (byt_of hSayings_init_b0 (j := 18) rfl) (byt_of hSayings_init_b0 (j := 19) rfl) rfl
theorem dSayings_init_20 : decode (mcc mSayings_init) 20 = .ok (.aload_n 0, 1) := o42 (byt_of hSayings_init_b0 (j := 20) rfl)
theorem dSayings_init_21 : decode (mcc mSayings_init) 21 = .ok (.bipush 11, 2) := o16 (a := 11) (byt_of hSayings_init_b0 (j := 21) rfl) (byt_of hSayings_init_b0 (j := 22) rfl) rfl
theorem dSayings_init_23 : decode (mcc mSayings_init) 23 = .ok (.newarray .int, 2) := o188 (byt_of hSayings_init_b0 (j := 23) rfl) (byt_of hSayings_init_b0 (j := 24) rfl)
theorem dSayings_init_25 : decode (mcc mSayings_init) 25 = .ok (.putfield 18, 3) := o181 (a := 0) (b := 18) (byt_of hSayings_init_b0 (j := 25) rfl) (byt_of hSayings_init_b0 (j := 26) rfl) (byt_of hSayings_init_b0 (j := 27) rfl) rfl
theorem dSayings_init_28 : decode (mcc mSayings_init) 28 = .ok (.aload_n 0, 1) := o42 (byt_of hSayings_init_b0 (j := 28) rfl)
theorem dSayings_init_29 : decode (mcc mSayings_init) 29 = .ok (.bipush 11, 2) := o16 (a := 11) (byt_of hSayings_init_b0 (j := 29) rfl) (byt_of hSayings_init_b0 (j := 30) rfl) rfl
theorem dSayings_init_31 : decode (mcc mSayings_init) 31 = .ok (.newarray .int, 2) := o188 (byt_of hSayings_init_b0 (j := 31) rfl) (byt_of hSayings_init_b0 (j := 32) rfl)
def bSayings_init_b1 : List Nat := [10, 181, 0, 21, 42, 3, 181, 0, 24, 177]
theorem hSayings_init_b1 : BL (mcc mSayings_init) 32 bSayings_init_b1 := by decide +kernel
theorem dSayings_init_33 : decode (mcc mSayings_init) 33 = .ok (.putfield 21, 3) := o181 (a := 0) (b := 21) (byt_of hSayings_init_b1 (j := 1) rfl) (byt_of hSayings_init_b1 (j := 2) rfl) (byt_of hSayings_init_b1 (j := 3) rfl) rfl
theorem dSayings_init_36 : decode (mcc mSayings_init) 36 = .ok (.aload_n 0, 1) := o42 (byt_of hSayings_init_b1 (j := 4) rfl)
theorem dSayings_init_37 : decode (mcc mSayings_init) 37 = .ok (.iconst 0, 1) := o3 (byt_of hSayings_init_b1 (j := 5) rfl)
theorem dSayings_init_38 : decode (mcc mSayings_init) 38 = .ok (.putfield 24, 3) := o181 (a := 0) (b := 24) (byt_of hSayings_init_b1 (j := 6) rfl) (byt_of hSayings_init_b1 (j := 7) rfl) (byt_of hSayings_init_b1 (j := 8) rfl) rfl
theorem dSayings_init_41 : decode (mcc mSayings_init) 41 = .ok (.return_, 1) := o177 (byt_of hSayings_init_b1 (j := 9) rfl)
def bSayings_has_b0 : List Nat := [27, 3, 42, 180, 0, 24, 4, 100, 184, 0, 28, 172]
theorem hSayings_has_b0 : BL (mcc mSayings_has) 0 bSayings_has_b0 := by decide +kernel
theorem dSayings_has_0 : decode (mcc mSayings_has) 0 = .ok (.iload_n 1, 1) := o27 (byt_of hSayings_has_b0 (j := 0) rfl)
theorem dSayings_has_1 : decode (mcc mSayings_has) 1 = .ok (.iconst 0, 1) := o3 (byt_of hSayings_has_b0 (j := 1) rfl)
theorem dSayings_has_2 : decode (mcc mSayings_has) 2 = .ok (.aload_n 0, 1) := o42 (byt_of hSayings_has_b0 (j := 2) rfl)
theorem dSayings_has_3 : decode (mcc mSayings_has) 3 = .ok (.getfield 24, 3) := o180 (a := 0) (b := 24) (byt_of hSayings_has_b0 (j := 3) rfl) (byt_of hSayings_has_b0 (j := 4) rfl) (byt_of hSayings_has_b0 (j := 5) rfl) rfl
theorem dSayings_has_6 : decode (mcc mSayings_has) 6 = .ok (.iconst 1, 1) := o4 (byt_of hSayings_has_b0 (j := 6) rfl)
theorem dSayings_has_7 : decode (mcc mSayings_has) 7 = .ok (.isub, 1) := o100 (byt_of hSayings_has_b0 (j := 7) rfl)
theorem dSayings_has_8 : decode (mcc mSayings_has) 8 = .ok (.invokestatic 28, 3) := o184 (a := 0) (b := 28) (byt_of hSayings_has_b0 (j := 8) rfl) (byt_of hSayings_has_b0 (j := 9) rfl) (byt_of hSayings_has_b0 (j := 10) rfl) rfl
theorem dSayings_has_11 : decode (mcc mSayings_has) 11 = .ok (.ireturn, 1) := o172 (byt_of hSayings_has_b0 (j := 11) rfl)
def bSayings_put_b0 : List Nat := [42, 180, 0, 9, 27, 28, 79, 42, 180, 0, 15, 27, 29, 16, 100, 108, 79, 42, 180, 0, 18, 27, 29, 16, 10, 108, 16, 10, 112, 79, 42, 180, 0, 21, 27, 29, 16, 10]
theorem hSayings_put_b0 : BL (mcc mSayings_put) 0 bSayings_put_b0 := by decide +kernel
theorem dSayings_put_0 : decode (mcc mSayings_put) 0 = .ok (.aload_n 0, 1) := o42 (byt_of hSayings_put_b0 (j := 0) rfl)
theorem dSayings_put_1 : decode (mcc mSayings_put) 1 = .ok (.getfield 9, 3) := o180 (a := 0) (b := 9) (byt_of hSayings_put_b0 (j := 1) rfl) (byt_of hSayings_put_b0 (j := 2) rfl) (byt_of hSayings_put_b0 (j := 3) rfl) rfl
theorem dSayings_put_4 : decode (mcc mSayings_put) 4 = .ok (.iload_n 1, 1) := o27 (byt_of hSayings_put_b0 (j := 4) rfl)
theorem dSayings_put_5 : decode (mcc mSayings_put) 5 = .ok (.iload_n 2, 1) := o28 (byt_of hSayings_put_b0 (j := 5) rfl)
theorem dSayings_put_6 : decode (mcc mSayings_put) 6 = .ok (.iastore, 1) := o79 (byt_of hSayings_put_b0 (j := 6) rfl)
theorem dSayings_put_7 : decode (mcc mSayings_put) 7 = .ok (.aload_n 0, 1) := o42 (byt_of hSayings_put_b0 (j := 7) rfl)
theorem dSayings_put_8 : decode (mcc mSayings_put) 8 = .ok (.getfield 15, 3) := o180 (a := 0) (b := 15) (byt_of hSayings_put_b0 (j := 8) rfl) (byt_of hSayings_put_b0 (j := 9) rfl) (byt_of hSayings_put_b0 (j := 10) rfl) rfl
theorem dSayings_put_11 : decode (mcc mSayings_put) 11 = .ok (.iload_n 1, 1) := o27 (byt_of hSayings_put_b0 (j := 11) rfl)
theorem dSayings_put_12 : decode (mcc mSayings_put) 12 = .ok (.iload_n 3, 1) := o29 (byt_of hSayings_put_b0 (j := 12) rfl)
theorem dSayings_put_13 : decode (mcc mSayings_put) 13 = .ok (.bipush 100, 2) := o16 (a := 100) (byt_of hSayings_put_b0 (j := 13) rfl) (byt_of hSayings_put_b0 (j := 14) rfl) rfl
theorem dSayings_put_15 : decode (mcc mSayings_put) 15 = .ok (.idiv, 1) := o108 (byt_of hSayings_put_b0 (j := 15) rfl)
theorem dSayings_put_16 : decode (mcc mSayings_put) 16 = .ok (.iastore, 1) := o79 (byt_of hSayings_put_b0 (j := 16) rfl)
theorem dSayings_put_17 : decode (mcc mSayings_put) 17 = .ok (.aload_n 0, 1) := o42 (byt_of hSayings_put_b0 (j := 17) rfl)
theorem dSayings_put_18 : decode (mcc mSayings_put) 18 = .ok (.getfield 18, 3) := o180 (a := 0) (b := 18) (byt_of hSayings_put_b0 (j := 18) rfl) (byt_of hSayings_put_b0 (j := 19) rfl) (byt_of hSayings_put_b0 (j := 20) rfl) rfl
theorem dSayings_put_21 : decode (mcc mSayings_put) 21 = .ok (.iload_n 1, 1) := o27 (byt_of hSayings_put_b0 (j := 21) rfl)
theorem dSayings_put_22 : decode (mcc mSayings_put) 22 = .ok (.iload_n 3, 1) := o29 (byt_of hSayings_put_b0 (j := 22) rfl)
theorem dSayings_put_23 : decode (mcc mSayings_put) 23 = .ok (.bipush 10, 2) := o16 (a := 10) (byt_of hSayings_put_b0 (j := 23) rfl) (byt_of hSayings_put_b0 (j := 24) rfl) rfl
theorem dSayings_put_25 : decode (mcc mSayings_put) 25 = .ok (.idiv, 1) := o108 (byt_of hSayings_put_b0 (j := 25) rfl)
theorem dSayings_put_26 : decode (mcc mSayings_put) 26 = .ok (.bipush 10, 2) := o16 (a := 10) (byt_of hSayings_put_b0 (j := 26) rfl) (byt_of hSayings_put_b0 (j := 27) rfl) rfl
theorem dSayings_put_28 : decode (mcc mSayings_put) 28 = .ok (.irem, 1) := o112 (byt_of hSayings_put_b0 (j := 28) rfl)
theorem dSayings_put_29 : decode (mcc mSayings_put) 29 = .ok (.iastore, 1) := o79 (byt_of hSayings_put_b0 (j := 29) rfl)
theorem dSayings_put_30 : decode (mcc mSayings_put) 30 = .ok (.aload_n 0, 1) := o42 (byt_of hSayings_put_b0 (j := 30) rfl)
theorem dSayings_put_31 : decode (mcc mSayings_put) 31 = .ok (.getfield 21, 3) := o180 (a := 0) (b := 21) (byt_of hSayings_put_b0 (j := 31) rfl) (byt_of hSayings_put_b0 (j := 32) rfl) (byt_of hSayings_put_b0 (j := 33) rfl) rfl
def bSayings_put_b1 : List Nat := [0, 21, 27, 29, 16, 10, 112, 79, 177]
theorem hSayings_put_b1 : BL (mcc mSayings_put) 32 bSayings_put_b1 := by decide +kernel
theorem dSayings_put_34 : decode (mcc mSayings_put) 34 = .ok (.iload_n 1, 1) := o27 (byt_of hSayings_put_b1 (j := 2) rfl)
theorem dSayings_put_35 : decode (mcc mSayings_put) 35 = .ok (.iload_n 3, 1) := o29 (byt_of hSayings_put_b1 (j := 3) rfl)
theorem dSayings_put_36 : decode (mcc mSayings_put) 36 = .ok (.bipush 10, 2) := o16 (a := 10) (byt_of hSayings_put_b1 (j := 4) rfl) (byt_of hSayings_put_b1 (j := 5) rfl) rfl
theorem dSayings_put_38 : decode (mcc mSayings_put) 38 = .ok (.irem, 1) := o112 (byt_of hSayings_put_b1 (j := 6) rfl)
theorem dSayings_put_39 : decode (mcc mSayings_put) 39 = .ok (.iastore, 1) := o79 (byt_of hSayings_put_b1 (j := 7) rfl)
theorem dSayings_put_40 : decode (mcc mSayings_put) 40 = .ok (.return_, 1) := o177 (byt_of hSayings_put_b1 (j := 8) rfl)
def bSayings_become_b0 : List Nat := [43, 180, 0, 9, 3, 42, 180, 0, 9, 3, 16, 11, 184, 0, 32, 43, 180, 0, 15, 3, 42, 180, 0, 15, 3, 16, 11, 184, 0, 32, 43, 180, 0, 18, 3, 42, 180, 0]
theorem hSayings_become_b0 : BL (mcc mSayings_become) 0 bSayings_become_b0 := by decide +kernel
theorem dSayings_become_0 : decode (mcc mSayings_become) 0 = .ok (.aload_n 1, 1) := o43 (byt_of hSayings_become_b0 (j := 0) rfl)
theorem dSayings_become_1 : decode (mcc mSayings_become) 1 = .ok (.getfield 9, 3) := o180 (a := 0) (b := 9) (byt_of hSayings_become_b0 (j := 1) rfl) (byt_of hSayings_become_b0 (j := 2) rfl) (byt_of hSayings_become_b0 (j := 3) rfl) rfl
theorem dSayings_become_4 : decode (mcc mSayings_become) 4 = .ok (.iconst 0, 1) := o3 (byt_of hSayings_become_b0 (j := 4) rfl)
theorem dSayings_become_5 : decode (mcc mSayings_become) 5 = .ok (.aload_n 0, 1) := o42 (byt_of hSayings_become_b0 (j := 5) rfl)
theorem dSayings_become_6 : decode (mcc mSayings_become) 6 = .ok (.getfield 9, 3) := o180 (a := 0) (b := 9) (byt_of hSayings_become_b0 (j := 6) rfl) (byt_of hSayings_become_b0 (j := 7) rfl) (byt_of hSayings_become_b0 (j := 8) rfl) rfl
theorem dSayings_become_9 : decode (mcc mSayings_become) 9 = .ok (.iconst 0, 1) := o3 (byt_of hSayings_become_b0 (j := 9) rfl)
theorem dSayings_become_10 : decode (mcc mSayings_become) 10 = .ok (.bipush 11, 2) := o16 (a := 11) (byt_of hSayings_become_b0 (j := 10) rfl) (byt_of hSayings_become_b0 (j := 11) rfl) rfl
theorem dSayings_become_12 : decode (mcc mSayings_become) 12 = .ok (.invokestatic 32, 3) := o184 (a := 0) (b := 32) (byt_of hSayings_become_b0 (j := 12) rfl) (byt_of hSayings_become_b0 (j := 13) rfl) (byt_of hSayings_become_b0 (j := 14) rfl) rfl
theorem dSayings_become_15 : decode (mcc mSayings_become) 15 = .ok (.aload_n 1, 1) := o43 (byt_of hSayings_become_b0 (j := 15) rfl)
theorem dSayings_become_16 : decode (mcc mSayings_become) 16 = .ok (.getfield 15, 3) := o180 (a := 0) (b := 15) (byt_of hSayings_become_b0 (j := 16) rfl) (byt_of hSayings_become_b0 (j := 17) rfl) (byt_of hSayings_become_b0 (j := 18) rfl) rfl
theorem dSayings_become_19 : decode (mcc mSayings_become) 19 = .ok (.iconst 0, 1) := o3 (byt_of hSayings_become_b0 (j := 19) rfl)
theorem dSayings_become_20 : decode (mcc mSayings_become) 20 = .ok (.aload_n 0, 1) := o42 (byt_of hSayings_become_b0 (j := 20) rfl)
theorem dSayings_become_21 : decode (mcc mSayings_become) 21 = .ok (.getfield 15, 3) := o180 (a := 0) (b := 15) (byt_of hSayings_become_b0 (j := 21) rfl) (byt_of hSayings_become_b0 (j := 22) rfl) (byt_of hSayings_become_b0 (j := 23) rfl) rfl
theorem dSayings_become_24 : decode (mcc mSayings_become) 24 = .ok (.iconst 0, 1) := o3 (byt_of hSayings_become_b0 (j := 24) rfl)
theorem dSayings_become_25 : decode (mcc mSayings_become) 25 = .ok (.bipush 11, 2) := o16 (a := 11) (byt_of hSayings_become_b0 (j := 25) rfl) (byt_of hSayings_become_b0 (j := 26) rfl) rfl
theorem dSayings_become_27 : decode (mcc mSayings_become) 27 = .ok (.invokestatic 32, 3) := o184 (a := 0) (b := 32) (byt_of hSayings_become_b0 (j := 27) rfl) (byt_of hSayings_become_b0 (j := 28) rfl) (byt_of hSayings_become_b0 (j := 29) rfl) rfl
theorem dSayings_become_30 : decode (mcc mSayings_become) 30 = .ok (.aload_n 1, 1) := o43 (byt_of hSayings_become_b0 (j := 30) rfl)
theorem dSayings_become_31 : decode (mcc mSayings_become) 31 = .ok (.getfield 18, 3) := o180 (a := 0) (b := 18) (byt_of hSayings_become_b0 (j := 31) rfl) (byt_of hSayings_become_b0 (j := 32) rfl) (byt_of hSayings_become_b0 (j := 33) rfl) rfl
def bSayings_become_b1 : List Nat := [0, 18, 3, 42, 180, 0, 18, 3, 16, 11, 184, 0, 32, 43, 180, 0, 21, 3, 42, 180, 0, 21, 3, 16, 11, 184, 0, 32, 42, 43, 180, 0, 24, 181, 0, 24, 177]
theorem hSayings_become_b1 : BL (mcc mSayings_become) 32 bSayings_become_b1 := by decide +kernel
theorem dSayings_become_34 : decode (mcc mSayings_become) 34 = .ok (.iconst 0, 1) := o3 (byt_of hSayings_become_b1 (j := 2) rfl)
theorem dSayings_become_35 : decode (mcc mSayings_become) 35 = .ok (.aload_n 0, 1) := o42 (byt_of hSayings_become_b1 (j := 3) rfl)
theorem dSayings_become_36 : decode (mcc mSayings_become) 36 = .ok (.getfield 18, 3) := o180 (a := 0) (b := 18) (byt_of hSayings_become_b1 (j := 4) rfl) (byt_of hSayings_become_b1 (j := 5) rfl) (byt_of hSayings_become_b1 (j := 6) rfl) rfl
theorem dSayings_become_39 : decode (mcc mSayings_become) 39 = .ok (.iconst 0, 1) := o3 (byt_of hSayings_become_b1 (j := 7) rfl)
theorem dSayings_become_40 : decode (mcc mSayings_become) 40 = .ok (.bipush 11, 2) := o16 (a := 11) (byt_of hSayings_become_b1 (j := 8) rfl) (byt_of hSayings_become_b1 (j := 9) rfl) rfl
theorem dSayings_become_42 : decode (mcc mSayings_become) 42 = .ok (.invokestatic 32, 3) := o184 (a := 0) (b := 32) (byt_of hSayings_become_b1 (j := 10) rfl) (byt_of hSayings_become_b1 (j := 11) rfl) (byt_of hSayings_become_b1 (j := 12) rfl) rfl
theorem dSayings_become_45 : decode (mcc mSayings_become) 45 = .ok (.aload_n 1, 1) := o43 (byt_of hSayings_become_b1 (j := 13) rfl)
theorem dSayings_become_46 : decode (mcc mSayings_become) 46 = .ok (.getfield 21, 3) := o180 (a := 0) (b := 21) (byt_of hSayings_become_b1 (j := 14) rfl) (byt_of hSayings_become_b1 (j := 15) rfl) (byt_of hSayings_become_b1 (j := 16) rfl) rfl
theorem dSayings_become_49 : decode (mcc mSayings_become) 49 = .ok (.iconst 0, 1) := o3 (byt_of hSayings_become_b1 (j := 17) rfl)
theorem dSayings_become_50 : decode (mcc mSayings_become) 50 = .ok (.aload_n 0, 1) := o42 (byt_of hSayings_become_b1 (j := 18) rfl)
theorem dSayings_become_51 : decode (mcc mSayings_become) 51 = .ok (.getfield 21, 3) := o180 (a := 0) (b := 21) (byt_of hSayings_become_b1 (j := 19) rfl) (byt_of hSayings_become_b1 (j := 20) rfl) (byt_of hSayings_become_b1 (j := 21) rfl) rfl
theorem dSayings_become_54 : decode (mcc mSayings_become) 54 = .ok (.iconst 0, 1) := o3 (byt_of hSayings_become_b1 (j := 22) rfl)
theorem dSayings_become_55 : decode (mcc mSayings_become) 55 = .ok (.bipush 11, 2) := o16 (a := 11) (byt_of hSayings_become_b1 (j := 23) rfl) (byt_of hSayings_become_b1 (j := 24) rfl) rfl
theorem dSayings_become_57 : decode (mcc mSayings_become) 57 = .ok (.invokestatic 32, 3) := o184 (a := 0) (b := 32) (byt_of hSayings_become_b1 (j := 25) rfl) (byt_of hSayings_become_b1 (j := 26) rfl) (byt_of hSayings_become_b1 (j := 27) rfl) rfl
theorem dSayings_become_60 : decode (mcc mSayings_become) 60 = .ok (.aload_n 0, 1) := o42 (byt_of hSayings_become_b1 (j := 28) rfl)
theorem dSayings_become_61 : decode (mcc mSayings_become) 61 = .ok (.aload_n 1, 1) := o43 (byt_of hSayings_become_b1 (j := 29) rfl)
theorem dSayings_become_62 : decode (mcc mSayings_become) 62 = .ok (.getfield 24, 3) := o180 (a := 0) (b := 24) (byt_of hSayings_become_b1 (j := 30) rfl) (byt_of hSayings_become_b1 (j := 31) rfl) (byt_of hSayings_become_b1 (j := 32) rfl) rfl
def bSayings_become_b2 : List Nat := [24, 181, 0, 24, 177]
theorem hSayings_become_b2 : BL (mcc mSayings_become) 64 bSayings_become_b2 := by decide +kernel
theorem dSayings_become_65 : decode (mcc mSayings_become) 65 = .ok (.putfield 24, 3) := o181 (a := 0) (b := 24) (byt_of hSayings_become_b2 (j := 1) rfl) (byt_of hSayings_become_b2 (j := 2) rfl) (byt_of hSayings_become_b2 (j := 3) rfl) rfl
theorem dSayings_become_68 : decode (mcc mSayings_become) 68 = .ok (.return_, 1) := o177 (byt_of hSayings_become_b2 (j := 4) rfl)
def bSheets_init_b0 : List Nat := [42, 183, 0, 3, 42, 7, 188, 10, 89, 3, 2, 79, 89, 4, 2, 79, 89, 5, 2, 79, 89, 6, 2, 79, 181, 0, 9, 42, 7, 188, 10, 181, 0, 15, 42, 17, 0, 160]
theorem hSheets_init_b0 : BL (mcc mSheets_init) 0 bSheets_init_b0 := by decide +kernel
theorem dSheets_init_0 : decode (mcc mSheets_init) 0 = .ok (.aload_n 0, 1) := o42 (byt_of hSheets_init_b0 (j := 0) rfl)
theorem dSheets_init_1 : decode (mcc mSheets_init) 1 = .ok (.invokespecial 3, 3) := o183 (a := 0) (b := 3) (byt_of hSheets_init_b0 (j := 1) rfl) (byt_of hSheets_init_b0 (j := 2) rfl) (byt_of hSheets_init_b0 (j := 3) rfl) rfl
theorem dSheets_init_4 : decode (mcc mSheets_init) 4 = .ok (.aload_n 0, 1) := o42 (byt_of hSheets_init_b0 (j := 4) rfl)
theorem dSheets_init_5 : decode (mcc mSheets_init) 5 = .ok (.iconst 4, 1) := o7 (byt_of hSheets_init_b0 (j := 5) rfl)
theorem dSheets_init_6 : decode (mcc mSheets_init) 6 = .ok (.newarray .int, 2) := o188 (byt_of hSheets_init_b0 (j := 6) rfl) (byt_of hSheets_init_b0 (j := 7) rfl)
theorem dSheets_init_8 : decode (mcc mSheets_init) 8 = .ok (.dup, 1) := o89 (byt_of hSheets_init_b0 (j := 8) rfl)
theorem dSheets_init_9 : decode (mcc mSheets_init) 9 = .ok (.iconst 0, 1) := o3 (byt_of hSheets_init_b0 (j := 9) rfl)
theorem dSheets_init_10 : decode (mcc mSheets_init) 10 = .ok (.iconst (-1), 1) := o2 (byt_of hSheets_init_b0 (j := 10) rfl)
theorem dSheets_init_11 : decode (mcc mSheets_init) 11 = .ok (.iastore, 1) := o79 (byt_of hSheets_init_b0 (j := 11) rfl)
theorem dSheets_init_12 : decode (mcc mSheets_init) 12 = .ok (.dup, 1) := o89 (byt_of hSheets_init_b0 (j := 12) rfl)
theorem dSheets_init_13 : decode (mcc mSheets_init) 13 = .ok (.iconst 1, 1) := o4 (byt_of hSheets_init_b0 (j := 13) rfl)
theorem dSheets_init_14 : decode (mcc mSheets_init) 14 = .ok (.iconst (-1), 1) := o2 (byt_of hSheets_init_b0 (j := 14) rfl)
theorem dSheets_init_15 : decode (mcc mSheets_init) 15 = .ok (.iastore, 1) := o79 (byt_of hSheets_init_b0 (j := 15) rfl)
theorem dSheets_init_16 : decode (mcc mSheets_init) 16 = .ok (.dup, 1) := o89 (byt_of hSheets_init_b0 (j := 16) rfl)
theorem dSheets_init_17 : decode (mcc mSheets_init) 17 = .ok (.iconst 2, 1) := o5 (byt_of hSheets_init_b0 (j := 17) rfl)
theorem dSheets_init_18 : decode (mcc mSheets_init) 18 = .ok (.iconst (-1), 1) := o2 (byt_of hSheets_init_b0 (j := 18) rfl)
theorem dSheets_init_19 : decode (mcc mSheets_init) 19 = .ok (.iastore, 1) := o79 (byt_of hSheets_init_b0 (j := 19) rfl)
theorem dSheets_init_20 : decode (mcc mSheets_init) 20 = .ok (.dup, 1) := o89 (byt_of hSheets_init_b0 (j := 20) rfl)
theorem dSheets_init_21 : decode (mcc mSheets_init) 21 = .ok (.iconst 3, 1) := o6 (byt_of hSheets_init_b0 (j := 21) rfl)
theorem dSheets_init_22 : decode (mcc mSheets_init) 22 = .ok (.iconst (-1), 1) := o2 (byt_of hSheets_init_b0 (j := 22) rfl)
theorem dSheets_init_23 : decode (mcc mSheets_init) 23 = .ok (.iastore, 1) := o79 (byt_of hSheets_init_b0 (j := 23) rfl)
theorem dSheets_init_24 : decode (mcc mSheets_init) 24 = .ok (.putfield 9, 3) := o181 (a := 0) (b := 9) (byt_of hSheets_init_b0 (j := 24) rfl) (byt_of hSheets_init_b0 (j := 25) rfl) (byt_of hSheets_init_b0 (j := 26) rfl) rfl
theorem dSheets_init_27 : decode (mcc mSheets_init) 27 = .ok (.aload_n 0, 1) := o42 (byt_of hSheets_init_b0 (j := 27) rfl)
theorem dSheets_init_28 : decode (mcc mSheets_init) 28 = .ok (.iconst 4, 1) := o7 (byt_of hSheets_init_b0 (j := 28) rfl)
theorem dSheets_init_29 : decode (mcc mSheets_init) 29 = .ok (.newarray .int, 2) := o188 (byt_of hSheets_init_b0 (j := 29) rfl) (byt_of hSheets_init_b0 (j := 30) rfl)
theorem dSheets_init_31 : decode (mcc mSheets_init) 31 = .ok (.putfield 15, 3) := o181 (a := 0) (b := 15) (byt_of hSheets_init_b0 (j := 31) rfl) (byt_of hSheets_init_b0 (j := 32) rfl) (byt_of hSheets_init_b0 (j := 33) rfl) rfl
def bSheets_init_b1 : List Nat := [0, 15, 42, 17, 0, 160, 188, 10, 181, 0, 18, 177]
theorem hSheets_init_b1 : BL (mcc mSheets_init) 32 bSheets_init_b1 := by decide +kernel
theorem dSheets_init_34 : decode (mcc mSheets_init) 34 = .ok (.aload_n 0, 1) := o42 (byt_of hSheets_init_b1 (j := 2) rfl)
theorem dSheets_init_35 : decode (mcc mSheets_init) 35 = .ok (.sipush 160, 3) := o17 (a := 0) (b := 160) (byt_of hSheets_init_b1 (j := 3) rfl) (byt_of hSheets_init_b1 (j := 4) rfl) (byt_of hSheets_init_b1 (j := 5) rfl) rfl
theorem dSheets_init_38 : decode (mcc mSheets_init) 38 = .ok (.newarray .int, 2) := o188 (byt_of hSheets_init_b1 (j := 6) rfl) (byt_of hSheets_init_b1 (j := 7) rfl)
theorem dSheets_init_40 : decode (mcc mSheets_init) 40 = .ok (.putfield 18, 3) := o181 (a := 0) (b := 18) (byt_of hSheets_init_b1 (j := 8) rfl) (byt_of hSheets_init_b1 (j := 9) rfl) (byt_of hSheets_init_b1 (j := 10) rfl) rfl
theorem dSheets_init_43 : decode (mcc mSheets_init) 43 = .ok (.return_, 1) := o177 (byt_of hSheets_init_b1 (j := 11) rfl)
def bSheets_isMissing_b0 : List Nat := [42, 180, 0, 9, 27, 46, 2, 160, 0, 7, 4, 167, 0, 4, 3, 172]
theorem hSheets_isMissing_b0 : BL (mcc mSheets_isMissing) 0 bSheets_isMissing_b0 := by decide +kernel
theorem dSheets_isMissing_0 : decode (mcc mSheets_isMissing) 0 = .ok (.aload_n 0, 1) := o42 (byt_of hSheets_isMissing_b0 (j := 0) rfl)
theorem dSheets_isMissing_1 : decode (mcc mSheets_isMissing) 1 = .ok (.getfield 9, 3) := o180 (a := 0) (b := 9) (byt_of hSheets_isMissing_b0 (j := 1) rfl) (byt_of hSheets_isMissing_b0 (j := 2) rfl) (byt_of hSheets_isMissing_b0 (j := 3) rfl) rfl
theorem dSheets_isMissing_4 : decode (mcc mSheets_isMissing) 4 = .ok (.iload_n 1, 1) := o27 (byt_of hSheets_isMissing_b0 (j := 4) rfl)
theorem dSheets_isMissing_5 : decode (mcc mSheets_isMissing) 5 = .ok (.iaload, 1) := o46 (byt_of hSheets_isMissing_b0 (j := 5) rfl)
theorem dSheets_isMissing_6 : decode (mcc mSheets_isMissing) 6 = .ok (.iconst (-1), 1) := o2 (byt_of hSheets_isMissing_b0 (j := 6) rfl)
theorem dSheets_isMissing_7 : decode (mcc mSheets_isMissing) 7 = .ok (.if_icmp .ne 7, 3) := o160 (a := 0) (b := 7) (byt_of hSheets_isMissing_b0 (j := 7) rfl) (byt_of hSheets_isMissing_b0 (j := 8) rfl) (byt_of hSheets_isMissing_b0 (j := 9) rfl) rfl
theorem dSheets_isMissing_10 : decode (mcc mSheets_isMissing) 10 = .ok (.iconst 1, 1) := o4 (byt_of hSheets_isMissing_b0 (j := 10) rfl)
theorem dSheets_isMissing_11 : decode (mcc mSheets_isMissing) 11 = .ok (.goto 4, 3) := o167 (a := 0) (b := 4) (byt_of hSheets_isMissing_b0 (j := 11) rfl) (byt_of hSheets_isMissing_b0 (j := 12) rfl) (byt_of hSheets_isMissing_b0 (j := 13) rfl) rfl
theorem dSheets_isMissing_14 : decode (mcc mSheets_isMissing) 14 = .ok (.iconst 0, 1) := o3 (byt_of hSheets_isMissing_b0 (j := 14) rfl)
theorem dSheets_isMissing_15 : decode (mcc mSheets_isMissing) 15 = .ok (.ireturn, 1) := o172 (byt_of hSheets_isMissing_b0 (j := 15) rfl)
def bSheets_become_b0 : List Nat := [42, 180, 0, 9, 27, 28, 79, 42, 180, 0, 15, 27, 29, 79, 3, 54, 4, 21, 4, 16, 40, 162, 0, 22, 42, 180, 0, 18, 27, 16, 40, 104, 21, 4, 96, 3, 79, 132]
theorem hSheets_become_b0 : BL (mcc mSheets_become) 0 bSheets_become_b0 := by decide +kernel
theorem dSheets_become_0 : decode (mcc mSheets_become) 0 = .ok (.aload_n 0, 1) := o42 (byt_of hSheets_become_b0 (j := 0) rfl)
theorem dSheets_become_1 : decode (mcc mSheets_become) 1 = .ok (.getfield 9, 3) := o180 (a := 0) (b := 9) (byt_of hSheets_become_b0 (j := 1) rfl) (byt_of hSheets_become_b0 (j := 2) rfl) (byt_of hSheets_become_b0 (j := 3) rfl) rfl
theorem dSheets_become_4 : decode (mcc mSheets_become) 4 = .ok (.iload_n 1, 1) := o27 (byt_of hSheets_become_b0 (j := 4) rfl)
theorem dSheets_become_5 : decode (mcc mSheets_become) 5 = .ok (.iload_n 2, 1) := o28 (byt_of hSheets_become_b0 (j := 5) rfl)
theorem dSheets_become_6 : decode (mcc mSheets_become) 6 = .ok (.iastore, 1) := o79 (byt_of hSheets_become_b0 (j := 6) rfl)
theorem dSheets_become_7 : decode (mcc mSheets_become) 7 = .ok (.aload_n 0, 1) := o42 (byt_of hSheets_become_b0 (j := 7) rfl)
theorem dSheets_become_8 : decode (mcc mSheets_become) 8 = .ok (.getfield 15, 3) := o180 (a := 0) (b := 15) (byt_of hSheets_become_b0 (j := 8) rfl) (byt_of hSheets_become_b0 (j := 9) rfl) (byt_of hSheets_become_b0 (j := 10) rfl) rfl
theorem dSheets_become_11 : decode (mcc mSheets_become) 11 = .ok (.iload_n 1, 1) := o27 (byt_of hSheets_become_b0 (j := 11) rfl)
theorem dSheets_become_12 : decode (mcc mSheets_become) 12 = .ok (.iload_n 3, 1) := o29 (byt_of hSheets_become_b0 (j := 12) rfl)
theorem dSheets_become_13 : decode (mcc mSheets_become) 13 = .ok (.iastore, 1) := o79 (byt_of hSheets_become_b0 (j := 13) rfl)
theorem dSheets_become_14 : decode (mcc mSheets_become) 14 = .ok (.iconst 0, 1) := o3 (byt_of hSheets_become_b0 (j := 14) rfl)
theorem dSheets_become_15 : decode (mcc mSheets_become) 15 = .ok (.istore 4, 2) := o54 (a := 4) (byt_of hSheets_become_b0 (j := 15) rfl) (byt_of hSheets_become_b0 (j := 16) rfl)
theorem dSheets_become_17 : decode (mcc mSheets_become) 17 = .ok (.iload 4, 2) := o21 (a := 4) (byt_of hSheets_become_b0 (j := 17) rfl) (byt_of hSheets_become_b0 (j := 18) rfl)
theorem dSheets_become_19 : decode (mcc mSheets_become) 19 = .ok (.bipush 40, 2) := o16 (a := 40) (byt_of hSheets_become_b0 (j := 19) rfl) (byt_of hSheets_become_b0 (j := 20) rfl) rfl
theorem dSheets_become_21 : decode (mcc mSheets_become) 21 = .ok (.if_icmp .ge 22, 3) := o162 (a := 0) (b := 22) (byt_of hSheets_become_b0 (j := 21) rfl) (byt_of hSheets_become_b0 (j := 22) rfl) (byt_of hSheets_become_b0 (j := 23) rfl) rfl
theorem dSheets_become_24 : decode (mcc mSheets_become) 24 = .ok (.aload_n 0, 1) := o42 (byt_of hSheets_become_b0 (j := 24) rfl)
theorem dSheets_become_25 : decode (mcc mSheets_become) 25 = .ok (.getfield 18, 3) := o180 (a := 0) (b := 18) (byt_of hSheets_become_b0 (j := 25) rfl) (byt_of hSheets_become_b0 (j := 26) rfl) (byt_of hSheets_become_b0 (j := 27) rfl) rfl
theorem dSheets_become_28 : decode (mcc mSheets_become) 28 = .ok (.iload_n 1, 1) := o27 (byt_of hSheets_become_b0 (j := 28) rfl)
theorem dSheets_become_29 : decode (mcc mSheets_become) 29 = .ok (.bipush 40, 2) := o16 (a := 40) (byt_of hSheets_become_b0 (j := 29) rfl) (byt_of hSheets_become_b0 (j := 30) rfl) rfl
theorem dSheets_become_31 : decode (mcc mSheets_become) 31 = .ok (.imul, 1) := o104 (byt_of hSheets_become_b0 (j := 31) rfl)
def bSheets_become_b1 : List Nat := [21, 4, 96, 3, 79, 132, 4, 1, 167, 255, 233, 177]
theorem hSheets_become_b1 : BL (mcc mSheets_become) 32 bSheets_become_b1 := by decide +kernel
theorem dSheets_become_32 : decode (mcc mSheets_become) 32 = .ok (.iload 4, 2) := o21 (a := 4) (byt_of hSheets_become_b1 (j := 0) rfl) (byt_of hSheets_become_b1 (j := 1) rfl)
theorem dSheets_become_34 : decode (mcc mSheets_become) 34 = .ok (.iadd, 1) := o96 (byt_of hSheets_become_b1 (j := 2) rfl)
theorem dSheets_become_35 : decode (mcc mSheets_become) 35 = .ok (.iconst 0, 1) := o3 (byt_of hSheets_become_b1 (j := 3) rfl)
theorem dSheets_become_36 : decode (mcc mSheets_become) 36 = .ok (.iastore, 1) := o79 (byt_of hSheets_become_b1 (j := 4) rfl)
theorem dSheets_become_37 : decode (mcc mSheets_become) 37 = .ok (.iinc 4 1, 3) := o132 (a := 4) (b := 1) (byt_of hSheets_become_b1 (j := 5) rfl) (byt_of hSheets_become_b1 (j := 6) rfl) (byt_of hSheets_become_b1 (j := 7) rfl) rfl
theorem dSheets_become_40 : decode (mcc mSheets_become) 40 = .ok (.goto (-23), 3) := o167 (a := 255) (b := 233) (byt_of hSheets_become_b1 (j := 8) rfl) (byt_of hSheets_become_b1 (j := 9) rfl) (byt_of hSheets_become_b1 (j := 10) rfl) rfl
theorem dSheets_become_43 : decode (mcc mSheets_become) 43 = .ok (.return_, 1) := o177 (byt_of hSheets_become_b1 (j := 11) rfl)
def bSheets_set_b0 : List Nat := [42, 180, 0, 18, 27, 16, 40, 104, 28, 96, 42, 180, 0, 9, 27, 46, 154, 0, 8, 29, 145, 167, 0, 19, 42, 180, 0, 9, 27, 46, 4, 160, 0, 8, 29, 147, 167, 0]
theorem hSheets_set_b0 : BL (mcc mSheets_set) 0 bSheets_set_b0 := by decide +kernel
theorem dSheets_set_0 : decode (mcc mSheets_set) 0 = .ok (.aload_n 0, 1) := o42 (byt_of hSheets_set_b0 (j := 0) rfl)
theorem dSheets_set_1 : decode (mcc mSheets_set) 1 = .ok (.getfield 18, 3) := o180 (a := 0) (b := 18) (byt_of hSheets_set_b0 (j := 1) rfl) (byt_of hSheets_set_b0 (j := 2) rfl) (byt_of hSheets_set_b0 (j := 3) rfl) rfl
theorem dSheets_set_4 : decode (mcc mSheets_set) 4 = .ok (.iload_n 1, 1) := o27 (byt_of hSheets_set_b0 (j := 4) rfl)
theorem dSheets_set_5 : decode (mcc mSheets_set) 5 = .ok (.bipush 40, 2) := o16 (a := 40) (byt_of hSheets_set_b0 (j := 5) rfl) (byt_of hSheets_set_b0 (j := 6) rfl) rfl
theorem dSheets_set_7 : decode (mcc mSheets_set) 7 = .ok (.imul, 1) := o104 (byt_of hSheets_set_b0 (j := 7) rfl)
theorem dSheets_set_8 : decode (mcc mSheets_set) 8 = .ok (.iload_n 2, 1) := o28 (byt_of hSheets_set_b0 (j := 8) rfl)
theorem dSheets_set_9 : decode (mcc mSheets_set) 9 = .ok (.iadd, 1) := o96 (byt_of hSheets_set_b0 (j := 9) rfl)
theorem dSheets_set_10 : decode (mcc mSheets_set) 10 = .ok (.aload_n 0, 1) := o42 (byt_of hSheets_set_b0 (j := 10) rfl)
theorem dSheets_set_11 : decode (mcc mSheets_set) 11 = .ok (.getfield 9, 3) := o180 (a := 0) (b := 9) (byt_of hSheets_set_b0 (j := 11) rfl) (byt_of hSheets_set_b0 (j := 12) rfl) (byt_of hSheets_set_b0 (j := 13) rfl) rfl
theorem dSheets_set_14 : decode (mcc mSheets_set) 14 = .ok (.iload_n 1, 1) := o27 (byt_of hSheets_set_b0 (j := 14) rfl)
theorem dSheets_set_15 : decode (mcc mSheets_set) 15 = .ok (.iaload, 1) := o46 (byt_of hSheets_set_b0 (j := 15) rfl)
theorem dSheets_set_16 : decode (mcc mSheets_set) 16 = .ok (.ifCond .ne 8, 3) := o154 (a := 0) (b := 8) (byt_of hSheets_set_b0 (j := 16) rfl) (byt_of hSheets_set_b0 (j := 17) rfl) (byt_of hSheets_set_b0 (j := 18) rfl) rfl
theorem dSheets_set_19 : decode (mcc mSheets_set) 19 = .ok (.iload_n 3, 1) := o29 (byt_of hSheets_set_b0 (j := 19) rfl)
theorem dSheets_set_20 : decode (mcc mSheets_set) 20 = .ok (.i2b, 1) := o145 (byt_of hSheets_set_b0 (j := 20) rfl)
theorem dSheets_set_21 : decode (mcc mSheets_set) 21 = .ok (.goto 19, 3) := o167 (a := 0) (b := 19) (byt_of hSheets_set_b0 (j := 21) rfl) (byt_of hSheets_set_b0 (j := 22) rfl) (byt_of hSheets_set_b0 (j := 23) rfl) rfl
theorem dSheets_set_24 : decode (mcc mSheets_set) 24 = .ok (.aload_n 0, 1) := o42 (byt_of hSheets_set_b0 (j := 24) rfl)
theorem dSheets_set_25 : decode (mcc mSheets_set) 25 = .ok (.getfield 9, 3) := o180 (a := 0) (b := 9) (byt_of hSheets_set_b0 (j := 25) rfl) (byt_of hSheets_set_b0 (j := 26) rfl) (byt_of hSheets_set_b0 (j := 27) rfl) rfl
theorem dSheets_set_28 : decode (mcc mSheets_set) 28 = .ok (.iload_n 1, 1) := o27 (byt_of hSheets_set_b0 (j := 28) rfl)
theorem dSheets_set_29 : decode (mcc mSheets_set) 29 = .ok (.iaload, 1) := o46 (byt_of hSheets_set_b0 (j := 29) rfl)
theorem dSheets_set_30 : decode (mcc mSheets_set) 30 = .ok (.iconst 1, 1) := o4 (byt_of hSheets_set_b0 (j := 30) rfl)
theorem dSheets_set_31 : decode (mcc mSheets_set) 31 = .ok (.if_icmp .ne 8, 3) := o160 (a := 0) (b := 8) (byt_of hSheets_set_b0 (j := 31) rfl) (byt_of hSheets_set_b0 (j := 32) rfl) (byt_of hSheets_set_b0 (j := 33) rfl) rfl
def bSheets_set_b1 : List Nat := [0, 8, 29, 147, 167, 0, 4, 29, 79, 177]
theorem hSheets_set_b1 : BL (mcc mSheets_set) 32 bSheets_set_b1 := by decide +kernel
theorem dSheets_set_34 : decode (mcc mSheets_set) 34 = .ok (.iload_n 3, 1) := o29 (byt_of hSheets_set_b1 (j := 2) rfl)
theorem dSheets_set_35 : decode (mcc mSheets_set) 35 = .ok (.i2s, 1) := o147 (byt_of hSheets_set_b1 (j := 3) rfl)
theorem dSheets_set_36 : decode (mcc mSheets_set) 36 = .ok (.goto 4, 3) := o167 (a := 0) (b := 4) (byt_of hSheets_set_b1 (j := 4) rfl) (byt_of hSheets_set_b1 (j := 5) rfl) (byt_of hSheets_set_b1 (j := 6) rfl) rfl
theorem dSheets_set_39 : decode (mcc mSheets_set) 39 = .ok (.iload_n 3, 1) := o29 (byt_of hSheets_set_b1 (j := 7) rfl)
theorem dSheets_set_40 : decode (mcc mSheets_set) 40 = .ok (.iastore, 1) := o79 (byt_of hSheets_set_b1 (j := 8) rfl)
theorem dSheets_set_41 : decode (mcc mSheets_set) 41 = .ok (.return_, 1) := o177 (byt_of hSheets_set_b1 (j := 9) rfl)
def bSheets_bitsAt_b0 : List Nat := [42, 180, 0, 18, 27, 16, 40, 104, 28, 96, 46, 62, 42, 180, 0, 9, 27, 46, 154, 0, 11, 29, 17, 0, 255, 126, 167, 0, 4, 29, 172]
theorem hSheets_bitsAt_b0 : BL (mcc mSheets_bitsAt) 0 bSheets_bitsAt_b0 := by decide +kernel
theorem dSheets_bitsAt_0 : decode (mcc mSheets_bitsAt) 0 = .ok (.aload_n 0, 1) := o42 (byt_of hSheets_bitsAt_b0 (j := 0) rfl)
theorem dSheets_bitsAt_1 : decode (mcc mSheets_bitsAt) 1 = .ok (.getfield 18, 3) := o180 (a := 0) (b := 18) (byt_of hSheets_bitsAt_b0 (j := 1) rfl) (byt_of hSheets_bitsAt_b0 (j := 2) rfl) (byt_of hSheets_bitsAt_b0 (j := 3) rfl) rfl
theorem dSheets_bitsAt_4 : decode (mcc mSheets_bitsAt) 4 = .ok (.iload_n 1, 1) := o27 (byt_of hSheets_bitsAt_b0 (j := 4) rfl)
theorem dSheets_bitsAt_5 : decode (mcc mSheets_bitsAt) 5 = .ok (.bipush 40, 2) := o16 (a := 40) (byt_of hSheets_bitsAt_b0 (j := 5) rfl) (byt_of hSheets_bitsAt_b0 (j := 6) rfl) rfl
theorem dSheets_bitsAt_7 : decode (mcc mSheets_bitsAt) 7 = .ok (.imul, 1) := o104 (byt_of hSheets_bitsAt_b0 (j := 7) rfl)
theorem dSheets_bitsAt_8 : decode (mcc mSheets_bitsAt) 8 = .ok (.iload_n 2, 1) := o28 (byt_of hSheets_bitsAt_b0 (j := 8) rfl)
theorem dSheets_bitsAt_9 : decode (mcc mSheets_bitsAt) 9 = .ok (.iadd, 1) := o96 (byt_of hSheets_bitsAt_b0 (j := 9) rfl)
theorem dSheets_bitsAt_10 : decode (mcc mSheets_bitsAt) 10 = .ok (.iaload, 1) := o46 (byt_of hSheets_bitsAt_b0 (j := 10) rfl)
theorem dSheets_bitsAt_11 : decode (mcc mSheets_bitsAt) 11 = .ok (.istore_n 3, 1) := o62 (byt_of hSheets_bitsAt_b0 (j := 11) rfl)
theorem dSheets_bitsAt_12 : decode (mcc mSheets_bitsAt) 12 = .ok (.aload_n 0, 1) := o42 (byt_of hSheets_bitsAt_b0 (j := 12) rfl)
theorem dSheets_bitsAt_13 : decode (mcc mSheets_bitsAt) 13 = .ok (.getfield 9, 3) := o180 (a := 0) (b := 9) (byt_of hSheets_bitsAt_b0 (j := 13) rfl) (byt_of hSheets_bitsAt_b0 (j := 14) rfl) (byt_of hSheets_bitsAt_b0 (j := 15) rfl) rfl
theorem dSheets_bitsAt_16 : decode (mcc mSheets_bitsAt) 16 = .ok (.iload_n 1, 1) := o27 (byt_of hSheets_bitsAt_b0 (j := 16) rfl)
theorem dSheets_bitsAt_17 : decode (mcc mSheets_bitsAt) 17 = .ok (.iaload, 1) := o46 (byt_of hSheets_bitsAt_b0 (j := 17) rfl)
theorem dSheets_bitsAt_18 : decode (mcc mSheets_bitsAt) 18 = .ok (.ifCond .ne 11, 3) := o154 (a := 0) (b := 11) (byt_of hSheets_bitsAt_b0 (j := 18) rfl) (byt_of hSheets_bitsAt_b0 (j := 19) rfl) (byt_of hSheets_bitsAt_b0 (j := 20) rfl) rfl
theorem dSheets_bitsAt_21 : decode (mcc mSheets_bitsAt) 21 = .ok (.iload_n 3, 1) := o29 (byt_of hSheets_bitsAt_b0 (j := 21) rfl)
theorem dSheets_bitsAt_22 : decode (mcc mSheets_bitsAt) 22 = .ok (.sipush 255, 3) := o17 (a := 0) (b := 255) (byt_of hSheets_bitsAt_b0 (j := 22) rfl) (byt_of hSheets_bitsAt_b0 (j := 23) rfl) (byt_of hSheets_bitsAt_b0 (j := 24) rfl) rfl
theorem dSheets_bitsAt_25 : decode (mcc mSheets_bitsAt) 25 = .ok (.iand, 1) := o126 (byt_of hSheets_bitsAt_b0 (j := 25) rfl)
theorem dSheets_bitsAt_26 : decode (mcc mSheets_bitsAt) 26 = .ok (.goto 4, 3) := o167 (a := 0) (b := 4) (byt_of hSheets_bitsAt_b0 (j := 26) rfl) (byt_of hSheets_bitsAt_b0 (j := 27) rfl) (byt_of hSheets_bitsAt_b0 (j := 28) rfl) rfl
theorem dSheets_bitsAt_29 : decode (mcc mSheets_bitsAt) 29 = .ok (.iload_n 3, 1) := o29 (byt_of hSheets_bitsAt_b0 (j := 29) rfl)
theorem dSheets_bitsAt_30 : decode (mcc mSheets_bitsAt) 30 = .ok (.ireturn, 1) := o172 (byt_of hSheets_bitsAt_b0 (j := 30) rfl)
def bTexts_init_b0 : List Nat := [42, 183, 0, 3, 42, 17, 3, 192, 188, 10, 181, 0, 9, 42, 16, 24, 188, 10, 181, 0, 15, 42, 3, 181, 0, 18, 42, 3, 181, 0, 22, 42, 16, 6, 188, 10, 181, 0]
theorem hTexts_init_b0 : BL (mcc mTexts_init) 0 bTexts_init_b0 := by decide +kernel
theorem dTexts_init_0 : decode (mcc mTexts_init) 0 = .ok (.aload_n 0, 1) := o42 (byt_of hTexts_init_b0 (j := 0) rfl)
theorem dTexts_init_1 : decode (mcc mTexts_init) 1 = .ok (.invokespecial 3, 3) := o183 (a := 0) (b := 3) (byt_of hTexts_init_b0 (j := 1) rfl) (byt_of hTexts_init_b0 (j := 2) rfl) (byt_of hTexts_init_b0 (j := 3) rfl) rfl
theorem dTexts_init_4 : decode (mcc mTexts_init) 4 = .ok (.aload_n 0, 1) := o42 (byt_of hTexts_init_b0 (j := 4) rfl)
theorem dTexts_init_5 : decode (mcc mTexts_init) 5 = .ok (.sipush 960, 3) := o17 (a := 3) (b := 192) (byt_of hTexts_init_b0 (j := 5) rfl) (byt_of hTexts_init_b0 (j := 6) rfl) (byt_of hTexts_init_b0 (j := 7) rfl) rfl
theorem dTexts_init_8 : decode (mcc mTexts_init) 8 = .ok (.newarray .int, 2) := o188 (byt_of hTexts_init_b0 (j := 8) rfl) (byt_of hTexts_init_b0 (j := 9) rfl)
theorem dTexts_init_10 : decode (mcc mTexts_init) 10 = .ok (.putfield 9, 3) := o181 (a := 0) (b := 9) (byt_of hTexts_init_b0 (j := 10) rfl) (byt_of hTexts_init_b0 (j := 11) rfl) (byt_of hTexts_init_b0 (j := 12) rfl) rfl
theorem dTexts_init_13 : decode (mcc mTexts_init) 13 = .ok (.aload_n 0, 1) := o42 (byt_of hTexts_init_b0 (j := 13) rfl)
theorem dTexts_init_14 : decode (mcc mTexts_init) 14 = .ok (.bipush 24, 2) := o16 (a := 24) (byt_of hTexts_init_b0 (j := 14) rfl) (byt_of hTexts_init_b0 (j := 15) rfl) rfl
theorem dTexts_init_16 : decode (mcc mTexts_init) 16 = .ok (.newarray .int, 2) := o188 (byt_of hTexts_init_b0 (j := 16) rfl) (byt_of hTexts_init_b0 (j := 17) rfl)
theorem dTexts_init_18 : decode (mcc mTexts_init) 18 = .ok (.putfield 15, 3) := o181 (a := 0) (b := 15) (byt_of hTexts_init_b0 (j := 18) rfl) (byt_of hTexts_init_b0 (j := 19) rfl) (byt_of hTexts_init_b0 (j := 20) rfl) rfl
theorem dTexts_init_21 : decode (mcc mTexts_init) 21 = .ok (.aload_n 0, 1) := o42 (byt_of hTexts_init_b0 (j := 21) rfl)
theorem dTexts_init_22 : decode (mcc mTexts_init) 22 = .ok (.iconst 0, 1) := o3 (byt_of hTexts_init_b0 (j := 22) rfl)
theorem dTexts_init_23 : decode (mcc mTexts_init) 23 = .ok (.putfield 18, 3) := o181 (a := 0) (b := 18) (byt_of hTexts_init_b0 (j := 23) rfl) (byt_of hTexts_init_b0 (j := 24) rfl) (byt_of hTexts_init_b0 (j := 25) rfl) rfl
theorem dTexts_init_26 : decode (mcc mTexts_init) 26 = .ok (.aload_n 0, 1) := o42 (byt_of hTexts_init_b0 (j := 26) rfl)
theorem dTexts_init_27 : decode (mcc mTexts_init) 27 = .ok (.iconst 0, 1) := o3 (byt_of hTexts_init_b0 (j := 27) rfl)
theorem dTexts_init_28 : decode (mcc mTexts_init) 28 = .ok (.putfield 22, 3) := o181 (a := 0) (b := 22) (byt_of hTexts_init_b0 (j := 28) rfl) (byt_of hTexts_init_b0 (j := 29) rfl) (byt_of hTexts_init_b0 (j := 30) rfl) rfl
theorem dTexts_init_31 : decode (mcc mTexts_init) 31 = .ok (.aload_n 0, 1) := o42 (byt_of hTexts_init_b0 (j := 31) rfl)
def bTexts_init_b1 : List Nat := [16, 6, 188, 10, 181, 0, 25, 42, 17, 0, 161, 188, 10, 181, 0, 28, 177]
theorem hTexts_init_b1 : BL (mcc mTexts_init) 32 bTexts_init_b1 := by decide +kernel
theorem dTexts_init_32 : decode (mcc mTexts_init) 32 = .ok (.bipush 6, 2) := o16 (a := 6) (byt_of hTexts_init_b1 (j := 0) rfl) (byt_of hTexts_init_b1 (j := 1) rfl) rfl
theorem dTexts_init_34 : decode (mcc mTexts_init) 34 = .ok (.newarray .int, 2) := o188 (byt_of hTexts_init_b1 (j := 2) rfl) (byt_of hTexts_init_b1 (j := 3) rfl)
theorem dTexts_init_36 : decode (mcc mTexts_init) 36 = .ok (.putfield 25, 3) := o181 (a := 0) (b := 25) (byt_of hTexts_init_b1 (j := 4) rfl) (byt_of hTexts_init_b1 (j := 5) rfl) (byt_of hTexts_init_b1 (j := 6) rfl) rfl
theorem dTexts_init_39 : decode (mcc mTexts_init) 39 = .ok (.aload_n 0, 1) := o42 (byt_of hTexts_init_b1 (j := 7) rfl)
theorem dTexts_init_40 : decode (mcc mTexts_init) 40 = .ok (.sipush 161, 3) := o17 (a := 0) (b := 161) (byt_of hTexts_init_b1 (j := 8) rfl) (byt_of hTexts_init_b1 (j := 9) rfl) (byt_of hTexts_init_b1 (j := 10) rfl) rfl
theorem dTexts_init_43 : decode (mcc mTexts_init) 43 = .ok (.newarray .int, 2) := o188 (byt_of hTexts_init_b1 (j := 11) rfl) (byt_of hTexts_init_b1 (j := 12) rfl)
theorem dTexts_init_45 : decode (mcc mTexts_init) 45 = .ok (.putfield 28, 3) := o181 (a := 0) (b := 28) (byt_of hTexts_init_b1 (j := 13) rfl) (byt_of hTexts_init_b1 (j := 14) rfl) (byt_of hTexts_init_b1 (j := 15) rfl) rfl
theorem dTexts_init_48 : decode (mcc mTexts_init) 48 = .ok (.return_, 1) := o177 (byt_of hTexts_init_b1 (j := 16) rfl)
def bTexts_add_b0 : List Nat := [42, 180, 0, 18, 61, 43, 180, 0, 31, 3, 42, 180, 0, 9, 28, 17, 0, 160, 104, 17, 0, 160, 184, 0, 34, 43, 180, 0, 40, 3, 42, 180, 0, 15, 28, 7, 104, 7]
theorem hTexts_add_b0 : BL (mcc mTexts_add) 0 bTexts_add_b0 := by decide +kernel
theorem dTexts_add_0 : decode (mcc mTexts_add) 0 = .ok (.aload_n 0, 1) := o42 (byt_of hTexts_add_b0 (j := 0) rfl)
theorem dTexts_add_1 : decode (mcc mTexts_add) 1 = .ok (.getfield 18, 3) := o180 (a := 0) (b := 18) (byt_of hTexts_add_b0 (j := 1) rfl) (byt_of hTexts_add_b0 (j := 2) rfl) (byt_of hTexts_add_b0 (j := 3) rfl) rfl
theorem dTexts_add_4 : decode (mcc mTexts_add) 4 = .ok (.istore_n 2, 1) := o61 (byt_of hTexts_add_b0 (j := 4) rfl)
theorem dTexts_add_5 : decode (mcc mTexts_add) 5 = .ok (.aload_n 1, 1) := o43 (byt_of hTexts_add_b0 (j := 5) rfl)
theorem dTexts_add_6 : decode (mcc mTexts_add) 6 = .ok (.getfield 31, 3) := o180 (a := 0) (b := 31) (byt_of hTexts_add_b0 (j := 6) rfl) (byt_of hTexts_add_b0 (j := 7) rfl) (byt_of hTexts_add_b0 (j := 8) rfl) rfl
theorem dTexts_add_9 : decode (mcc mTexts_add) 9 = .ok (.iconst 0, 1) := o3 (byt_of hTexts_add_b0 (j := 9) rfl)
theorem dTexts_add_10 : decode (mcc mTexts_add) 10 = .ok (.aload_n 0, 1) := o42 (byt_of hTexts_add_b0 (j := 10) rfl)
theorem dTexts_add_11 : decode (mcc mTexts_add) 11 = .ok (.getfield 9, 3) := o180 (a := 0) (b := 9) (byt_of hTexts_add_b0 (j := 11) rfl) (byt_of hTexts_add_b0 (j := 12) rfl) (byt_of hTexts_add_b0 (j := 13) rfl) rfl
theorem dTexts_add_14 : decode (mcc mTexts_add) 14 = .ok (.iload_n 2, 1) := o28 (byt_of hTexts_add_b0 (j := 14) rfl)
theorem dTexts_add_15 : decode (mcc mTexts_add) 15 = .ok (.sipush 160, 3) := o17 (a := 0) (b := 160) (byt_of hTexts_add_b0 (j := 15) rfl) (byt_of hTexts_add_b0 (j := 16) rfl) (byt_of hTexts_add_b0 (j := 17) rfl) rfl
theorem dTexts_add_18 : decode (mcc mTexts_add) 18 = .ok (.imul, 1) := o104 (byt_of hTexts_add_b0 (j := 18) rfl)
theorem dTexts_add_19 : decode (mcc mTexts_add) 19 = .ok (.sipush 160, 3) := o17 (a := 0) (b := 160) (byt_of hTexts_add_b0 (j := 19) rfl) (byt_of hTexts_add_b0 (j := 20) rfl) (byt_of hTexts_add_b0 (j := 21) rfl) rfl
theorem dTexts_add_22 : decode (mcc mTexts_add) 22 = .ok (.invokestatic 34, 3) := o184 (a := 0) (b := 34) (byt_of hTexts_add_b0 (j := 22) rfl) (byt_of hTexts_add_b0 (j := 23) rfl) (byt_of hTexts_add_b0 (j := 24) rfl) rfl
theorem dTexts_add_25 : decode (mcc mTexts_add) 25 = .ok (.aload_n 1, 1) := o43 (byt_of hTexts_add_b0 (j := 25) rfl)
theorem dTexts_add_26 : decode (mcc mTexts_add) 26 = .ok (.getfield 40, 3) := o180 (a := 0) (b := 40) (byt_of hTexts_add_b0 (j := 26) rfl) (byt_of hTexts_add_b0 (j := 27) rfl) (byt_of hTexts_add_b0 (j := 28) rfl) rfl
theorem dTexts_add_29 : decode (mcc mTexts_add) 29 = .ok (.iconst 0, 1) := o3 (byt_of hTexts_add_b0 (j := 29) rfl)
theorem dTexts_add_30 : decode (mcc mTexts_add) 30 = .ok (.aload_n 0, 1) := o42 (byt_of hTexts_add_b0 (j := 30) rfl)
theorem dTexts_add_31 : decode (mcc mTexts_add) 31 = .ok (.getfield 15, 3) := o180 (a := 0) (b := 15) (byt_of hTexts_add_b0 (j := 31) rfl) (byt_of hTexts_add_b0 (j := 32) rfl) (byt_of hTexts_add_b0 (j := 33) rfl) rfl
def bTexts_add_b1 : List Nat := [0, 15, 28, 7, 104, 7, 184, 0, 34, 42, 28, 4, 96, 181, 0, 18, 28, 172]
theorem hTexts_add_b1 : BL (mcc mTexts_add) 32 bTexts_add_b1 := by decide +kernel
theorem dTexts_add_34 : decode (mcc mTexts_add) 34 = .ok (.iload_n 2, 1) := o28 (byt_of hTexts_add_b1 (j := 2) rfl)
theorem dTexts_add_35 : decode (mcc mTexts_add) 35 = .ok (.iconst 4, 1) := o7 (byt_of hTexts_add_b1 (j := 3) rfl)
theorem dTexts_add_36 : decode (mcc mTexts_add) 36 = .ok (.imul, 1) := o104 (byt_of hTexts_add_b1 (j := 4) rfl)
theorem dTexts_add_37 : decode (mcc mTexts_add) 37 = .ok (.iconst 4, 1) := o7 (byt_of hTexts_add_b1 (j := 5) rfl)
theorem dTexts_add_38 : decode (mcc mTexts_add) 38 = .ok (.invokestatic 34, 3) := o184 (a := 0) (b := 34) (byt_of hTexts_add_b1 (j := 6) rfl) (byt_of hTexts_add_b1 (j := 7) rfl) (byt_of hTexts_add_b1 (j := 8) rfl) rfl
theorem dTexts_add_41 : decode (mcc mTexts_add) 41 = .ok (.aload_n 0, 1) := o42 (byt_of hTexts_add_b1 (j := 9) rfl)
theorem dTexts_add_42 : decode (mcc mTexts_add) 42 = .ok (.iload_n 2, 1) := o28 (byt_of hTexts_add_b1 (j := 10) rfl)
theorem dTexts_add_43 : decode (mcc mTexts_add) 43 = .ok (.iconst 1, 1) := o4 (byt_of hTexts_add_b1 (j := 11) rfl)
theorem dTexts_add_44 : decode (mcc mTexts_add) 44 = .ok (.iadd, 1) := o96 (byt_of hTexts_add_b1 (j := 12) rfl)
theorem dTexts_add_45 : decode (mcc mTexts_add) 45 = .ok (.putfield 18, 3) := o181 (a := 0) (b := 18) (byt_of hTexts_add_b1 (j := 13) rfl) (byt_of hTexts_add_b1 (j := 14) rfl) (byt_of hTexts_add_b1 (j := 15) rfl) rfl
theorem dTexts_add_48 : decode (mcc mTexts_add) 48 = .ok (.iload_n 2, 1) := o28 (byt_of hTexts_add_b1 (j := 16) rfl)
theorem dTexts_add_49 : decode (mcc mTexts_add) 49 = .ok (.ireturn, 1) := o172 (byt_of hTexts_add_b1 (j := 17) rfl)
def bTexts_giveNothing_b0 : List Nat := [3, 60, 27, 16, 6, 162, 0, 16, 42, 180, 0, 25, 27, 3, 79, 132, 1, 1, 167, 255, 240, 177]
theorem hTexts_giveNothing_b0 : BL (mcc mTexts_giveNothing) 0 bTexts_giveNothing_b0 := by decide +kernel
theorem dTexts_giveNothing_0 : decode (mcc mTexts_giveNothing) 0 = .ok (.iconst 0, 1) := o3 (byt_of hTexts_giveNothing_b0 (j := 0) rfl)
theorem dTexts_giveNothing_1 : decode (mcc mTexts_giveNothing) 1 = .ok (.istore_n 1, 1) := o60 (byt_of hTexts_giveNothing_b0 (j := 1) rfl)
theorem dTexts_giveNothing_2 : decode (mcc mTexts_giveNothing) 2 = .ok (.iload_n 1, 1) := o27 (byt_of hTexts_giveNothing_b0 (j := 2) rfl)
theorem dTexts_giveNothing_3 : decode (mcc mTexts_giveNothing) 3 = .ok (.bipush 6, 2) := o16 (a := 6) (byt_of hTexts_giveNothing_b0 (j := 3) rfl) (byt_of hTexts_giveNothing_b0 (j := 4) rfl) rfl
theorem dTexts_giveNothing_5 : decode (mcc mTexts_giveNothing) 5 = .ok (.if_icmp .ge 16, 3) := o162 (a := 0) (b := 16) (byt_of hTexts_giveNothing_b0 (j := 5) rfl) (byt_of hTexts_giveNothing_b0 (j := 6) rfl) (byt_of hTexts_giveNothing_b0 (j := 7) rfl) rfl
theorem dTexts_giveNothing_8 : decode (mcc mTexts_giveNothing) 8 = .ok (.aload_n 0, 1) := o42 (byt_of hTexts_giveNothing_b0 (j := 8) rfl)
theorem dTexts_giveNothing_9 : decode (mcc mTexts_giveNothing) 9 = .ok (.getfield 25, 3) := o180 (a := 0) (b := 25) (byt_of hTexts_giveNothing_b0 (j := 9) rfl) (byt_of hTexts_giveNothing_b0 (j := 10) rfl) (byt_of hTexts_giveNothing_b0 (j := 11) rfl) rfl
theorem dTexts_giveNothing_12 : decode (mcc mTexts_giveNothing) 12 = .ok (.iload_n 1, 1) := o27 (byt_of hTexts_giveNothing_b0 (j := 12) rfl)
theorem dTexts_giveNothing_13 : decode (mcc mTexts_giveNothing) 13 = .ok (.iconst 0, 1) := o3 (byt_of hTexts_giveNothing_b0 (j := 13) rfl)
theorem dTexts_giveNothing_14 : decode (mcc mTexts_giveNothing) 14 = .ok (.iastore, 1) := o79 (byt_of hTexts_giveNothing_b0 (j := 14) rfl)
theorem dTexts_giveNothing_15 : decode (mcc mTexts_giveNothing) 15 = .ok (.iinc 1 1, 3) := o132 (a := 1) (b := 1) (byt_of hTexts_giveNothing_b0 (j := 15) rfl) (byt_of hTexts_giveNothing_b0 (j := 16) rfl) (byt_of hTexts_giveNothing_b0 (j := 17) rfl) rfl
theorem dTexts_giveNothing_18 : decode (mcc mTexts_giveNothing) 18 = .ok (.goto (-16), 3) := o167 (a := 255) (b := 240) (byt_of hTexts_giveNothing_b0 (j := 18) rfl) (byt_of hTexts_giveNothing_b0 (j := 19) rfl) (byt_of hTexts_giveNothing_b0 (j := 20) rfl) rfl
theorem dTexts_giveNothing_21 : decode (mcc mTexts_giveNothing) 21 = .ok (.return_, 1) := o177 (byt_of hTexts_giveNothing_b0 (j := 21) rfl)
def bTexts_value_b0 : List Nat := [27, 17, 0, 160, 104, 42, 180, 0, 15, 27, 7, 104, 28, 96, 46, 96, 62, 27, 17, 0, 160, 104, 42, 180, 0, 15, 27, 7, 104, 28, 96, 4, 96, 46, 96, 54, 4, 3]
theorem hTexts_value_b0 : BL (mcc mTexts_value) 0 bTexts_value_b0 := by decide +kernel
theorem dTexts_value_0 : decode (mcc mTexts_value) 0 = .ok (.iload_n 1, 1) := o27 (byt_of hTexts_value_b0 (j := 0) rfl)
theorem dTexts_value_1 : decode (mcc mTexts_value) 1 = .ok (.sipush 160, 3) := o17 (a := 0) (b := 160) (byt_of hTexts_value_b0 (j := 1) rfl) (byt_of hTexts_value_b0 (j := 2) rfl) (byt_of hTexts_value_b0 (j := 3) rfl) rfl
theorem dTexts_value_4 : decode (mcc mTexts_value) 4 = .ok (.imul, 1) := o104 (byt_of hTexts_value_b0 (j := 4) rfl)
theorem dTexts_value_5 : decode (mcc mTexts_value) 5 = .ok (.aload_n 0, 1) := o42 (byt_of hTexts_value_b0 (j := 5) rfl)
theorem dTexts_value_6 : decode (mcc mTexts_value) 6 = .ok (.getfield 15, 3) := o180 (a := 0) (b := 15) (byt_of hTexts_value_b0 (j := 6) rfl) (byt_of hTexts_value_b0 (j := 7) rfl) (byt_of hTexts_value_b0 (j := 8) rfl) rfl
theorem dTexts_value_9 : decode (mcc mTexts_value) 9 = .ok (.iload_n 1, 1) := o27 (byt_of hTexts_value_b0 (j := 9) rfl)
theorem dTexts_value_10 : decode (mcc mTexts_value) 10 = .ok (.iconst 4, 1) := o7 (byt_of hTexts_value_b0 (j := 10) rfl)
theorem dTexts_value_11 : decode (mcc mTexts_value) 11 = .ok (.imul, 1) := o104 (byt_of hTexts_value_b0 (j := 11) rfl)
theorem dTexts_value_12 : decode (mcc mTexts_value) 12 = .ok (.iload_n 2, 1) := o28 (byt_of hTexts_value_b0 (j := 12) rfl)
theorem dTexts_value_13 : decode (mcc mTexts_value) 13 = .ok (.iadd, 1) := o96 (byt_of hTexts_value_b0 (j := 13) rfl)
theorem dTexts_value_14 : decode (mcc mTexts_value) 14 = .ok (.iaload, 1) := o46 (byt_of hTexts_value_b0 (j := 14) rfl)
theorem dTexts_value_15 : decode (mcc mTexts_value) 15 = .ok (.iadd, 1) := o96 (byt_of hTexts_value_b0 (j := 15) rfl)
theorem dTexts_value_16 : decode (mcc mTexts_value) 16 = .ok (.istore_n 3, 1) := o62 (byt_of hTexts_value_b0 (j := 16) rfl)
theorem dTexts_value_17 : decode (mcc mTexts_value) 17 = .ok (.iload_n 1, 1) := o27 (byt_of hTexts_value_b0 (j := 17) rfl)
theorem dTexts_value_18 : decode (mcc mTexts_value) 18 = .ok (.sipush 160, 3) := o17 (a := 0) (b := 160) (byt_of hTexts_value_b0 (j := 18) rfl) (byt_of hTexts_value_b0 (j := 19) rfl) (byt_of hTexts_value_b0 (j := 20) rfl) rfl
theorem dTexts_value_21 : decode (mcc mTexts_value) 21 = .ok (.imul, 1) := o104 (byt_of hTexts_value_b0 (j := 21) rfl)
theorem dTexts_value_22 : decode (mcc mTexts_value) 22 = .ok (.aload_n 0, 1) := o42 (byt_of hTexts_value_b0 (j := 22) rfl)
theorem dTexts_value_23 : decode (mcc mTexts_value) 23 = .ok (.getfield 15, 3) := o180 (a := 0) (b := 15) (byt_of hTexts_value_b0 (j := 23) rfl) (byt_of hTexts_value_b0 (j := 24) rfl) (byt_of hTexts_value_b0 (j := 25) rfl) rfl
theorem dTexts_value_26 : decode (mcc mTexts_value) 26 = .ok (.iload_n 1, 1) := o27 (byt_of hTexts_value_b0 (j := 26) rfl)
theorem dTexts_value_27 : decode (mcc mTexts_value) 27 = .ok (.iconst 4, 1) := o7 (byt_of hTexts_value_b0 (j := 27) rfl)
theorem dTexts_value_28 : decode (mcc mTexts_value) 28 = .ok (.imul, 1) := o104 (byt_of hTexts_value_b0 (j := 28) rfl)
theorem dTexts_value_29 : decode (mcc mTexts_value) 29 = .ok (.iload_n 2, 1) := o28 (byt_of hTexts_value_b0 (j := 29) rfl)
theorem dTexts_value_30 : decode (mcc mTexts_value) 30 = .ok (.iadd, 1) := o96 (byt_of hTexts_value_b0 (j := 30) rfl)
theorem dTexts_value_31 : decode (mcc mTexts_value) 31 = .ok (.iconst 1, 1) := o4 (byt_of hTexts_value_b0 (j := 31) rfl)
def bTexts_value_b1 : List Nat := [96, 46, 96, 54, 4, 3, 54, 5, 29, 54, 6, 21, 6, 21, 4, 162, 0, 140, 42, 180, 0, 9, 21, 6, 46, 54, 7, 21, 7, 17, 78, 32, 162, 0, 40, 42, 180, 0]
theorem hTexts_value_b1 : BL (mcc mTexts_value) 32 bTexts_value_b1 := by decide +kernel
theorem dTexts_value_32 : decode (mcc mTexts_value) 32 = .ok (.iadd, 1) := o96 (byt_of hTexts_value_b1 (j := 0) rfl)
theorem dTexts_value_33 : decode (mcc mTexts_value) 33 = .ok (.iaload, 1) := o46 (byt_of hTexts_value_b1 (j := 1) rfl)
theorem dTexts_value_34 : decode (mcc mTexts_value) 34 = .ok (.iadd, 1) := o96 (byt_of hTexts_value_b1 (j := 2) rfl)
theorem dTexts_value_35 : decode (mcc mTexts_value) 35 = .ok (.istore 4, 2) := o54 (a := 4) (byt_of hTexts_value_b1 (j := 3) rfl) (byt_of hTexts_value_b1 (j := 4) rfl)
theorem dTexts_value_37 : decode (mcc mTexts_value) 37 = .ok (.iconst 0, 1) := o3 (byt_of hTexts_value_b1 (j := 5) rfl)
theorem dTexts_value_38 : decode (mcc mTexts_value) 38 = .ok (.istore 5, 2) := o54 (a := 5) (byt_of hTexts_value_b1 (j := 6) rfl) (byt_of hTexts_value_b1 (j := 7) rfl)
theorem dTexts_value_40 : decode (mcc mTexts_value) 40 = .ok (.iload_n 3, 1) := o29 (byt_of hTexts_value_b1 (j := 8) rfl)
theorem dTexts_value_41 : decode (mcc mTexts_value) 41 = .ok (.istore 6, 2) := o54 (a := 6) (byt_of hTexts_value_b1 (j := 9) rfl) (byt_of hTexts_value_b1 (j := 10) rfl)
theorem dTexts_value_43 : decode (mcc mTexts_value) 43 = .ok (.iload 6, 2) := o21 (a := 6) (byt_of hTexts_value_b1 (j := 11) rfl) (byt_of hTexts_value_b1 (j := 12) rfl)
theorem dTexts_value_45 : decode (mcc mTexts_value) 45 = .ok (.iload 4, 2) := o21 (a := 4) (byt_of hTexts_value_b1 (j := 13) rfl) (byt_of hTexts_value_b1 (j := 14) rfl)
theorem dTexts_value_47 : decode (mcc mTexts_value) 47 = .ok (.if_icmp .ge 140, 3) := o162 (a := 0) (b := 140) (byt_of hTexts_value_b1 (j := 15) rfl) (byt_of hTexts_value_b1 (j := 16) rfl) (byt_of hTexts_value_b1 (j := 17) rfl) rfl
theorem dTexts_value_50 : decode (mcc mTexts_value) 50 = .ok (.aload_n 0, 1) := o42 (byt_of hTexts_value_b1 (j := 18) rfl)
theorem dTexts_value_51 : decode (mcc mTexts_value) 51 = .ok (.getfield 9, 3) := o180 (a := 0) (b := 9) (byt_of hTexts_value_b1 (j := 19) rfl) (byt_of hTexts_value_b1 (j := 20) rfl) (byt_of hTexts_value_b1 (j := 21) rfl) rfl
theorem dTexts_value_54 : decode (mcc mTexts_value) 54 = .ok (.iload 6, 2) := o21 (a := 6) (byt_of hTexts_value_b1 (j := 22) rfl) (byt_of hTexts_value_b1 (j := 23) rfl)
theorem dTexts_value_56 : decode (mcc mTexts_value) 56 = .ok (.iaload, 1) := o46 (byt_of hTexts_value_b1 (j := 24) rfl)
theorem dTexts_value_57 : decode (mcc mTexts_value) 57 = .ok (.istore 7, 2) := o54 (a := 7) (byt_of hTexts_value_b1 (j := 25) rfl) (byt_of hTexts_value_b1 (j := 26) rfl)
theorem dTexts_value_59 : decode (mcc mTexts_value) 59 = .ok (.iload 7, 2) := o21 (a := 7) (byt_of hTexts_value_b1 (j := 27) rfl) (byt_of hTexts_value_b1 (j := 28) rfl)
theorem dTexts_value_61 : decode (mcc mTexts_value) 61 = .ok (.sipush 20000, 3) := o17 (a := 78) (b := 32) (byt_of hTexts_value_b1 (j := 29) rfl) (byt_of hTexts_value_b1 (j := 30) rfl) (byt_of hTexts_value_b1 (j := 31) rfl) rfl
def bTexts_value_b2 : List Nat := [162, 0, 40, 42, 180, 0, 28, 21, 5, 21, 7, 17, 39, 16, 162, 0, 8, 21, 7, 167, 0, 14, 42, 180, 0, 25, 21, 7, 17, 39, 16, 100, 46, 79, 132, 5, 1, 167]
theorem hTexts_value_b2 : BL (mcc mTexts_value) 64 bTexts_value_b2 := by decide +kernel
theorem dTexts_value_64 : decode (mcc mTexts_value) 64 = .ok (.if_icmp .ge 40, 3) := o162 (a := 0) (b := 40) (byt_of hTexts_value_b2 (j := 0) rfl) (byt_of hTexts_value_b2 (j := 1) rfl) (byt_of hTexts_value_b2 (j := 2) rfl) rfl
theorem dTexts_value_67 : decode (mcc mTexts_value) 67 = .ok (.aload_n 0, 1) := o42 (byt_of hTexts_value_b2 (j := 3) rfl)
theorem dTexts_value_68 : decode (mcc mTexts_value) 68 = .ok (.getfield 28, 3) := o180 (a := 0) (b := 28) (byt_of hTexts_value_b2 (j := 4) rfl) (byt_of hTexts_value_b2 (j := 5) rfl) (byt_of hTexts_value_b2 (j := 6) rfl) rfl
theorem dTexts_value_71 : decode (mcc mTexts_value) 71 = .ok (.iload 5, 2) := o21 (a := 5) (byt_of hTexts_value_b2 (j := 7) rfl) (byt_of hTexts_value_b2 (j := 8) rfl)
theorem dTexts_value_73 : decode (mcc mTexts_value) 73 = .ok (.iload 7, 2) := o21 (a := 7) (byt_of hTexts_value_b2 (j := 9) rfl) (byt_of hTexts_value_b2 (j := 10) rfl)
theorem dTexts_value_75 : decode (mcc mTexts_value) 75 = .ok (.sipush 10000, 3) := o17 (a := 39) (b := 16) (byt_of hTexts_value_b2 (j := 11) rfl) (byt_of hTexts_value_b2 (j := 12) rfl) (byt_of hTexts_value_b2 (j := 13) rfl) rfl
theorem dTexts_value_78 : decode (mcc mTexts_value) 78 = .ok (.if_icmp .ge 8, 3) := o162 (a := 0) (b := 8) (byt_of hTexts_value_b2 (j := 14) rfl) (byt_of hTexts_value_b2 (j := 15) rfl) (byt_of hTexts_value_b2 (j := 16) rfl) rfl
theorem dTexts_value_81 : decode (mcc mTexts_value) 81 = .ok (.iload 7, 2) := o21 (a := 7) (byt_of hTexts_value_b2 (j := 17) rfl) (byt_of hTexts_value_b2 (j := 18) rfl)
theorem dTexts_value_83 : decode (mcc mTexts_value) 83 = .ok (.goto 14, 3) := o167 (a := 0) (b := 14) (byt_of hTexts_value_b2 (j := 19) rfl) (byt_of hTexts_value_b2 (j := 20) rfl) (byt_of hTexts_value_b2 (j := 21) rfl) rfl
theorem dTexts_value_86 : decode (mcc mTexts_value) 86 = .ok (.aload_n 0, 1) := o42 (byt_of hTexts_value_b2 (j := 22) rfl)
theorem dTexts_value_87 : decode (mcc mTexts_value) 87 = .ok (.getfield 25, 3) := o180 (a := 0) (b := 25) (byt_of hTexts_value_b2 (j := 23) rfl) (byt_of hTexts_value_b2 (j := 24) rfl) (byt_of hTexts_value_b2 (j := 25) rfl) rfl
theorem dTexts_value_90 : decode (mcc mTexts_value) 90 = .ok (.iload 7, 2) := o21 (a := 7) (byt_of hTexts_value_b2 (j := 26) rfl) (byt_of hTexts_value_b2 (j := 27) rfl)
theorem dTexts_value_92 : decode (mcc mTexts_value) 92 = .ok (.sipush 10000, 3) := o17 (a := 39) (b := 16) (byt_of hTexts_value_b2 (j := 28) rfl) (byt_of hTexts_value_b2 (j := 29) rfl) (byt_of hTexts_value_b2 (j := 30) rfl) rfl
theorem dTexts_value_95 : decode (mcc mTexts_value) 95 = .ok (.isub, 1) := o100 (byt_of hTexts_value_b2 (j := 31) rfl)
def bTexts_value_b3 : List Nat := [46, 79, 132, 5, 1, 167, 0, 80, 21, 7, 17, 78, 42, 159, 0, 11, 21, 7, 17, 78, 41, 160, 0, 7, 4, 167, 0, 4, 3, 54, 8, 4, 21, 8, 153, 0, 8, 21]
theorem hTexts_value_b3 : BL (mcc mTexts_value) 96 bTexts_value_b3 := by decide +kernel
theorem dTexts_value_96 : decode (mcc mTexts_value) 96 = .ok (.iaload, 1) := o46 (byt_of hTexts_value_b3 (j := 0) rfl)
theorem dTexts_value_97 : decode (mcc mTexts_value) 97 = .ok (.iastore, 1) := o79 (byt_of hTexts_value_b3 (j := 1) rfl)
theorem dTexts_value_98 : decode (mcc mTexts_value) 98 = .ok (.iinc 5 1, 3) := o132 (a := 5) (b := 1) (byt_of hTexts_value_b3 (j := 2) rfl) (byt_of hTexts_value_b3 (j := 3) rfl) (byt_of hTexts_value_b3 (j := 4) rfl) rfl
theorem dTexts_value_101 : decode (mcc mTexts_value) 101 = .ok (.goto 80, 3) := o167 (a := 0) (b := 80) (byt_of hTexts_value_b3 (j := 5) rfl) (byt_of hTexts_value_b3 (j := 6) rfl) (byt_of hTexts_value_b3 (j := 7) rfl) rfl
theorem dTexts_value_104 : decode (mcc mTexts_value) 104 = .ok (.iload 7, 2) := o21 (a := 7) (byt_of hTexts_value_b3 (j := 8) rfl) (byt_of hTexts_value_b3 (j := 9) rfl)
theorem dTexts_value_106 : decode (mcc mTexts_value) 106 = .ok (.sipush 20010, 3) := o17 (a := 78) (b := 42) (byt_of hTexts_value_b3 (j := 10) rfl) (byt_of hTexts_value_b3 (j := 11) rfl) (byt_of hTexts_value_b3 (j := 12) rfl) rfl
theorem dTexts_value_109 : decode (mcc mTexts_value) 109 = .ok (.if_icmp .eq 11, 3) := o159 (a := 0) (b := 11) (byt_of hTexts_value_b3 (j := 13) rfl) (byt_of hTexts_value_b3 (j := 14) rfl) (byt_of hTexts_value_b3 (j := 15) rfl) rfl
theorem dTexts_value_112 : decode (mcc mTexts_value) 112 = .ok (.iload 7, 2) := o21 (a := 7) (byt_of hTexts_value_b3 (j := 16) rfl) (byt_of hTexts_value_b3 (j := 17) rfl)
theorem dTexts_value_114 : decode (mcc mTexts_value) 114 = .ok (.sipush 20009, 3) := o17 (a := 78) (b := 41) (byt_of hTexts_value_b3 (j := 18) rfl) (byt_of hTexts_value_b3 (j := 19) rfl) (byt_of hTexts_value_b3 (j := 20) rfl) rfl
theorem dTexts_value_117 : decode (mcc mTexts_value) 117 = .ok (.if_icmp .ne 7, 3) := o160 (a := 0) (b := 7) (byt_of hTexts_value_b3 (j := 21) rfl) (byt_of hTexts_value_b3 (j := 22) rfl) (byt_of hTexts_value_b3 (j := 23) rfl) rfl
theorem dTexts_value_120 : decode (mcc mTexts_value) 120 = .ok (.iconst 1, 1) := o4 (byt_of hTexts_value_b3 (j := 24) rfl)
theorem dTexts_value_121 : decode (mcc mTexts_value) 121 = .ok (.goto 4, 3) := o167 (a := 0) (b := 4) (byt_of hTexts_value_b3 (j := 25) rfl) (byt_of hTexts_value_b3 (j := 26) rfl) (byt_of hTexts_value_b3 (j := 27) rfl) rfl
theorem dTexts_value_124 : decode (mcc mTexts_value) 124 = .ok (.iconst 0, 1) := o3 (byt_of hTexts_value_b3 (j := 28) rfl)
theorem dTexts_value_125 : decode (mcc mTexts_value) 125 = .ok (.istore 8, 2) := o54 (a := 8) (byt_of hTexts_value_b3 (j := 29) rfl) (byt_of hTexts_value_b3 (j := 30) rfl)
theorem dTexts_value_127 : decode (mcc mTexts_value) 127 = .ok (.iconst 1, 1) := o4 (byt_of hTexts_value_b3 (j := 31) rfl)
def bTexts_value_b4 : List Nat := [21, 8, 153, 0, 8, 21, 5, 167, 0, 7, 21, 5, 4, 100, 184, 0, 41, 54, 5, 42, 180, 0, 28, 21, 5, 4, 100, 21, 7, 17, 78, 32, 100, 42, 180, 0, 28, 21]
theorem hTexts_value_b4 : BL (mcc mTexts_value) 128 bTexts_value_b4 := by decide +kernel
theorem dTexts_value_128 : decode (mcc mTexts_value) 128 = .ok (.iload 8, 2) := o21 (a := 8) (byt_of hTexts_value_b4 (j := 0) rfl) (byt_of hTexts_value_b4 (j := 1) rfl)
theorem dTexts_value_130 : decode (mcc mTexts_value) 130 = .ok (.ifCond .eq 8, 3) := o153 (a := 0) (b := 8) (byt_of hTexts_value_b4 (j := 2) rfl) (byt_of hTexts_value_b4 (j := 3) rfl) (byt_of hTexts_value_b4 (j := 4) rfl) rfl
theorem dTexts_value_133 : decode (mcc mTexts_value) 133 = .ok (.iload 5, 2) := o21 (a := 5) (byt_of hTexts_value_b4 (j := 5) rfl) (byt_of hTexts_value_b4 (j := 6) rfl)
theorem dTexts_value_135 : decode (mcc mTexts_value) 135 = .ok (.goto 7, 3) := o167 (a := 0) (b := 7) (byt_of hTexts_value_b4 (j := 7) rfl) (byt_of hTexts_value_b4 (j := 8) rfl) (byt_of hTexts_value_b4 (j := 9) rfl) rfl
theorem dTexts_value_138 : decode (mcc mTexts_value) 138 = .ok (.iload 5, 2) := o21 (a := 5) (byt_of hTexts_value_b4 (j := 10) rfl) (byt_of hTexts_value_b4 (j := 11) rfl)
theorem dTexts_value_140 : decode (mcc mTexts_value) 140 = .ok (.iconst 1, 1) := o4 (byt_of hTexts_value_b4 (j := 12) rfl)
theorem dTexts_value_141 : decode (mcc mTexts_value) 141 = .ok (.isub, 1) := o100 (byt_of hTexts_value_b4 (j := 13) rfl)
theorem dTexts_value_142 : decode (mcc mTexts_value) 142 = .ok (.invokestatic 41, 3) := o184 (a := 0) (b := 41) (byt_of hTexts_value_b4 (j := 14) rfl) (byt_of hTexts_value_b4 (j := 15) rfl) (byt_of hTexts_value_b4 (j := 16) rfl) rfl
theorem dTexts_value_145 : decode (mcc mTexts_value) 145 = .ok (.istore 5, 2) := o54 (a := 5) (byt_of hTexts_value_b4 (j := 17) rfl) (byt_of hTexts_value_b4 (j := 18) rfl)
theorem dTexts_value_147 : decode (mcc mTexts_value) 147 = .ok (.aload_n 0, 1) := o42 (byt_of hTexts_value_b4 (j := 19) rfl)
theorem dTexts_value_148 : decode (mcc mTexts_value) 148 = .ok (.getfield 28, 3) := o180 (a := 0) (b := 28) (byt_of hTexts_value_b4 (j := 20) rfl) (byt_of hTexts_value_b4 (j := 21) rfl) (byt_of hTexts_value_b4 (j := 22) rfl) rfl
theorem dTexts_value_151 : decode (mcc mTexts_value) 151 = .ok (.iload 5, 2) := o21 (a := 5) (byt_of hTexts_value_b4 (j := 23) rfl) (byt_of hTexts_value_b4 (j := 24) rfl)
theorem dTexts_value_153 : decode (mcc mTexts_value) 153 = .ok (.iconst 1, 1) := o4 (byt_of hTexts_value_b4 (j := 25) rfl)
theorem dTexts_value_154 : decode (mcc mTexts_value) 154 = .ok (.isub, 1) := o100 (byt_of hTexts_value_b4 (j := 26) rfl)
theorem dTexts_value_155 : decode (mcc mTexts_value) 155 = .ok (.iload 7, 2) := o21 (a := 7) (byt_of hTexts_value_b4 (j := 27) rfl) (byt_of hTexts_value_b4 (j := 28) rfl)
theorem dTexts_value_157 : decode (mcc mTexts_value) 157 = .ok (.sipush 20000, 3) := o17 (a := 78) (b := 32) (byt_of hTexts_value_b4 (j := 29) rfl) (byt_of hTexts_value_b4 (j := 30) rfl) (byt_of hTexts_value_b4 (j := 31) rfl) rfl
def bTexts_value_b5 : List Nat := [100, 42, 180, 0, 28, 21, 5, 4, 100, 46, 42, 180, 0, 28, 21, 5, 46, 184, 0, 47, 79, 132, 6, 1, 167, 255, 115, 42, 180, 0, 28, 3, 46, 172]
theorem hTexts_value_b5 : BL (mcc mTexts_value) 160 bTexts_value_b5 := by decide +kernel
theorem dTexts_value_160 : decode (mcc mTexts_value) 160 = .ok (.isub, 1) := o100 (byt_of hTexts_value_b5 (j := 0) rfl)
theorem dTexts_value_161 : decode (mcc mTexts_value) 161 = .ok (.aload_n 0, 1) := o42 (byt_of hTexts_value_b5 (j := 1) rfl)
theorem dTexts_value_162 : decode (mcc mTexts_value) 162 = .ok (.getfield 28, 3) := o180 (a := 0) (b := 28) (byt_of hTexts_value_b5 (j := 2) rfl) (byt_of hTexts_value_b5 (j := 3) rfl) (byt_of hTexts_value_b5 (j := 4) rfl) rfl
theorem dTexts_value_165 : decode (mcc mTexts_value) 165 = .ok (.iload 5, 2) := o21 (a := 5) (byt_of hTexts_value_b5 (j := 5) rfl) (byt_of hTexts_value_b5 (j := 6) rfl)
theorem dTexts_value_167 : decode (mcc mTexts_value) 167 = .ok (.iconst 1, 1) := o4 (byt_of hTexts_value_b5 (j := 7) rfl)
theorem dTexts_value_168 : decode (mcc mTexts_value) 168 = .ok (.isub, 1) := o100 (byt_of hTexts_value_b5 (j := 8) rfl)
theorem dTexts_value_169 : decode (mcc mTexts_value) 169 = .ok (.iaload, 1) := o46 (byt_of hTexts_value_b5 (j := 9) rfl)
theorem dTexts_value_170 : decode (mcc mTexts_value) 170 = .ok (.aload_n 0, 1) := o42 (byt_of hTexts_value_b5 (j := 10) rfl)
theorem dTexts_value_171 : decode (mcc mTexts_value) 171 = .ok (.getfield 28, 3) := o180 (a := 0) (b := 28) (byt_of hTexts_value_b5 (j := 11) rfl) (byt_of hTexts_value_b5 (j := 12) rfl) (byt_of hTexts_value_b5 (j := 13) rfl) rfl
theorem dTexts_value_174 : decode (mcc mTexts_value) 174 = .ok (.iload 5, 2) := o21 (a := 5) (byt_of hTexts_value_b5 (j := 14) rfl) (byt_of hTexts_value_b5 (j := 15) rfl)
theorem dTexts_value_176 : decode (mcc mTexts_value) 176 = .ok (.iaload, 1) := o46 (byt_of hTexts_value_b5 (j := 16) rfl)
theorem dTexts_value_177 : decode (mcc mTexts_value) 177 = .ok (.invokestatic 47, 3) := o184 (a := 0) (b := 47) (byt_of hTexts_value_b5 (j := 17) rfl) (byt_of hTexts_value_b5 (j := 18) rfl) (byt_of hTexts_value_b5 (j := 19) rfl) rfl
theorem dTexts_value_180 : decode (mcc mTexts_value) 180 = .ok (.iastore, 1) := o79 (byt_of hTexts_value_b5 (j := 20) rfl)
theorem dTexts_value_181 : decode (mcc mTexts_value) 181 = .ok (.iinc 6 1, 3) := o132 (a := 6) (b := 1) (byt_of hTexts_value_b5 (j := 21) rfl) (byt_of hTexts_value_b5 (j := 22) rfl) (byt_of hTexts_value_b5 (j := 23) rfl) rfl
theorem dTexts_value_184 : decode (mcc mTexts_value) 184 = .ok (.goto (-141), 3) := o167 (a := 255) (b := 115) (byt_of hTexts_value_b5 (j := 24) rfl) (byt_of hTexts_value_b5 (j := 25) rfl) (byt_of hTexts_value_b5 (j := 26) rfl) rfl
theorem dTexts_value_187 : decode (mcc mTexts_value) 187 = .ok (.aload_n 0, 1) := o42 (byt_of hTexts_value_b5 (j := 27) rfl)
theorem dTexts_value_188 : decode (mcc mTexts_value) 188 = .ok (.getfield 28, 3) := o180 (a := 0) (b := 28) (byt_of hTexts_value_b5 (j := 28) rfl) (byt_of hTexts_value_b5 (j := 29) rfl) (byt_of hTexts_value_b5 (j := 30) rfl) rfl
theorem dTexts_value_191 : decode (mcc mTexts_value) 191 = .ok (.iconst 0, 1) := o3 (byt_of hTexts_value_b5 (j := 31) rfl)
def bTexts_value_b6 : List Nat := [46, 172]
theorem hTexts_value_b6 : BL (mcc mTexts_value) 192 bTexts_value_b6 := by decide +kernel
theorem dTexts_value_192 : decode (mcc mTexts_value) 192 = .ok (.iaload, 1) := o46 (byt_of hTexts_value_b6 (j := 0) rfl)
theorem dTexts_value_193 : decode (mcc mTexts_value) 193 = .ok (.ireturn, 1) := o172 (byt_of hTexts_value_b6 (j := 1) rfl)
def bTexts_joined_b0 : List Nat := [26, 171, 0, 0, 0, 0, 0, 136, 0, 0, 0, 8, 0, 0, 0, 8, 0, 0, 0, 122, 0, 0, 0, 9, 0, 0, 0, 78, 0, 0, 0, 10, 0, 0, 0, 75, 0, 0]
theorem hTexts_joined_b0 : BL (mcc mTexts_joined) 0 bTexts_joined_b0 := by decide +kernel
theorem dTexts_joined_0 : decode (mcc mTexts_joined) 0 = .ok (.iload_n 0, 1) := o26 (byt_of hTexts_joined_b0 (j := 0) rfl)
theorem dTexts_joined_1 : decode (mcc mTexts_joined) 1 = .ok (.lookupswitch 136 #[(8, 122), (9, 78), (10, 75), (42, 96), (43, 88), (45, 92), (60, 100), (61, 111)], 75) := by decide +kernel
def bTexts_joined_b2 : List Nat := [0, 0, 0, 100, 0, 0, 0, 61, 0, 0, 0, 111, 27, 116, 172, 27, 154, 0, 7, 4, 167, 0, 4, 3, 172, 27, 28, 96, 172, 27, 28, 100, 172, 27, 28, 104, 172, 27]
theorem hTexts_joined_b2 : BL (mcc mTexts_joined) 64 bTexts_joined_b2 := by decide +kernel
theorem dTexts_joined_76 : decode (mcc mTexts_joined) 76 = .ok (.iload_n 1, 1) := o27 (byt_of hTexts_joined_b2 (j := 12) rfl)
theorem dTexts_joined_77 : decode (mcc mTexts_joined) 77 = .ok (.ineg, 1) := o116 (byt_of hTexts_joined_b2 (j := 13) rfl)
theorem dTexts_joined_78 : decode (mcc mTexts_joined) 78 = .ok (.ireturn, 1) := o172 (byt_of hTexts_joined_b2 (j := 14) rfl)
theorem dTexts_joined_79 : decode (mcc mTexts_joined) 79 = .ok (.iload_n 1, 1) := o27 (byt_of hTexts_joined_b2 (j := 15) rfl)
theorem dTexts_joined_80 : decode (mcc mTexts_joined) 80 = .ok (.ifCond .ne 7, 3) := o154 (a := 0) (b := 7) (byt_of hTexts_joined_b2 (j := 16) rfl) (byt_of hTexts_joined_b2 (j := 17) rfl) (byt_of hTexts_joined_b2 (j := 18) rfl) rfl
theorem dTexts_joined_83 : decode (mcc mTexts_joined) 83 = .ok (.iconst 1, 1) := o4 (byt_of hTexts_joined_b2 (j := 19) rfl)
theorem dTexts_joined_84 : decode (mcc mTexts_joined) 84 = .ok (.goto 4, 3) := o167 (a := 0) (b := 4) (byt_of hTexts_joined_b2 (j := 20) rfl) (byt_of hTexts_joined_b2 (j := 21) rfl) (byt_of hTexts_joined_b2 (j := 22) rfl) rfl
theorem dTexts_joined_87 : decode (mcc mTexts_joined) 87 = .ok (.iconst 0, 1) := o3 (byt_of hTexts_joined_b2 (j := 23) rfl)
theorem dTexts_joined_88 : decode (mcc mTexts_joined) 88 = .ok (.ireturn, 1) := o172 (byt_of hTexts_joined_b2 (j := 24) rfl)
theorem dTexts_joined_89 : decode (mcc mTexts_joined) 89 = .ok (.iload_n 1, 1) := o27 (byt_of hTexts_joined_b2 (j := 25) rfl)
theorem dTexts_joined_90 : decode (mcc mTexts_joined) 90 = .ok (.iload_n 2, 1) := o28 (byt_of hTexts_joined_b2 (j := 26) rfl)
theorem dTexts_joined_91 : decode (mcc mTexts_joined) 91 = .ok (.iadd, 1) := o96 (byt_of hTexts_joined_b2 (j := 27) rfl)
theorem dTexts_joined_92 : decode (mcc mTexts_joined) 92 = .ok (.ireturn, 1) := o172 (byt_of hTexts_joined_b2 (j := 28) rfl)
theorem dTexts_joined_93 : decode (mcc mTexts_joined) 93 = .ok (.iload_n 1, 1) := o27 (byt_of hTexts_joined_b2 (j := 29) rfl)
theorem dTexts_joined_94 : decode (mcc mTexts_joined) 94 = .ok (.iload_n 2, 1) := o28 (byt_of hTexts_joined_b2 (j := 30) rfl)
theorem dTexts_joined_95 : decode (mcc mTexts_joined) 95 = .ok (.isub, 1) := o100 (byt_of hTexts_joined_b2 (j := 31) rfl)
def bTexts_joined_b3 : List Nat := [172, 27, 28, 104, 172, 27, 28, 162, 0, 7, 4, 167, 0, 4, 3, 172, 27, 28, 160, 0, 7, 4, 167, 0, 4, 3, 172, 27, 153, 0, 11, 28, 153, 0, 7, 4, 167, 0]
theorem hTexts_joined_b3 : BL (mcc mTexts_joined) 96 bTexts_joined_b3 := by decide +kernel
theorem dTexts_joined_96 : decode (mcc mTexts_joined) 96 = .ok (.ireturn, 1) := o172 (byt_of hTexts_joined_b3 (j := 0) rfl)
theorem dTexts_joined_97 : decode (mcc mTexts_joined) 97 = .ok (.iload_n 1, 1) := o27 (byt_of hTexts_joined_b3 (j := 1) rfl)
theorem dTexts_joined_98 : decode (mcc mTexts_joined) 98 = .ok (.iload_n 2, 1) := o28 (byt_of hTexts_joined_b3 (j := 2) rfl)
theorem dTexts_joined_99 : decode (mcc mTexts_joined) 99 = .ok (.imul, 1) := o104 (byt_of hTexts_joined_b3 (j := 3) rfl)
theorem dTexts_joined_100 : decode (mcc mTexts_joined) 100 = .ok (.ireturn, 1) := o172 (byt_of hTexts_joined_b3 (j := 4) rfl)
theorem dTexts_joined_101 : decode (mcc mTexts_joined) 101 = .ok (.iload_n 1, 1) := o27 (byt_of hTexts_joined_b3 (j := 5) rfl)
theorem dTexts_joined_102 : decode (mcc mTexts_joined) 102 = .ok (.iload_n 2, 1) := o28 (byt_of hTexts_joined_b3 (j := 6) rfl)
theorem dTexts_joined_103 : decode (mcc mTexts_joined) 103 = .ok (.if_icmp .ge 7, 3) := o162 (a := 0) (b := 7) (byt_of hTexts_joined_b3 (j := 7) rfl) (byt_of hTexts_joined_b3 (j := 8) rfl) (byt_of hTexts_joined_b3 (j := 9) rfl) rfl
theorem dTexts_joined_106 : decode (mcc mTexts_joined) 106 = .ok (.iconst 1, 1) := o4 (byt_of hTexts_joined_b3 (j := 10) rfl)
theorem dTexts_joined_107 : decode (mcc mTexts_joined) 107 = .ok (.goto 4, 3) := o167 (a := 0) (b := 4) (byt_of hTexts_joined_b3 (j := 11) rfl) (byt_of hTexts_joined_b3 (j := 12) rfl) (byt_of hTexts_joined_b3 (j := 13) rfl) rfl
theorem dTexts_joined_110 : decode (mcc mTexts_joined) 110 = .ok (.iconst 0, 1) := o3 (byt_of hTexts_joined_b3 (j := 14) rfl)
theorem dTexts_joined_111 : decode (mcc mTexts_joined) 111 = .ok (.ireturn, 1) := o172 (byt_of hTexts_joined_b3 (j := 15) rfl)
theorem dTexts_joined_112 : decode (mcc mTexts_joined) 112 = .ok (.iload_n 1, 1) := o27 (byt_of hTexts_joined_b3 (j := 16) rfl)
theorem dTexts_joined_113 : decode (mcc mTexts_joined) 113 = .ok (.iload_n 2, 1) := o28 (byt_of hTexts_joined_b3 (j := 17) rfl)
theorem dTexts_joined_114 : decode (mcc mTexts_joined) 114 = .ok (.if_icmp .ne 7, 3) := o160 (a := 0) (b := 7) (byt_of hTexts_joined_b3 (j := 18) rfl) (byt_of hTexts_joined_b3 (j := 19) rfl) (byt_of hTexts_joined_b3 (j := 20) rfl) rfl
theorem dTexts_joined_117 : decode (mcc mTexts_joined) 117 = .ok (.iconst 1, 1) := o4 (byt_of hTexts_joined_b3 (j := 21) rfl)
theorem dTexts_joined_118 : decode (mcc mTexts_joined) 118 = .ok (.goto 4, 3) := o167 (a := 0) (b := 4) (byt_of hTexts_joined_b3 (j := 22) rfl) (byt_of hTexts_joined_b3 (j := 23) rfl) (byt_of hTexts_joined_b3 (j := 24) rfl) rfl
theorem dTexts_joined_121 : decode (mcc mTexts_joined) 121 = .ok (.iconst 0, 1) := o3 (byt_of hTexts_joined_b3 (j := 25) rfl)
theorem dTexts_joined_122 : decode (mcc mTexts_joined) 122 = .ok (.ireturn, 1) := o172 (byt_of hTexts_joined_b3 (j := 26) rfl)
theorem dTexts_joined_123 : decode (mcc mTexts_joined) 123 = .ok (.iload_n 1, 1) := o27 (byt_of hTexts_joined_b3 (j := 27) rfl)
theorem dTexts_joined_124 : decode (mcc mTexts_joined) 124 = .ok (.ifCond .eq 11, 3) := o153 (a := 0) (b := 11) (byt_of hTexts_joined_b3 (j := 28) rfl) (byt_of hTexts_joined_b3 (j := 29) rfl) (byt_of hTexts_joined_b3 (j := 30) rfl) rfl
theorem dTexts_joined_127 : decode (mcc mTexts_joined) 127 = .ok (.iload_n 2, 1) := o28 (byt_of hTexts_joined_b3 (j := 31) rfl)
def bTexts_joined_b4 : List Nat := [153, 0, 7, 4, 167, 0, 4, 3, 172, 27, 154, 0, 7, 28, 153, 0, 7, 4, 167, 0, 4, 3, 172]
theorem hTexts_joined_b4 : BL (mcc mTexts_joined) 128 bTexts_joined_b4 := by decide +kernel
theorem dTexts_joined_128 : decode (mcc mTexts_joined) 128 = .ok (.ifCond .eq 7, 3) := o153 (a := 0) (b := 7) (byt_of hTexts_joined_b4 (j := 0) rfl) (byt_of hTexts_joined_b4 (j := 1) rfl) (byt_of hTexts_joined_b4 (j := 2) rfl) rfl
theorem dTexts_joined_131 : decode (mcc mTexts_joined) 131 = .ok (.iconst 1, 1) := o4 (byt_of hTexts_joined_b4 (j := 3) rfl)
theorem dTexts_joined_132 : decode (mcc mTexts_joined) 132 = .ok (.goto 4, 3) := o167 (a := 0) (b := 4) (byt_of hTexts_joined_b4 (j := 4) rfl) (byt_of hTexts_joined_b4 (j := 5) rfl) (byt_of hTexts_joined_b4 (j := 6) rfl) rfl
theorem dTexts_joined_135 : decode (mcc mTexts_joined) 135 = .ok (.iconst 0, 1) := o3 (byt_of hTexts_joined_b4 (j := 7) rfl)
theorem dTexts_joined_136 : decode (mcc mTexts_joined) 136 = .ok (.ireturn, 1) := o172 (byt_of hTexts_joined_b4 (j := 8) rfl)
theorem dTexts_joined_137 : decode (mcc mTexts_joined) 137 = .ok (.iload_n 1, 1) := o27 (byt_of hTexts_joined_b4 (j := 9) rfl)
theorem dTexts_joined_138 : decode (mcc mTexts_joined) 138 = .ok (.ifCond .ne 7, 3) := o154 (a := 0) (b := 7) (byt_of hTexts_joined_b4 (j := 10) rfl) (byt_of hTexts_joined_b4 (j := 11) rfl) (byt_of hTexts_joined_b4 (j := 12) rfl) rfl
theorem dTexts_joined_141 : decode (mcc mTexts_joined) 141 = .ok (.iload_n 2, 1) := o28 (byt_of hTexts_joined_b4 (j := 13) rfl)
theorem dTexts_joined_142 : decode (mcc mTexts_joined) 142 = .ok (.ifCond .eq 7, 3) := o153 (a := 0) (b := 7) (byt_of hTexts_joined_b4 (j := 14) rfl) (byt_of hTexts_joined_b4 (j := 15) rfl) (byt_of hTexts_joined_b4 (j := 16) rfl) rfl
theorem dTexts_joined_145 : decode (mcc mTexts_joined) 145 = .ok (.iconst 1, 1) := o4 (byt_of hTexts_joined_b4 (j := 17) rfl)
theorem dTexts_joined_146 : decode (mcc mTexts_joined) 146 = .ok (.goto 4, 3) := o167 (a := 0) (b := 4) (byt_of hTexts_joined_b4 (j := 18) rfl) (byt_of hTexts_joined_b4 (j := 19) rfl) (byt_of hTexts_joined_b4 (j := 20) rfl) rfl
theorem dTexts_joined_149 : decode (mcc mTexts_joined) 149 = .ok (.iconst 0, 1) := o3 (byt_of hTexts_joined_b4 (j := 21) rfl)
theorem dTexts_joined_150 : decode (mcc mTexts_joined) 150 = .ok (.ireturn, 1) := o172 (byt_of hTexts_joined_b4 (j := 22) rfl)
def bTown_init_b0 : List Nat := [42, 183, 0, 3, 42, 16, 36, 188, 10, 181, 0, 9, 42, 16, 6, 188, 10, 181, 0, 15, 42, 5, 181, 0, 18, 3, 60, 27, 16, 6, 162, 0, 40, 3, 61, 28, 16, 6]
theorem hTown_init_b0 : BL (mcc mTown_init) 0 bTown_init_b0 := by decide +kernel
theorem dTown_init_0 : decode (mcc mTown_init) 0 = .ok (.aload_n 0, 1) := o42 (byt_of hTown_init_b0 (j := 0) rfl)
theorem dTown_init_1 : decode (mcc mTown_init) 1 = .ok (.invokespecial 3, 3) := o183 (a := 0) (b := 3) (byt_of hTown_init_b0 (j := 1) rfl) (byt_of hTown_init_b0 (j := 2) rfl) (byt_of hTown_init_b0 (j := 3) rfl) rfl
theorem dTown_init_4 : decode (mcc mTown_init) 4 = .ok (.aload_n 0, 1) := o42 (byt_of hTown_init_b0 (j := 4) rfl)
theorem dTown_init_5 : decode (mcc mTown_init) 5 = .ok (.bipush 36, 2) := o16 (a := 36) (byt_of hTown_init_b0 (j := 5) rfl) (byt_of hTown_init_b0 (j := 6) rfl) rfl
theorem dTown_init_7 : decode (mcc mTown_init) 7 = .ok (.newarray .int, 2) := o188 (byt_of hTown_init_b0 (j := 7) rfl) (byt_of hTown_init_b0 (j := 8) rfl)
theorem dTown_init_9 : decode (mcc mTown_init) 9 = .ok (.putfield 9, 3) := o181 (a := 0) (b := 9) (byt_of hTown_init_b0 (j := 9) rfl) (byt_of hTown_init_b0 (j := 10) rfl) (byt_of hTown_init_b0 (j := 11) rfl) rfl
theorem dTown_init_12 : decode (mcc mTown_init) 12 = .ok (.aload_n 0, 1) := o42 (byt_of hTown_init_b0 (j := 12) rfl)
theorem dTown_init_13 : decode (mcc mTown_init) 13 = .ok (.bipush 6, 2) := o16 (a := 6) (byt_of hTown_init_b0 (j := 13) rfl) (byt_of hTown_init_b0 (j := 14) rfl) rfl
theorem dTown_init_15 : decode (mcc mTown_init) 15 = .ok (.newarray .int, 2) := o188 (byt_of hTown_init_b0 (j := 15) rfl) (byt_of hTown_init_b0 (j := 16) rfl)
theorem dTown_init_17 : decode (mcc mTown_init) 17 = .ok (.putfield 15, 3) := o181 (a := 0) (b := 15) (byt_of hTown_init_b0 (j := 17) rfl) (byt_of hTown_init_b0 (j := 18) rfl) (byt_of hTown_init_b0 (j := 19) rfl) rfl
theorem dTown_init_20 : decode (mcc mTown_init) 20 = .ok (.aload_n 0, 1) := o42 (byt_of hTown_init_b0 (j := 20) rfl)
theorem dTown_init_21 : decode (mcc mTown_init) 21 = .ok (.iconst 2, 1) := o5 (byt_of hTown_init_b0 (j := 21) rfl)
theorem dTown_init_22 : decode (mcc mTown_init) 22 = .ok (.putfield 18, 3) := o181 (a := 0) (b := 18) (byt_of hTown_init_b0 (j := 22) rfl) (byt_of hTown_init_b0 (j := 23) rfl) (byt_of hTown_init_b0 (j := 24) rfl) rfl
theorem dTown_init_25 : decode (mcc mTown_init) 25 = .ok (.iconst 0, 1) := o3 (byt_of hTown_init_b0 (j := 25) rfl)
theorem dTown_init_26 : decode (mcc mTown_init) 26 = .ok (.istore_n 1, 1) := o60 (byt_of hTown_init_b0 (j := 26) rfl)
theorem dTown_init_27 : decode (mcc mTown_init) 27 = .ok (.iload_n 1, 1) := o27 (byt_of hTown_init_b0 (j := 27) rfl)
theorem dTown_init_28 : decode (mcc mTown_init) 28 = .ok (.bipush 6, 2) := o16 (a := 6) (byt_of hTown_init_b0 (j := 28) rfl) (byt_of hTown_init_b0 (j := 29) rfl) rfl
theorem dTown_init_30 : decode (mcc mTown_init) 30 = .ok (.if_icmp .ge 40, 3) := o162 (a := 0) (b := 40) (byt_of hTown_init_b0 (j := 30) rfl) (byt_of hTown_init_b0 (j := 31) rfl) (byt_of hTown_init_b0 (j := 32) rfl) rfl
def bTown_init_b1 : List Nat := [40, 3, 61, 28, 16, 6, 162, 0, 26, 42, 180, 0, 9, 27, 16, 6, 104, 28, 96, 27, 28, 100, 184, 0, 22, 79, 132, 2, 1, 167, 255, 230, 132, 1, 1, 167, 255, 216]
theorem hTown_init_b1 : BL (mcc mTown_init) 32 bTown_init_b1 := by decide +kernel
theorem dTown_init_33 : decode (mcc mTown_init) 33 = .ok (.iconst 0, 1) := o3 (byt_of hTown_init_b1 (j := 1) rfl)
theorem dTown_init_34 : decode (mcc mTown_init) 34 = .ok (.istore_n 2, 1) := o61 (byt_of hTown_init_b1 (j := 2) rfl)
theorem dTown_init_35 : decode (mcc mTown_init) 35 = .ok (.iload_n 2, 1) := o28 (byt_of hTown_init_b1 (j := 3) rfl)
theorem dTown_init_36 : decode (mcc mTown_init) 36 = .ok (.bipush 6, 2) := o16 (a := 6) (byt_of hTown_init_b1 (j := 4) rfl) (byt_of hTown_init_b1 (j := 5) rfl) rfl
theorem dTown_init_38 : decode (mcc mTown_init) 38 = .ok (.if_icmp .ge 26, 3) := o162 (a := 0) (b := 26) (byt_of hTown_init_b1 (j := 6) rfl) (byt_of hTown_init_b1 (j := 7) rfl) (byt_of hTown_init_b1 (j := 8) rfl) rfl
theorem dTown_init_41 : decode (mcc mTown_init) 41 = .ok (.aload_n 0, 1) := o42 (byt_of hTown_init_b1 (j := 9) rfl)
theorem dTown_init_42 : decode (mcc mTown_init) 42 = .ok (.getfield 9, 3) := o180 (a := 0) (b := 9) (byt_of hTown_init_b1 (j := 10) rfl) (byt_of hTown_init_b1 (j := 11) rfl) (byt_of hTown_init_b1 (j := 12) rfl) rfl
theorem dTown_init_45 : decode (mcc mTown_init) 45 = .ok (.iload_n 1, 1) := o27 (byt_of hTown_init_b1 (j := 13) rfl)
theorem dTown_init_46 : decode (mcc mTown_init) 46 = .ok (.bipush 6, 2) := o16 (a := 6) (byt_of hTown_init_b1 (j := 14) rfl) (byt_of hTown_init_b1 (j := 15) rfl) rfl
theorem dTown_init_48 : decode (mcc mTown_init) 48 = .ok (.imul, 1) := o104 (byt_of hTown_init_b1 (j := 16) rfl)
theorem dTown_init_49 : decode (mcc mTown_init) 49 = .ok (.iload_n 2, 1) := o28 (byt_of hTown_init_b1 (j := 17) rfl)
theorem dTown_init_50 : decode (mcc mTown_init) 50 = .ok (.iadd, 1) := o96 (byt_of hTown_init_b1 (j := 18) rfl)
theorem dTown_init_51 : decode (mcc mTown_init) 51 = .ok (.iload_n 1, 1) := o27 (byt_of hTown_init_b1 (j := 19) rfl)
theorem dTown_init_52 : decode (mcc mTown_init) 52 = .ok (.iload_n 2, 1) := o28 (byt_of hTown_init_b1 (j := 20) rfl)
theorem dTown_init_53 : decode (mcc mTown_init) 53 = .ok (.isub, 1) := o100 (byt_of hTown_init_b1 (j := 21) rfl)
theorem dTown_init_54 : decode (mcc mTown_init) 54 = .ok (.invokestatic 22, 3) := o184 (a := 0) (b := 22) (byt_of hTown_init_b1 (j := 22) rfl) (byt_of hTown_init_b1 (j := 23) rfl) (byt_of hTown_init_b1 (j := 24) rfl) rfl
theorem dTown_init_57 : decode (mcc mTown_init) 57 = .ok (.iastore, 1) := o79 (byt_of hTown_init_b1 (j := 25) rfl)
theorem dTown_init_58 : decode (mcc mTown_init) 58 = .ok (.iinc 2 1, 3) := o132 (a := 2) (b := 1) (byt_of hTown_init_b1 (j := 26) rfl) (byt_of hTown_init_b1 (j := 27) rfl) (byt_of hTown_init_b1 (j := 28) rfl) rfl
theorem dTown_init_61 : decode (mcc mTown_init) 61 = .ok (.goto (-26), 3) := o167 (a := 255) (b := 230) (byt_of hTown_init_b1 (j := 29) rfl) (byt_of hTown_init_b1 (j := 30) rfl) (byt_of hTown_init_b1 (j := 31) rfl) rfl
def bTown_init_b2 : List Nat := [132, 1, 1, 167, 255, 216, 177]
theorem hTown_init_b2 : BL (mcc mTown_init) 64 bTown_init_b2 := by decide +kernel
theorem dTown_init_64 : decode (mcc mTown_init) 64 = .ok (.iinc 1 1, 3) := o132 (a := 1) (b := 1) (byt_of hTown_init_b2 (j := 0) rfl) (byt_of hTown_init_b2 (j := 1) rfl) (byt_of hTown_init_b2 (j := 2) rfl) rfl
theorem dTown_init_67 : decode (mcc mTown_init) 67 = .ok (.goto (-40), 3) := o167 (a := 255) (b := 216) (byt_of hTown_init_b2 (j := 3) rfl) (byt_of hTown_init_b2 (j := 4) rfl) (byt_of hTown_init_b2 (j := 5) rfl) rfl
theorem dTown_init_70 : decode (mcc mTown_init) 70 = .ok (.return_, 1) := o177 (byt_of hTown_init_b2 (j := 6) rfl)
def bTown_between_b0 : List Nat := [42, 180, 0, 9, 27, 16, 6, 104, 28, 96, 46, 172]
theorem hTown_between_b0 : BL (mcc mTown_between) 0 bTown_between_b0 := by decide +kernel
theorem dTown_between_0 : decode (mcc mTown_between) 0 = .ok (.aload_n 0, 1) := o42 (byt_of hTown_between_b0 (j := 0) rfl)
theorem dTown_between_1 : decode (mcc mTown_between) 1 = .ok (.getfield 9, 3) := o180 (a := 0) (b := 9) (byt_of hTown_between_b0 (j := 1) rfl) (byt_of hTown_between_b0 (j := 2) rfl) (byt_of hTown_between_b0 (j := 3) rfl) rfl
theorem dTown_between_4 : decode (mcc mTown_between) 4 = .ok (.iload_n 1, 1) := o27 (byt_of hTown_between_b0 (j := 4) rfl)
theorem dTown_between_5 : decode (mcc mTown_between) 5 = .ok (.bipush 6, 2) := o16 (a := 6) (byt_of hTown_between_b0 (j := 5) rfl) (byt_of hTown_between_b0 (j := 6) rfl) rfl
theorem dTown_between_7 : decode (mcc mTown_between) 7 = .ok (.imul, 1) := o104 (byt_of hTown_between_b0 (j := 7) rfl)
theorem dTown_between_8 : decode (mcc mTown_between) 8 = .ok (.iload_n 2, 1) := o28 (byt_of hTown_between_b0 (j := 8) rfl)
theorem dTown_between_9 : decode (mcc mTown_between) 9 = .ok (.iadd, 1) := o96 (byt_of hTown_between_b0 (j := 9) rfl)
theorem dTown_between_10 : decode (mcc mTown_between) 10 = .ok (.iaload, 1) := o46 (byt_of hTown_between_b0 (j := 10) rfl)
theorem dTown_between_11 : decode (mcc mTown_between) 11 = .ok (.ireturn, 1) := o172 (byt_of hTown_between_b0 (j := 11) rfl)
def bTown_setBetween_b0 : List Nat := [42, 180, 0, 9, 27, 16, 6, 104, 28, 96, 29, 79, 42, 180, 0, 9, 28, 16, 6, 104, 27, 96, 29, 79, 177]
theorem hTown_setBetween_b0 : BL (mcc mTown_setBetween) 0 bTown_setBetween_b0 := by decide +kernel
theorem dTown_setBetween_0 : decode (mcc mTown_setBetween) 0 = .ok (.aload_n 0, 1) := o42 (byt_of hTown_setBetween_b0 (j := 0) rfl)
theorem dTown_setBetween_1 : decode (mcc mTown_setBetween) 1 = .ok (.getfield 9, 3) := o180 (a := 0) (b := 9) (byt_of hTown_setBetween_b0 (j := 1) rfl) (byt_of hTown_setBetween_b0 (j := 2) rfl) (byt_of hTown_setBetween_b0 (j := 3) rfl) rfl
theorem dTown_setBetween_4 : decode (mcc mTown_setBetween) 4 = .ok (.iload_n 1, 1) := o27 (byt_of hTown_setBetween_b0 (j := 4) rfl)
theorem dTown_setBetween_5 : decode (mcc mTown_setBetween) 5 = .ok (.bipush 6, 2) := o16 (a := 6) (byt_of hTown_setBetween_b0 (j := 5) rfl) (byt_of hTown_setBetween_b0 (j := 6) rfl) rfl
theorem dTown_setBetween_7 : decode (mcc mTown_setBetween) 7 = .ok (.imul, 1) := o104 (byt_of hTown_setBetween_b0 (j := 7) rfl)
theorem dTown_setBetween_8 : decode (mcc mTown_setBetween) 8 = .ok (.iload_n 2, 1) := o28 (byt_of hTown_setBetween_b0 (j := 8) rfl)
theorem dTown_setBetween_9 : decode (mcc mTown_setBetween) 9 = .ok (.iadd, 1) := o96 (byt_of hTown_setBetween_b0 (j := 9) rfl)
theorem dTown_setBetween_10 : decode (mcc mTown_setBetween) 10 = .ok (.iload_n 3, 1) := o29 (byt_of hTown_setBetween_b0 (j := 10) rfl)
theorem dTown_setBetween_11 : decode (mcc mTown_setBetween) 11 = .ok (.iastore, 1) := o79 (byt_of hTown_setBetween_b0 (j := 11) rfl)
theorem dTown_setBetween_12 : decode (mcc mTown_setBetween) 12 = .ok (.aload_n 0, 1) := o42 (byt_of hTown_setBetween_b0 (j := 12) rfl)
theorem dTown_setBetween_13 : decode (mcc mTown_setBetween) 13 = .ok (.getfield 9, 3) := o180 (a := 0) (b := 9) (byt_of hTown_setBetween_b0 (j := 13) rfl) (byt_of hTown_setBetween_b0 (j := 14) rfl) (byt_of hTown_setBetween_b0 (j := 15) rfl) rfl
theorem dTown_setBetween_16 : decode (mcc mTown_setBetween) 16 = .ok (.iload_n 2, 1) := o28 (byt_of hTown_setBetween_b0 (j := 16) rfl)
theorem dTown_setBetween_17 : decode (mcc mTown_setBetween) 17 = .ok (.bipush 6, 2) := o16 (a := 6) (byt_of hTown_setBetween_b0 (j := 17) rfl) (byt_of hTown_setBetween_b0 (j := 18) rfl) rfl
theorem dTown_setBetween_19 : decode (mcc mTown_setBetween) 19 = .ok (.imul, 1) := o104 (byt_of hTown_setBetween_b0 (j := 19) rfl)
theorem dTown_setBetween_20 : decode (mcc mTown_setBetween) 20 = .ok (.iload_n 1, 1) := o27 (byt_of hTown_setBetween_b0 (j := 20) rfl)
theorem dTown_setBetween_21 : decode (mcc mTown_setBetween) 21 = .ok (.iadd, 1) := o96 (byt_of hTown_setBetween_b0 (j := 21) rfl)
theorem dTown_setBetween_22 : decode (mcc mTown_setBetween) 22 = .ok (.iload_n 3, 1) := o29 (byt_of hTown_setBetween_b0 (j := 22) rfl)
theorem dTown_setBetween_23 : decode (mcc mTown_setBetween) 23 = .ok (.iastore, 1) := o79 (byt_of hTown_setBetween_b0 (j := 23) rfl)
theorem dTown_setBetween_24 : decode (mcc mTown_setBetween) 24 = .ok (.return_, 1) := o177 (byt_of hTown_setBetween_b0 (j := 24) rfl)
def bTown_become_b0 : List Nat := [43, 180, 0, 9, 3, 42, 180, 0, 9, 3, 16, 36, 184, 0, 28, 43, 180, 0, 15, 3, 42, 180, 0, 15, 3, 16, 6, 184, 0, 28, 42, 43, 180, 0, 18, 181, 0, 18]
theorem hTown_become_b0 : BL (mcc mTown_become) 0 bTown_become_b0 := by decide +kernel
theorem dTown_become_0 : decode (mcc mTown_become) 0 = .ok (.aload_n 1, 1) := o43 (byt_of hTown_become_b0 (j := 0) rfl)
theorem dTown_become_1 : decode (mcc mTown_become) 1 = .ok (.getfield 9, 3) := o180 (a := 0) (b := 9) (byt_of hTown_become_b0 (j := 1) rfl) (byt_of hTown_become_b0 (j := 2) rfl) (byt_of hTown_become_b0 (j := 3) rfl) rfl
theorem dTown_become_4 : decode (mcc mTown_become) 4 = .ok (.iconst 0, 1) := o3 (byt_of hTown_become_b0 (j := 4) rfl)
theorem dTown_become_5 : decode (mcc mTown_become) 5 = .ok (.aload_n 0, 1) := o42 (byt_of hTown_become_b0 (j := 5) rfl)
theorem dTown_become_6 : decode (mcc mTown_become) 6 = .ok (.getfield 9, 3) := o180 (a := 0) (b := 9) (byt_of hTown_become_b0 (j := 6) rfl) (byt_of hTown_become_b0 (j := 7) rfl) (byt_of hTown_become_b0 (j := 8) rfl) rfl
theorem dTown_become_9 : decode (mcc mTown_become) 9 = .ok (.iconst 0, 1) := o3 (byt_of hTown_become_b0 (j := 9) rfl)
theorem dTown_become_10 : decode (mcc mTown_become) 10 = .ok (.bipush 36, 2) := o16 (a := 36) (byt_of hTown_become_b0 (j := 10) rfl) (byt_of hTown_become_b0 (j := 11) rfl) rfl
theorem dTown_become_12 : decode (mcc mTown_become) 12 = .ok (.invokestatic 28, 3) := o184 (a := 0) (b := 28) (byt_of hTown_become_b0 (j := 12) rfl) (byt_of hTown_become_b0 (j := 13) rfl) (byt_of hTown_become_b0 (j := 14) rfl) rfl
theorem dTown_become_15 : decode (mcc mTown_become) 15 = .ok (.aload_n 1, 1) := o43 (byt_of hTown_become_b0 (j := 15) rfl)
theorem dTown_become_16 : decode (mcc mTown_become) 16 = .ok (.getfield 15, 3) := o180 (a := 0) (b := 15) (byt_of hTown_become_b0 (j := 16) rfl) (byt_of hTown_become_b0 (j := 17) rfl) (byt_of hTown_become_b0 (j := 18) rfl) rfl
theorem dTown_become_19 : decode (mcc mTown_become) 19 = .ok (.iconst 0, 1) := o3 (byt_of hTown_become_b0 (j := 19) rfl)
theorem dTown_become_20 : decode (mcc mTown_become) 20 = .ok (.aload_n 0, 1) := o42 (byt_of hTown_become_b0 (j := 20) rfl)
theorem dTown_become_21 : decode (mcc mTown_become) 21 = .ok (.getfield 15, 3) := o180 (a := 0) (b := 15) (byt_of hTown_become_b0 (j := 21) rfl) (byt_of hTown_become_b0 (j := 22) rfl) (byt_of hTown_become_b0 (j := 23) rfl) rfl
theorem dTown_become_24 : decode (mcc mTown_become) 24 = .ok (.iconst 0, 1) := o3 (byt_of hTown_become_b0 (j := 24) rfl)
theorem dTown_become_25 : decode (mcc mTown_become) 25 = .ok (.bipush 6, 2) := o16 (a := 6) (byt_of hTown_become_b0 (j := 25) rfl) (byt_of hTown_become_b0 (j := 26) rfl) rfl
theorem dTown_become_27 : decode (mcc mTown_become) 27 = .ok (.invokestatic 28, 3) := o184 (a := 0) (b := 28) (byt_of hTown_become_b0 (j := 27) rfl) (byt_of hTown_become_b0 (j := 28) rfl) (byt_of hTown_become_b0 (j := 29) rfl) rfl
theorem dTown_become_30 : decode (mcc mTown_become) 30 = .ok (.aload_n 0, 1) := o42 (byt_of hTown_become_b0 (j := 30) rfl)
theorem dTown_become_31 : decode (mcc mTown_become) 31 = .ok (.aload_n 1, 1) := o43 (byt_of hTown_become_b0 (j := 31) rfl)
def bTown_become_b1 : List Nat := [180, 0, 18, 181, 0, 18, 177]
theorem hTown_become_b1 : BL (mcc mTown_become) 32 bTown_become_b1 := by decide +kernel
theorem dTown_become_32 : decode (mcc mTown_become) 32 = .ok (.getfield 18, 3) := o180 (a := 0) (b := 18) (byt_of hTown_become_b1 (j := 0) rfl) (byt_of hTown_become_b1 (j := 1) rfl) (byt_of hTown_become_b1 (j := 2) rfl) rfl
theorem dTown_become_35 : decode (mcc mTown_become) 35 = .ok (.putfield 18, 3) := o181 (a := 0) (b := 18) (byt_of hTown_become_b1 (j := 3) rfl) (byt_of hTown_become_b1 (j := 4) rfl) (byt_of hTown_become_b1 (j := 5) rfl) rfl
theorem dTown_become_38 : decode (mcc mTown_become) 38 = .ok (.return_, 1) := o177 (byt_of hTown_become_b1 (j := 6) rfl)
def bVows_init_b0 : List Nat := [42, 183, 0, 3, 42, 16, 8, 188, 10, 181, 0, 9, 42, 16, 8, 188, 10, 181, 0, 15, 42, 16, 8, 188, 10, 181, 0, 18, 42, 16, 8, 188, 10, 181, 0, 21, 42, 3]
theorem hVows_init_b0 : BL (mcc mVows_init) 0 bVows_init_b0 := by decide +kernel
theorem dVows_init_0 : decode (mcc mVows_init) 0 = .ok (.aload_n 0, 1) := o42 (byt_of hVows_init_b0 (j := 0) rfl)
theorem dVows_init_1 : decode (mcc mVows_init) 1 = .ok (.invokespecial 3, 3) := o183 (a := 0) (b := 3) (byt_of hVows_init_b0 (j := 1) rfl) (byt_of hVows_init_b0 (j := 2) rfl) (byt_of hVows_init_b0 (j := 3) rfl) rfl
theorem dVows_init_4 : decode (mcc mVows_init) 4 = .ok (.aload_n 0, 1) := o42 (byt_of hVows_init_b0 (j := 4) rfl)
theorem dVows_init_5 : decode (mcc mVows_init) 5 = .ok (.bipush 8, 2) := o16 (a := 8) (byt_of hVows_init_b0 (j := 5) rfl) (byt_of hVows_init_b0 (j := 6) rfl) rfl
theorem dVows_init_7 : decode (mcc mVows_init) 7 = .ok (.newarray .int, 2) := o188 (byt_of hVows_init_b0 (j := 7) rfl) (byt_of hVows_init_b0 (j := 8) rfl)
theorem dVows_init_9 : decode (mcc mVows_init) 9 = .ok (.putfield 9, 3) := o181 (a := 0) (b := 9) (byt_of hVows_init_b0 (j := 9) rfl) (byt_of hVows_init_b0 (j := 10) rfl) (byt_of hVows_init_b0 (j := 11) rfl) rfl
theorem dVows_init_12 : decode (mcc mVows_init) 12 = .ok (.aload_n 0, 1) := o42 (byt_of hVows_init_b0 (j := 12) rfl)
theorem dVows_init_13 : decode (mcc mVows_init) 13 = .ok (.bipush 8, 2) := o16 (a := 8) (byt_of hVows_init_b0 (j := 13) rfl) (byt_of hVows_init_b0 (j := 14) rfl) rfl
theorem dVows_init_15 : decode (mcc mVows_init) 15 = .ok (.newarray .int, 2) := o188 (byt_of hVows_init_b0 (j := 15) rfl) (byt_of hVows_init_b0 (j := 16) rfl)
theorem dVows_init_17 : decode (mcc mVows_init) 17 = .ok (.putfield 15, 3) := o181 (a := 0) (b := 15) (byt_of hVows_init_b0 (j := 17) rfl) (byt_of hVows_init_b0 (j := 18) rfl) (byt_of hVows_init_b0 (j := 19) rfl) rfl
theorem dVows_init_20 : decode (mcc mVows_init) 20 = .ok (.aload_n 0, 1) := o42 (byt_of hVows_init_b0 (j := 20) rfl)
theorem dVows_init_21 : decode (mcc mVows_init) 21 = .ok (.bipush 8, 2) := o16 (a := 8) (byt_of hVows_init_b0 (j := 21) rfl) (byt_of hVows_init_b0 (j := 22) rfl) rfl
theorem dVows_init_23 : decode (mcc mVows_init) 23 = .ok (.newarray .int, 2) := o188 (byt_of hVows_init_b0 (j := 23) rfl) (byt_of hVows_init_b0 (j := 24) rfl)
theorem dVows_init_25 : decode (mcc mVows_init) 25 = .ok (.putfield 18, 3) := o181 (a := 0) (b := 18) (byt_of hVows_init_b0 (j := 25) rfl) (byt_of hVows_init_b0 (j := 26) rfl) (byt_of hVows_init_b0 (j := 27) rfl) rfl
theorem dVows_init_28 : decode (mcc mVows_init) 28 = .ok (.aload_n 0, 1) := o42 (byt_of hVows_init_b0 (j := 28) rfl)
theorem dVows_init_29 : decode (mcc mVows_init) 29 = .ok (.bipush 8, 2) := o16 (a := 8) (byt_of hVows_init_b0 (j := 29) rfl) (byt_of hVows_init_b0 (j := 30) rfl) rfl
theorem dVows_init_31 : decode (mcc mVows_init) 31 = .ok (.newarray .int, 2) := o188 (byt_of hVows_init_b0 (j := 31) rfl) (byt_of hVows_init_b0 (j := 32) rfl)
def bVows_init_b1 : List Nat := [10, 181, 0, 21, 42, 3, 181, 0, 24, 177]
theorem hVows_init_b1 : BL (mcc mVows_init) 32 bVows_init_b1 := by decide +kernel
theorem dVows_init_33 : decode (mcc mVows_init) 33 = .ok (.putfield 21, 3) := o181 (a := 0) (b := 21) (byt_of hVows_init_b1 (j := 1) rfl) (byt_of hVows_init_b1 (j := 2) rfl) (byt_of hVows_init_b1 (j := 3) rfl) rfl
theorem dVows_init_36 : decode (mcc mVows_init) 36 = .ok (.aload_n 0, 1) := o42 (byt_of hVows_init_b1 (j := 4) rfl)
theorem dVows_init_37 : decode (mcc mVows_init) 37 = .ok (.iconst 0, 1) := o3 (byt_of hVows_init_b1 (j := 5) rfl)
theorem dVows_init_38 : decode (mcc mVows_init) 38 = .ok (.putfield 24, 3) := o181 (a := 0) (b := 24) (byt_of hVows_init_b1 (j := 6) rfl) (byt_of hVows_init_b1 (j := 7) rfl) (byt_of hVows_init_b1 (j := 8) rfl) rfl
theorem dVows_init_41 : decode (mcc mVows_init) 41 = .ok (.return_, 1) := o177 (byt_of hVows_init_b1 (j := 9) rfl)
def bVows_has_b0 : List Nat := [27, 3, 42, 180, 0, 24, 4, 100, 184, 0, 28, 172]
theorem hVows_has_b0 : BL (mcc mVows_has) 0 bVows_has_b0 := by decide +kernel
theorem dVows_has_0 : decode (mcc mVows_has) 0 = .ok (.iload_n 1, 1) := o27 (byt_of hVows_has_b0 (j := 0) rfl)
theorem dVows_has_1 : decode (mcc mVows_has) 1 = .ok (.iconst 0, 1) := o3 (byt_of hVows_has_b0 (j := 1) rfl)
theorem dVows_has_2 : decode (mcc mVows_has) 2 = .ok (.aload_n 0, 1) := o42 (byt_of hVows_has_b0 (j := 2) rfl)
theorem dVows_has_3 : decode (mcc mVows_has) 3 = .ok (.getfield 24, 3) := o180 (a := 0) (b := 24) (byt_of hVows_has_b0 (j := 3) rfl) (byt_of hVows_has_b0 (j := 4) rfl) (byt_of hVows_has_b0 (j := 5) rfl) rfl
theorem dVows_has_6 : decode (mcc mVows_has) 6 = .ok (.iconst 1, 1) := o4 (byt_of hVows_has_b0 (j := 6) rfl)
theorem dVows_has_7 : decode (mcc mVows_has) 7 = .ok (.isub, 1) := o100 (byt_of hVows_has_b0 (j := 7) rfl)
theorem dVows_has_8 : decode (mcc mVows_has) 8 = .ok (.invokestatic 28, 3) := o184 (a := 0) (b := 28) (byt_of hVows_has_b0 (j := 8) rfl) (byt_of hVows_has_b0 (j := 9) rfl) (byt_of hVows_has_b0 (j := 10) rfl) rfl
theorem dVows_has_11 : decode (mcc mVows_has) 11 = .ok (.ireturn, 1) := o172 (byt_of hVows_has_b0 (j := 11) rfl)
def bVows_add_b0 : List Nat := [42, 180, 0, 24, 54, 5, 42, 180, 0, 9, 21, 5, 27, 79, 42, 180, 0, 15, 21, 5, 28, 79, 42, 180, 0, 18, 21, 5, 29, 79, 42, 180, 0, 21, 21, 5, 21, 4]
theorem hVows_add_b0 : BL (mcc mVows_add) 0 bVows_add_b0 := by decide +kernel
theorem dVows_add_0 : decode (mcc mVows_add) 0 = .ok (.aload_n 0, 1) := o42 (byt_of hVows_add_b0 (j := 0) rfl)
theorem dVows_add_1 : decode (mcc mVows_add) 1 = .ok (.getfield 24, 3) := o180 (a := 0) (b := 24) (byt_of hVows_add_b0 (j := 1) rfl) (byt_of hVows_add_b0 (j := 2) rfl) (byt_of hVows_add_b0 (j := 3) rfl) rfl
theorem dVows_add_4 : decode (mcc mVows_add) 4 = .ok (.istore 5, 2) := o54 (a := 5) (byt_of hVows_add_b0 (j := 4) rfl) (byt_of hVows_add_b0 (j := 5) rfl)
theorem dVows_add_6 : decode (mcc mVows_add) 6 = .ok (.aload_n 0, 1) := o42 (byt_of hVows_add_b0 (j := 6) rfl)
theorem dVows_add_7 : decode (mcc mVows_add) 7 = .ok (.getfield 9, 3) := o180 (a := 0) (b := 9) (byt_of hVows_add_b0 (j := 7) rfl) (byt_of hVows_add_b0 (j := 8) rfl) (byt_of hVows_add_b0 (j := 9) rfl) rfl
theorem dVows_add_10 : decode (mcc mVows_add) 10 = .ok (.iload 5, 2) := o21 (a := 5) (byt_of hVows_add_b0 (j := 10) rfl) (byt_of hVows_add_b0 (j := 11) rfl)
theorem dVows_add_12 : decode (mcc mVows_add) 12 = .ok (.iload_n 1, 1) := o27 (byt_of hVows_add_b0 (j := 12) rfl)
theorem dVows_add_13 : decode (mcc mVows_add) 13 = .ok (.iastore, 1) := o79 (byt_of hVows_add_b0 (j := 13) rfl)
theorem dVows_add_14 : decode (mcc mVows_add) 14 = .ok (.aload_n 0, 1) := o42 (byt_of hVows_add_b0 (j := 14) rfl)
theorem dVows_add_15 : decode (mcc mVows_add) 15 = .ok (.getfield 15, 3) := o180 (a := 0) (b := 15) (byt_of hVows_add_b0 (j := 15) rfl) (byt_of hVows_add_b0 (j := 16) rfl) (byt_of hVows_add_b0 (j := 17) rfl) rfl
theorem dVows_add_18 : decode (mcc mVows_add) 18 = .ok (.iload 5, 2) := o21 (a := 5) (byt_of hVows_add_b0 (j := 18) rfl) (byt_of hVows_add_b0 (j := 19) rfl)
theorem dVows_add_20 : decode (mcc mVows_add) 20 = .ok (.iload_n 2, 1) := o28 (byt_of hVows_add_b0 (j := 20) rfl)
theorem dVows_add_21 : decode (mcc mVows_add) 21 = .ok (.iastore, 1) := o79 (byt_of hVows_add_b0 (j := 21) rfl)
theorem dVows_add_22 : decode (mcc mVows_add) 22 = .ok (.aload_n 0, 1) := o42 (byt_of hVows_add_b0 (j := 22) rfl)
theorem dVows_add_23 : decode (mcc mVows_add) 23 = .ok (.getfield 18, 3) := o180 (a := 0) (b := 18) (byt_of hVows_add_b0 (j := 23) rfl) (byt_of hVows_add_b0 (j := 24) rfl) (byt_of hVows_add_b0 (j := 25) rfl) rfl
theorem dVows_add_26 : decode (mcc mVows_add) 26 = .ok (.iload 5, 2) := o21 (a := 5) (byt_of hVows_add_b0 (j := 26) rfl) (byt_of hVows_add_b0 (j := 27) rfl)
theorem dVows_add_28 : decode (mcc mVows_add) 28 = .ok (.iload_n 3, 1) := o29 (byt_of hVows_add_b0 (j := 28) rfl)
theorem dVows_add_29 : decode (mcc mVows_add) 29 = .ok (.iastore, 1) := o79 (byt_of hVows_add_b0 (j := 29) rfl)
theorem dVows_add_30 : decode (mcc mVows_add) 30 = .ok (.aload_n 0, 1) := o42 (byt_of hVows_add_b0 (j := 30) rfl)
theorem dVows_add_31 : decode (mcc mVows_add) 31 = .ok (.getfield 21, 3) := o180 (a := 0) (b := 21) (byt_of hVows_add_b0 (j := 31) rfl) (byt_of hVows_add_b0 (j := 32) rfl) (byt_of hVows_add_b0 (j := 33) rfl) rfl
def bVows_add_b1 : List Nat := [0, 21, 21, 5, 21, 4, 79, 42, 21, 5, 4, 96, 181, 0, 24, 21, 5, 172]
theorem hVows_add_b1 : BL (mcc mVows_add) 32 bVows_add_b1 := by decide +kernel
theorem dVows_add_34 : decode (mcc mVows_add) 34 = .ok (.iload 5, 2) := o21 (a := 5) (byt_of hVows_add_b1 (j := 2) rfl) (byt_of hVows_add_b1 (j := 3) rfl)
theorem dVows_add_36 : decode (mcc mVows_add) 36 = .ok (.iload 4, 2) := o21 (a := 4) (byt_of hVows_add_b1 (j := 4) rfl) (byt_of hVows_add_b1 (j := 5) rfl)
theorem dVows_add_38 : decode (mcc mVows_add) 38 = .ok (.iastore, 1) := o79 (byt_of hVows_add_b1 (j := 6) rfl)
theorem dVows_add_39 : decode (mcc mVows_add) 39 = .ok (.aload_n 0, 1) := o42 (byt_of hVows_add_b1 (j := 7) rfl)
theorem dVows_add_40 : decode (mcc mVows_add) 40 = .ok (.iload 5, 2) := o21 (a := 5) (byt_of hVows_add_b1 (j := 8) rfl) (byt_of hVows_add_b1 (j := 9) rfl)
theorem dVows_add_42 : decode (mcc mVows_add) 42 = .ok (.iconst 1, 1) := o4 (byt_of hVows_add_b1 (j := 10) rfl)
theorem dVows_add_43 : decode (mcc mVows_add) 43 = .ok (.iadd, 1) := o96 (byt_of hVows_add_b1 (j := 11) rfl)
theorem dVows_add_44 : decode (mcc mVows_add) 44 = .ok (.putfield 24, 3) := o181 (a := 0) (b := 24) (byt_of hVows_add_b1 (j := 12) rfl) (byt_of hVows_add_b1 (j := 13) rfl) (byt_of hVows_add_b1 (j := 14) rfl) rfl
theorem dVows_add_47 : decode (mcc mVows_add) 47 = .ok (.iload 5, 2) := o21 (a := 5) (byt_of hVows_add_b1 (j := 15) rfl) (byt_of hVows_add_b1 (j := 16) rfl)
theorem dVows_add_49 : decode (mcc mVows_add) 49 = .ok (.ireturn, 1) := o172 (byt_of hVows_add_b1 (j := 17) rfl)
def bW_init_b0 : List Nat := [42, 183, 0, 3, 42, 187, 0, 9, 89, 183, 0, 11, 181, 0, 12, 42, 187, 0, 16, 89, 183, 0, 18, 181, 0, 19, 42, 187, 0, 23, 89, 183, 0, 25, 181, 0, 26, 42]
theorem hW_init_b0 : BL (mcc mW_init) 0 bW_init_b0 := by decide +kernel
theorem dW_init_0 : decode (mcc mW_init) 0 = .ok (.aload_n 0, 1) := o42 (byt_of hW_init_b0 (j := 0) rfl)
theorem dW_init_1 : decode (mcc mW_init) 1 = .ok (.invokespecial 3, 3) := o183 (a := 0) (b := 3) (byt_of hW_init_b0 (j := 1) rfl) (byt_of hW_init_b0 (j := 2) rfl) (byt_of hW_init_b0 (j := 3) rfl) rfl
theorem dW_init_4 : decode (mcc mW_init) 4 = .ok (.aload_n 0, 1) := o42 (byt_of hW_init_b0 (j := 4) rfl)
theorem dW_init_5 : decode (mcc mW_init) 5 = .ok (.new 9, 3) := o187 (a := 0) (b := 9) (byt_of hW_init_b0 (j := 5) rfl) (byt_of hW_init_b0 (j := 6) rfl) (byt_of hW_init_b0 (j := 7) rfl) rfl
theorem dW_init_8 : decode (mcc mW_init) 8 = .ok (.dup, 1) := o89 (byt_of hW_init_b0 (j := 8) rfl)
theorem dW_init_9 : decode (mcc mW_init) 9 = .ok (.invokespecial 11, 3) := o183 (a := 0) (b := 11) (byt_of hW_init_b0 (j := 9) rfl) (byt_of hW_init_b0 (j := 10) rfl) (byt_of hW_init_b0 (j := 11) rfl) rfl
theorem dW_init_12 : decode (mcc mW_init) 12 = .ok (.putfield 12, 3) := o181 (a := 0) (b := 12) (byt_of hW_init_b0 (j := 12) rfl) (byt_of hW_init_b0 (j := 13) rfl) (byt_of hW_init_b0 (j := 14) rfl) rfl
theorem dW_init_15 : decode (mcc mW_init) 15 = .ok (.aload_n 0, 1) := o42 (byt_of hW_init_b0 (j := 15) rfl)
theorem dW_init_16 : decode (mcc mW_init) 16 = .ok (.new 16, 3) := o187 (a := 0) (b := 16) (byt_of hW_init_b0 (j := 16) rfl) (byt_of hW_init_b0 (j := 17) rfl) (byt_of hW_init_b0 (j := 18) rfl) rfl
theorem dW_init_19 : decode (mcc mW_init) 19 = .ok (.dup, 1) := o89 (byt_of hW_init_b0 (j := 19) rfl)
theorem dW_init_20 : decode (mcc mW_init) 20 = .ok (.invokespecial 18, 3) := o183 (a := 0) (b := 18) (byt_of hW_init_b0 (j := 20) rfl) (byt_of hW_init_b0 (j := 21) rfl) (byt_of hW_init_b0 (j := 22) rfl) rfl
theorem dW_init_23 : decode (mcc mW_init) 23 = .ok (.putfield 19, 3) := o181 (a := 0) (b := 19) (byt_of hW_init_b0 (j := 23) rfl) (byt_of hW_init_b0 (j := 24) rfl) (byt_of hW_init_b0 (j := 25) rfl) rfl
theorem dW_init_26 : decode (mcc mW_init) 26 = .ok (.aload_n 0, 1) := o42 (byt_of hW_init_b0 (j := 26) rfl)
theorem dW_init_27 : decode (mcc mW_init) 27 = .ok (.new 23, 3) := o187 (a := 0) (b := 23) (byt_of hW_init_b0 (j := 27) rfl) (byt_of hW_init_b0 (j := 28) rfl) (byt_of hW_init_b0 (j := 29) rfl) rfl
theorem dW_init_30 : decode (mcc mW_init) 30 = .ok (.dup, 1) := o89 (byt_of hW_init_b0 (j := 30) rfl)
theorem dW_init_31 : decode (mcc mW_init) 31 = .ok (.invokespecial 25, 3) := o183 (a := 0) (b := 25) (byt_of hW_init_b0 (j := 31) rfl) (byt_of hW_init_b0 (j := 32) rfl) (byt_of hW_init_b0 (j := 33) rfl) rfl
def bW_init_b1 : List Nat := [0, 25, 181, 0, 26, 42, 187, 0, 30, 89, 183, 0, 32, 181, 0, 33, 42, 187, 0, 37, 89, 183, 0, 39, 181, 0, 40, 42, 187, 0, 44, 89, 183, 0, 46, 181, 0, 47]
theorem hW_init_b1 : BL (mcc mW_init) 32 bW_init_b1 := by decide +kernel
theorem dW_init_34 : decode (mcc mW_init) 34 = .ok (.putfield 26, 3) := o181 (a := 0) (b := 26) (byt_of hW_init_b1 (j := 2) rfl) (byt_of hW_init_b1 (j := 3) rfl) (byt_of hW_init_b1 (j := 4) rfl) rfl
theorem dW_init_37 : decode (mcc mW_init) 37 = .ok (.aload_n 0, 1) := o42 (byt_of hW_init_b1 (j := 5) rfl)
theorem dW_init_38 : decode (mcc mW_init) 38 = .ok (.new 30, 3) := o187 (a := 0) (b := 30) (byt_of hW_init_b1 (j := 6) rfl) (byt_of hW_init_b1 (j := 7) rfl) (byt_of hW_init_b1 (j := 8) rfl) rfl
theorem dW_init_41 : decode (mcc mW_init) 41 = .ok (.dup, 1) := o89 (byt_of hW_init_b1 (j := 9) rfl)
theorem dW_init_42 : decode (mcc mW_init) 42 = .ok (.invokespecial 32, 3) := o183 (a := 0) (b := 32) (byt_of hW_init_b1 (j := 10) rfl) (byt_of hW_init_b1 (j := 11) rfl) (byt_of hW_init_b1 (j := 12) rfl) rfl
theorem dW_init_45 : decode (mcc mW_init) 45 = .ok (.putfield 33, 3) := o181 (a := 0) (b := 33) (byt_of hW_init_b1 (j := 13) rfl) (byt_of hW_init_b1 (j := 14) rfl) (byt_of hW_init_b1 (j := 15) rfl) rfl
theorem dW_init_48 : decode (mcc mW_init) 48 = .ok (.aload_n 0, 1) := o42 (byt_of hW_init_b1 (j := 16) rfl)
theorem dW_init_49 : decode (mcc mW_init) 49 = .ok (.new 37, 3) := o187 (a := 0) (b := 37) (byt_of hW_init_b1 (j := 17) rfl) (byt_of hW_init_b1 (j := 18) rfl) (byt_of hW_init_b1 (j := 19) rfl) rfl
theorem dW_init_52 : decode (mcc mW_init) 52 = .ok (.dup, 1) := o89 (byt_of hW_init_b1 (j := 20) rfl)
theorem dW_init_53 : decode (mcc mW_init) 53 = .ok (.invokespecial 39, 3) := o183 (a := 0) (b := 39) (byt_of hW_init_b1 (j := 21) rfl) (byt_of hW_init_b1 (j := 22) rfl) (byt_of hW_init_b1 (j := 23) rfl) rfl
theorem dW_init_56 : decode (mcc mW_init) 56 = .ok (.putfield 40, 3) := o181 (a := 0) (b := 40) (byt_of hW_init_b1 (j := 24) rfl) (byt_of hW_init_b1 (j := 25) rfl) (byt_of hW_init_b1 (j := 26) rfl) rfl
theorem dW_init_59 : decode (mcc mW_init) 59 = .ok (.aload_n 0, 1) := o42 (byt_of hW_init_b1 (j := 27) rfl)
theorem dW_init_60 : decode (mcc mW_init) 60 = .ok (.new 44, 3) := o187 (a := 0) (b := 44) (byt_of hW_init_b1 (j := 28) rfl) (byt_of hW_init_b1 (j := 29) rfl) (byt_of hW_init_b1 (j := 30) rfl) rfl
theorem dW_init_63 : decode (mcc mW_init) 63 = .ok (.dup, 1) := o89 (byt_of hW_init_b1 (j := 31) rfl)
def bW_init_b2 : List Nat := [183, 0, 46, 181, 0, 47, 42, 187, 0, 51, 89, 42, 180, 0, 12, 42, 180, 0, 19, 42, 180, 0, 26, 42, 180, 0, 33, 42, 180, 0, 47, 183, 0, 53, 181, 0, 56, 42]
theorem hW_init_b2 : BL (mcc mW_init) 64 bW_init_b2 := by decide +kernel
theorem dW_init_64 : decode (mcc mW_init) 64 = .ok (.invokespecial 46, 3) := o183 (a := 0) (b := 46) (byt_of hW_init_b2 (j := 0) rfl) (byt_of hW_init_b2 (j := 1) rfl) (byt_of hW_init_b2 (j := 2) rfl) rfl
theorem dW_init_67 : decode (mcc mW_init) 67 = .ok (.putfield 47, 3) := o181 (a := 0) (b := 47) (byt_of hW_init_b2 (j := 3) rfl) (byt_of hW_init_b2 (j := 4) rfl) (byt_of hW_init_b2 (j := 5) rfl) rfl
theorem dW_init_70 : decode (mcc mW_init) 70 = .ok (.aload_n 0, 1) := o42 (byt_of hW_init_b2 (j := 6) rfl)
theorem dW_init_71 : decode (mcc mW_init) 71 = .ok (.new 51, 3) := o187 (a := 0) (b := 51) (byt_of hW_init_b2 (j := 7) rfl) (byt_of hW_init_b2 (j := 8) rfl) (byt_of hW_init_b2 (j := 9) rfl) rfl
theorem dW_init_74 : decode (mcc mW_init) 74 = .ok (.dup, 1) := o89 (byt_of hW_init_b2 (j := 10) rfl)
theorem dW_init_75 : decode (mcc mW_init) 75 = .ok (.aload_n 0, 1) := o42 (byt_of hW_init_b2 (j := 11) rfl)
theorem dW_init_76 : decode (mcc mW_init) 76 = .ok (.getfield 12, 3) := o180 (a := 0) (b := 12) (byt_of hW_init_b2 (j := 12) rfl) (byt_of hW_init_b2 (j := 13) rfl) (byt_of hW_init_b2 (j := 14) rfl) rfl
theorem dW_init_79 : decode (mcc mW_init) 79 = .ok (.aload_n 0, 1) := o42 (byt_of hW_init_b2 (j := 15) rfl)
theorem dW_init_80 : decode (mcc mW_init) 80 = .ok (.getfield 19, 3) := o180 (a := 0) (b := 19) (byt_of hW_init_b2 (j := 16) rfl) (byt_of hW_init_b2 (j := 17) rfl) (byt_of hW_init_b2 (j := 18) rfl) rfl
theorem dW_init_83 : decode (mcc mW_init) 83 = .ok (.aload_n 0, 1) := o42 (byt_of hW_init_b2 (j := 19) rfl)
theorem dW_init_84 : decode (mcc mW_init) 84 = .ok (.getfield 26, 3) := o180 (a := 0) (b := 26) (byt_of hW_init_b2 (j := 20) rfl) (byt_of hW_init_b2 (j := 21) rfl) (byt_of hW_init_b2 (j := 22) rfl) rfl
theorem dW_init_87 : decode (mcc mW_init) 87 = .ok (.aload_n 0, 1) := o42 (byt_of hW_init_b2 (j := 23) rfl)
theorem dW_init_88 : decode (mcc mW_init) 88 = .ok (.getfield 33, 3) := o180 (a := 0) (b := 33) (byt_of hW_init_b2 (j := 24) rfl) (byt_of hW_init_b2 (j := 25) rfl) (byt_of hW_init_b2 (j := 26) rfl) rfl
theorem dW_init_91 : decode (mcc mW_init) 91 = .ok (.aload_n 0, 1) := o42 (byt_of hW_init_b2 (j := 27) rfl)
theorem dW_init_92 : decode (mcc mW_init) 92 = .ok (.getfield 47, 3) := o180 (a := 0) (b := 47) (byt_of hW_init_b2 (j := 28) rfl) (byt_of hW_init_b2 (j := 29) rfl) (byt_of hW_init_b2 (j := 30) rfl) rfl
theorem dW_init_95 : decode (mcc mW_init) 95 = .ok (.invokespecial 53, 3) := o183 (a := 0) (b := 53) (byt_of hW_init_b2 (j := 31) rfl) (byt_of hW_init_b2 (j := 32) rfl) (byt_of hW_init_b2 (j := 33) rfl) rfl
def bW_init_b3 : List Nat := [0, 53, 181, 0, 56, 42, 187, 0, 60, 89, 183, 0, 62, 181, 0, 63, 42, 187, 0, 67, 89, 183, 0, 69, 181, 0, 70, 3, 60, 27, 18, 74, 182, 0, 76, 162, 0, 22]
theorem hW_init_b3 : BL (mcc mW_init) 96 bW_init_b3 := by decide +kernel
theorem dW_init_98 : decode (mcc mW_init) 98 = .ok (.putfield 56, 3) := o181 (a := 0) (b := 56) (byt_of hW_init_b3 (j := 2) rfl) (byt_of hW_init_b3 (j := 3) rfl) (byt_of hW_init_b3 (j := 4) rfl) rfl
theorem dW_init_101 : decode (mcc mW_init) 101 = .ok (.aload_n 0, 1) := o42 (byt_of hW_init_b3 (j := 5) rfl)
theorem dW_init_102 : decode (mcc mW_init) 102 = .ok (.new 60, 3) := o187 (a := 0) (b := 60) (byt_of hW_init_b3 (j := 6) rfl) (byt_of hW_init_b3 (j := 7) rfl) (byt_of hW_init_b3 (j := 8) rfl) rfl
theorem dW_init_105 : decode (mcc mW_init) 105 = .ok (.dup, 1) := o89 (byt_of hW_init_b3 (j := 9) rfl)
theorem dW_init_106 : decode (mcc mW_init) 106 = .ok (.invokespecial 62, 3) := o183 (a := 0) (b := 62) (byt_of hW_init_b3 (j := 10) rfl) (byt_of hW_init_b3 (j := 11) rfl) (byt_of hW_init_b3 (j := 12) rfl) rfl
theorem dW_init_109 : decode (mcc mW_init) 109 = .ok (.putfield 63, 3) := o181 (a := 0) (b := 63) (byt_of hW_init_b3 (j := 13) rfl) (byt_of hW_init_b3 (j := 14) rfl) (byt_of hW_init_b3 (j := 15) rfl) rfl
theorem dW_init_112 : decode (mcc mW_init) 112 = .ok (.aload_n 0, 1) := o42 (byt_of hW_init_b3 (j := 16) rfl)
theorem dW_init_113 : decode (mcc mW_init) 113 = .ok (.new 67, 3) := o187 (a := 0) (b := 67) (byt_of hW_init_b3 (j := 17) rfl) (byt_of hW_init_b3 (j := 18) rfl) (byt_of hW_init_b3 (j := 19) rfl) rfl
theorem dW_init_116 : decode (mcc mW_init) 116 = .ok (.dup, 1) := o89 (byt_of hW_init_b3 (j := 20) rfl)
theorem dW_init_117 : decode (mcc mW_init) 117 = .ok (.invokespecial 69, 3) := o183 (a := 0) (b := 69) (byt_of hW_init_b3 (j := 21) rfl) (byt_of hW_init_b3 (j := 22) rfl) (byt_of hW_init_b3 (j := 23) rfl) rfl
theorem dW_init_120 : decode (mcc mW_init) 120 = .ok (.putfield 70, 3) := o181 (a := 0) (b := 70) (byt_of hW_init_b3 (j := 24) rfl) (byt_of hW_init_b3 (j := 25) rfl) (byt_of hW_init_b3 (j := 26) rfl) rfl
theorem dW_init_123 : decode (mcc mW_init) 123 = .ok (.iconst 0, 1) := o3 (byt_of hW_init_b3 (j := 27) rfl)
theorem dW_init_124 : decode (mcc mW_init) 124 = .ok (.istore_n 1, 1) := o60 (byt_of hW_init_b3 (j := 28) rfl)
theorem dW_init_125 : decode (mcc mW_init) 125 = .ok (.iload_n 1, 1) := o27 (byt_of hW_init_b3 (j := 29) rfl)
theorem dW_init_126 : decode (mcc mW_init) 126 = .ok (.ldc 74, 2) := o18 (a := 74) (byt_of hW_init_b3 (j := 30) rfl) (byt_of hW_init_b3 (j := 31) rfl)
def bW_init_b4 : List Nat := [182, 0, 76, 162, 0, 22, 42, 180, 0, 40, 18, 74, 27, 182, 0, 82, 182, 0, 86, 132, 1, 1, 167, 255, 231, 42, 180, 0, 40, 182, 0, 90, 153, 0, 15, 42, 180, 0]
theorem hW_init_b4 : BL (mcc mW_init) 128 bW_init_b4 := by decide +kernel
theorem dW_init_128 : decode (mcc mW_init) 128 = .ok (.invokevirtual 76, 3) := o182 (a := 0) (b := 76) (byt_of hW_init_b4 (j := 0) rfl) (byt_of hW_init_b4 (j := 1) rfl) (byt_of hW_init_b4 (j := 2) rfl) rfl
theorem dW_init_131 : decode (mcc mW_init) 131 = .ok (.if_icmp .ge 22, 3) := o162 (a := 0) (b := 22) (byt_of hW_init_b4 (j := 3) rfl) (byt_of hW_init_b4 (j := 4) rfl) (byt_of hW_init_b4 (j := 5) rfl) rfl
theorem dW_init_134 : decode (mcc mW_init) 134 = .ok (.aload_n 0, 1) := o42 (byt_of hW_init_b4 (j := 6) rfl)
theorem dW_init_135 : decode (mcc mW_init) 135 = .ok (.getfield 40, 3) := o180 (a := 0) (b := 40) (byt_of hW_init_b4 (j := 7) rfl) (byt_of hW_init_b4 (j := 8) rfl) (byt_of hW_init_b4 (j := 9) rfl) rfl
theorem dW_init_138 : decode (mcc mW_init) 138 = .ok (.ldc 74, 2) := o18 (a := 74) (byt_of hW_init_b4 (j := 10) rfl) (byt_of hW_init_b4 (j := 11) rfl)
theorem dW_init_140 : decode (mcc mW_init) 140 = .ok (.iload_n 1, 1) := o27 (byt_of hW_init_b4 (j := 12) rfl)
theorem dW_init_141 : decode (mcc mW_init) 141 = .ok (.invokevirtual 82, 3) := o182 (a := 0) (b := 82) (byt_of hW_init_b4 (j := 13) rfl) (byt_of hW_init_b4 (j := 14) rfl) (byt_of hW_init_b4 (j := 15) rfl) rfl
theorem dW_init_144 : decode (mcc mW_init) 144 = .ok (.invokevirtual 86, 3) := o182 (a := 0) (b := 86) (byt_of hW_init_b4 (j := 16) rfl) (byt_of hW_init_b4 (j := 17) rfl) (byt_of hW_init_b4 (j := 18) rfl) rfl
theorem dW_init_147 : decode (mcc mW_init) 147 = .ok (.iinc 1 1, 3) := o132 (a := 1) (b := 1) (byt_of hW_init_b4 (j := 19) rfl) (byt_of hW_init_b4 (j := 20) rfl) (byt_of hW_init_b4 (j := 21) rfl) rfl
theorem dW_init_150 : decode (mcc mW_init) 150 = .ok (.goto (-25), 3) := o167 (a := 255) (b := 231) (byt_of hW_init_b4 (j := 22) rfl) (byt_of hW_init_b4 (j := 23) rfl) (byt_of hW_init_b4 (j := 24) rfl) rfl
theorem dW_init_153 : decode (mcc mW_init) 153 = .ok (.aload_n 0, 1) := o42 (byt_of hW_init_b4 (j := 25) rfl)
theorem dW_init_154 : decode (mcc mW_init) 154 = .ok (.getfield 40, 3) := o180 (a := 0) (b := 40) (byt_of hW_init_b4 (j := 26) rfl) (byt_of hW_init_b4 (j := 27) rfl) (byt_of hW_init_b4 (j := 28) rfl) rfl
theorem dW_init_157 : decode (mcc mW_init) 157 = .ok (.invokevirtual 90, 3) := o182 (a := 0) (b := 90) (byt_of hW_init_b4 (j := 29) rfl) (byt_of hW_init_b4 (j := 30) rfl) (byt_of hW_init_b4 (j := 31) rfl) rfl
def bW_init_b5 : List Nat := [153, 0, 15, 42, 180, 0, 47, 42, 180, 0, 40, 182, 0, 94, 87, 42, 180, 0, 40, 182, 0, 98, 177]
theorem hW_init_b5 : BL (mcc mW_init) 160 bW_init_b5 := by decide +kernel
theorem dW_init_160 : decode (mcc mW_init) 160 = .ok (.ifCond .eq 15, 3) := o153 (a := 0) (b := 15) (byt_of hW_init_b5 (j := 0) rfl) (byt_of hW_init_b5 (j := 1) rfl) (byt_of hW_init_b5 (j := 2) rfl) rfl
theorem dW_init_163 : decode (mcc mW_init) 163 = .ok (.aload_n 0, 1) := o42 (byt_of hW_init_b5 (j := 3) rfl)
theorem dW_init_164 : decode (mcc mW_init) 164 = .ok (.getfield 47, 3) := o180 (a := 0) (b := 47) (byt_of hW_init_b5 (j := 4) rfl) (byt_of hW_init_b5 (j := 5) rfl) (byt_of hW_init_b5 (j := 6) rfl) rfl
theorem dW_init_167 : decode (mcc mW_init) 167 = .ok (.aload_n 0, 1) := o42 (byt_of hW_init_b5 (j := 7) rfl)
theorem dW_init_168 : decode (mcc mW_init) 168 = .ok (.getfield 40, 3) := o180 (a := 0) (b := 40) (byt_of hW_init_b5 (j := 8) rfl) (byt_of hW_init_b5 (j := 9) rfl) (byt_of hW_init_b5 (j := 10) rfl) rfl
theorem dW_init_171 : decode (mcc mW_init) 171 = .ok (.invokevirtual 94, 3) := o182 (a := 0) (b := 94) (byt_of hW_init_b5 (j := 11) rfl) (byt_of hW_init_b5 (j := 12) rfl) (byt_of hW_init_b5 (j := 13) rfl) rfl
theorem dW_init_174 : decode (mcc mW_init) 174 = .ok (.pop, 1) := o87 (byt_of hW_init_b5 (j := 14) rfl)
theorem dW_init_175 : decode (mcc mW_init) 175 = .ok (.aload_n 0, 1) := o42 (byt_of hW_init_b5 (j := 15) rfl)
theorem dW_init_176 : decode (mcc mW_init) 176 = .ok (.getfield 40, 3) := o180 (a := 0) (b := 40) (byt_of hW_init_b5 (j := 16) rfl) (byt_of hW_init_b5 (j := 17) rfl) (byt_of hW_init_b5 (j := 18) rfl) rfl
theorem dW_init_179 : decode (mcc mW_init) 179 = .ok (.invokevirtual 98, 3) := o182 (a := 0) (b := 98) (byt_of hW_init_b5 (j := 19) rfl) (byt_of hW_init_b5 (j := 20) rfl) (byt_of hW_init_b5 (j := 21) rfl) rfl
theorem dW_init_182 : decode (mcc mW_init) 182 = .ok (.return_, 1) := o177 (byt_of hW_init_b5 (j := 22) rfl)
def bW_far_b0 : List Nat := [27, 3, 8, 184, 0, 101, 153, 0, 17, 28, 3, 8, 184, 0, 101, 153, 0, 8, 27, 28, 160, 0, 5, 2, 172, 29, 3, 16, 9, 184, 0, 101, 154, 0, 6, 16, 254, 172]
theorem hW_far_b0 : BL (mcc mW_far) 0 bW_far_b0 := by decide +kernel
theorem dW_far_0 : decode (mcc mW_far) 0 = .ok (.iload_n 1, 1) := o27 (byt_of hW_far_b0 (j := 0) rfl)
theorem dW_far_1 : decode (mcc mW_far) 1 = .ok (.iconst 0, 1) := o3 (byt_of hW_far_b0 (j := 1) rfl)
theorem dW_far_2 : decode (mcc mW_far) 2 = .ok (.iconst 5, 1) := o8 (byt_of hW_far_b0 (j := 2) rfl)
theorem dW_far_3 : decode (mcc mW_far) 3 = .ok (.invokestatic 101, 3) := o184 (a := 0) (b := 101) (byt_of hW_far_b0 (j := 3) rfl) (byt_of hW_far_b0 (j := 4) rfl) (byt_of hW_far_b0 (j := 5) rfl) rfl
theorem dW_far_6 : decode (mcc mW_far) 6 = .ok (.ifCond .eq 17, 3) := o153 (a := 0) (b := 17) (byt_of hW_far_b0 (j := 6) rfl) (byt_of hW_far_b0 (j := 7) rfl) (byt_of hW_far_b0 (j := 8) rfl) rfl
theorem dW_far_9 : decode (mcc mW_far) 9 = .ok (.iload_n 2, 1) := o28 (byt_of hW_far_b0 (j := 9) rfl)
theorem dW_far_10 : decode (mcc mW_far) 10 = .ok (.iconst 0, 1) := o3 (byt_of hW_far_b0 (j := 10) rfl)
theorem dW_far_11 : decode (mcc mW_far) 11 = .ok (.iconst 5, 1) := o8 (byt_of hW_far_b0 (j := 11) rfl)
theorem dW_far_12 : decode (mcc mW_far) 12 = .ok (.invokestatic 101, 3) := o184 (a := 0) (b := 101) (byt_of hW_far_b0 (j := 12) rfl) (byt_of hW_far_b0 (j := 13) rfl) (byt_of hW_far_b0 (j := 14) rfl) rfl
theorem dW_far_15 : decode (mcc mW_far) 15 = .ok (.ifCond .eq 8, 3) := o153 (a := 0) (b := 8) (byt_of hW_far_b0 (j := 15) rfl) (byt_of hW_far_b0 (j := 16) rfl) (byt_of hW_far_b0 (j := 17) rfl) rfl
theorem dW_far_18 : decode (mcc mW_far) 18 = .ok (.iload_n 1, 1) := o27 (byt_of hW_far_b0 (j := 18) rfl)
theorem dW_far_19 : decode (mcc mW_far) 19 = .ok (.iload_n 2, 1) := o28 (byt_of hW_far_b0 (j := 19) rfl)
theorem dW_far_20 : decode (mcc mW_far) 20 = .ok (.if_icmp .ne 5, 3) := o160 (a := 0) (b := 5) (byt_of hW_far_b0 (j := 20) rfl) (byt_of hW_far_b0 (j := 21) rfl) (byt_of hW_far_b0 (j := 22) rfl) rfl
theorem dW_far_23 : decode (mcc mW_far) 23 = .ok (.iconst (-1), 1) := o2 (byt_of hW_far_b0 (j := 23) rfl)
theorem dW_far_24 : decode (mcc mW_far) 24 = .ok (.ireturn, 1) := o172 (byt_of hW_far_b0 (j := 24) rfl)
theorem dW_far_25 : decode (mcc mW_far) 25 = .ok (.iload_n 3, 1) := o29 (byt_of hW_far_b0 (j := 25) rfl)
theorem dW_far_26 : decode (mcc mW_far) 26 = .ok (.iconst 0, 1) := o3 (byt_of hW_far_b0 (j := 26) rfl)
theorem dW_far_27 : decode (mcc mW_far) 27 = .ok (.bipush 9, 2) := o16 (a := 9) (byt_of hW_far_b0 (j := 27) rfl) (byt_of hW_far_b0 (j := 28) rfl) rfl
theorem dW_far_29 : decode (mcc mW_far) 29 = .ok (.invokestatic 101, 3) := o184 (a := 0) (b := 101) (byt_of hW_far_b0 (j := 29) rfl) (byt_of hW_far_b0 (j := 30) rfl) (byt_of hW_far_b0 (j := 31) rfl) rfl
def bW_far_b1 : List Nat := [154, 0, 6, 16, 254, 172, 42, 180, 0, 12, 27, 28, 182, 0, 105, 54, 4, 42, 180, 0, 12, 27, 28, 29, 182, 0, 109, 21, 4, 172]
theorem hW_far_b1 : BL (mcc mW_far) 32 bW_far_b1 := by decide +kernel
theorem dW_far_32 : decode (mcc mW_far) 32 = .ok (.ifCond .ne 6, 3) := o154 (a := 0) (b := 6) (byt_of hW_far_b1 (j := 0) rfl) (byt_of hW_far_b1 (j := 1) rfl) (byt_of hW_far_b1 (j := 2) rfl) rfl
theorem dW_far_35 : decode (mcc mW_far) 35 = .ok (.bipush (-2), 2) := o16 (a := 254) (byt_of hW_far_b1 (j := 3) rfl) (byt_of hW_far_b1 (j := 4) rfl) rfl
theorem dW_far_37 : decode (mcc mW_far) 37 = .ok (.ireturn, 1) := o172 (byt_of hW_far_b1 (j := 5) rfl)
theorem dW_far_38 : decode (mcc mW_far) 38 = .ok (.aload_n 0, 1) := o42 (byt_of hW_far_b1 (j := 6) rfl)
theorem dW_far_39 : decode (mcc mW_far) 39 = .ok (.getfield 12, 3) := o180 (a := 0) (b := 12) (byt_of hW_far_b1 (j := 7) rfl) (byt_of hW_far_b1 (j := 8) rfl) (byt_of hW_far_b1 (j := 9) rfl) rfl
theorem dW_far_42 : decode (mcc mW_far) 42 = .ok (.iload_n 1, 1) := o27 (byt_of hW_far_b1 (j := 10) rfl)
theorem dW_far_43 : decode (mcc mW_far) 43 = .ok (.iload_n 2, 1) := o28 (byt_of hW_far_b1 (j := 11) rfl)
theorem dW_far_44 : decode (mcc mW_far) 44 = .ok (.invokevirtual 105, 3) := o182 (a := 0) (b := 105) (byt_of hW_far_b1 (j := 12) rfl) (byt_of hW_far_b1 (j := 13) rfl) (byt_of hW_far_b1 (j := 14) rfl) rfl
theorem dW_far_47 : decode (mcc mW_far) 47 = .ok (.istore 4, 2) := o54 (a := 4) (byt_of hW_far_b1 (j := 15) rfl) (byt_of hW_far_b1 (j := 16) rfl)
theorem dW_far_49 : decode (mcc mW_far) 49 = .ok (.aload_n 0, 1) := o42 (byt_of hW_far_b1 (j := 17) rfl)
theorem dW_far_50 : decode (mcc mW_far) 50 = .ok (.getfield 12, 3) := o180 (a := 0) (b := 12) (byt_of hW_far_b1 (j := 18) rfl) (byt_of hW_far_b1 (j := 19) rfl) (byt_of hW_far_b1 (j := 20) rfl) rfl
theorem dW_far_53 : decode (mcc mW_far) 53 = .ok (.iload_n 1, 1) := o27 (byt_of hW_far_b1 (j := 21) rfl)
theorem dW_far_54 : decode (mcc mW_far) 54 = .ok (.iload_n 2, 1) := o28 (byt_of hW_far_b1 (j := 22) rfl)
theorem dW_far_55 : decode (mcc mW_far) 55 = .ok (.iload_n 3, 1) := o29 (byt_of hW_far_b1 (j := 23) rfl)
theorem dW_far_56 : decode (mcc mW_far) 56 = .ok (.invokevirtual 109, 3) := o182 (a := 0) (b := 109) (byt_of hW_far_b1 (j := 24) rfl) (byt_of hW_far_b1 (j := 25) rfl) (byt_of hW_far_b1 (j := 26) rfl) rfl
theorem dW_far_59 : decode (mcc mW_far) 59 = .ok (.iload 4, 2) := o21 (a := 4) (byt_of hW_far_b1 (j := 27) rfl) (byt_of hW_far_b1 (j := 28) rfl)
theorem dW_far_61 : decode (mcc mW_far) 61 = .ok (.ireturn, 1) := o172 (byt_of hW_far_b1 (j := 29) rfl)
def bW_hush_b0 : List Nat := [27, 3, 8, 184, 0, 101, 154, 0, 5, 2, 172, 28, 3, 16, 9, 184, 0, 101, 154, 0, 6, 16, 254, 172, 42, 180, 0, 12, 180, 0, 113, 27, 46, 62, 42, 180, 0, 12]
theorem hW_hush_b0 : BL (mcc mW_hush) 0 bW_hush_b0 := by decide +kernel
theorem dW_hush_0 : decode (mcc mW_hush) 0 = .ok (.iload_n 1, 1) := o27 (byt_of hW_hush_b0 (j := 0) rfl)
theorem dW_hush_1 : decode (mcc mW_hush) 1 = .ok (.iconst 0, 1) := o3 (byt_of hW_hush_b0 (j := 1) rfl)
theorem dW_hush_2 : decode (mcc mW_hush) 2 = .ok (.iconst 5, 1) := o8 (byt_of hW_hush_b0 (j := 2) rfl)
theorem dW_hush_3 : decode (mcc mW_hush) 3 = .ok (.invokestatic 101, 3) := o184 (a := 0) (b := 101) (byt_of hW_hush_b0 (j := 3) rfl) (byt_of hW_hush_b0 (j := 4) rfl) (byt_of hW_hush_b0 (j := 5) rfl) rfl
theorem dW_hush_6 : decode (mcc mW_hush) 6 = .ok (.ifCond .ne 5, 3) := o154 (a := 0) (b := 5) (byt_of hW_hush_b0 (j := 6) rfl) (byt_of hW_hush_b0 (j := 7) rfl) (byt_of hW_hush_b0 (j := 8) rfl) rfl
theorem dW_hush_9 : decode (mcc mW_hush) 9 = .ok (.iconst (-1), 1) := o2 (byt_of hW_hush_b0 (j := 9) rfl)
theorem dW_hush_10 : decode (mcc mW_hush) 10 = .ok (.ireturn, 1) := o172 (byt_of hW_hush_b0 (j := 10) rfl)
theorem dW_hush_11 : decode (mcc mW_hush) 11 = .ok (.iload_n 2, 1) := o28 (byt_of hW_hush_b0 (j := 11) rfl)
theorem dW_hush_12 : decode (mcc mW_hush) 12 = .ok (.iconst 0, 1) := o3 (byt_of hW_hush_b0 (j := 12) rfl)
theorem dW_hush_13 : decode (mcc mW_hush) 13 = .ok (.bipush 9, 2) := o16 (a := 9) (byt_of hW_hush_b0 (j := 13) rfl) (byt_of hW_hush_b0 (j := 14) rfl) rfl
theorem dW_hush_15 : decode (mcc mW_hush) 15 = .ok (.invokestatic 101, 3) := o184 (a := 0) (b := 101) (byt_of hW_hush_b0 (j := 15) rfl) (byt_of hW_hush_b0 (j := 16) rfl) (byt_of hW_hush_b0 (j := 17) rfl) rfl
theorem dW_hush_18 : decode (mcc mW_hush) 18 = .ok (.ifCond .ne 6, 3) := o154 (a := 0) (b := 6) (byt_of hW_hush_b0 (j := 18) rfl) (byt_of hW_hush_b0 (j := 19) rfl) (byt_of hW_hush_b0 (j := 20) rfl) rfl
theorem dW_hush_21 : decode (mcc mW_hush) 21 = .ok (.bipush (-2), 2) := o16 (a := 254) (byt_of hW_hush_b0 (j := 21) rfl) (byt_of hW_hush_b0 (j := 22) rfl) rfl
theorem dW_hush_23 : decode (mcc mW_hush) 23 = .ok (.ireturn, 1) := o172 (byt_of hW_hush_b0 (j := 23) rfl)
theorem dW_hush_24 : decode (mcc mW_hush) 24 = .ok (.aload_n 0, 1) := o42 (byt_of hW_hush_b0 (j := 24) rfl)
theorem dW_hush_25 : decode (mcc mW_hush) 25 = .ok (.getfield 12, 3) := o180 (a := 0) (b := 12) (byt_of hW_hush_b0 (j := 25) rfl) (byt_of hW_hush_b0 (j := 26) rfl) (byt_of hW_hush_b0 (j := 27) rfl) rfl
theorem dW_hush_28 : decode (mcc mW_hush) 28 = .ok (.getfield 113, 3) := o180 (a := 0) (b := 113) (byt_of hW_hush_b0 (j := 28) rfl) (byt_of hW_hush_b0 (j := 29) rfl) (byt_of hW_hush_b0 (j := 30) rfl) rfl
theorem dW_hush_31 : decode (mcc mW_hush) 31 = .ok (.iload_n 1, 1) := o27 (byt_of hW_hush_b0 (j := 31) rfl)
def bW_hush_b1 : List Nat := [46, 62, 42, 180, 0, 12, 180, 0, 113, 27, 28, 79, 29, 172]
theorem hW_hush_b1 : BL (mcc mW_hush) 32 bW_hush_b1 := by decide +kernel
theorem dW_hush_32 : decode (mcc mW_hush) 32 = .ok (.iaload, 1) := o46 (byt_of hW_hush_b1 (j := 0) rfl)
theorem dW_hush_33 : decode (mcc mW_hush) 33 = .ok (.istore_n 3, 1) := o62 (byt_of hW_hush_b1 (j := 1) rfl)
theorem dW_hush_34 : decode (mcc mW_hush) 34 = .ok (.aload_n 0, 1) := o42 (byt_of hW_hush_b1 (j := 2) rfl)
theorem dW_hush_35 : decode (mcc mW_hush) 35 = .ok (.getfield 12, 3) := o180 (a := 0) (b := 12) (byt_of hW_hush_b1 (j := 3) rfl) (byt_of hW_hush_b1 (j := 4) rfl) (byt_of hW_hush_b1 (j := 5) rfl) rfl
theorem dW_hush_38 : decode (mcc mW_hush) 38 = .ok (.getfield 113, 3) := o180 (a := 0) (b := 113) (byt_of hW_hush_b1 (j := 6) rfl) (byt_of hW_hush_b1 (j := 7) rfl) (byt_of hW_hush_b1 (j := 8) rfl) rfl
theorem dW_hush_41 : decode (mcc mW_hush) 41 = .ok (.iload_n 1, 1) := o27 (byt_of hW_hush_b1 (j := 9) rfl)
theorem dW_hush_42 : decode (mcc mW_hush) 42 = .ok (.iload_n 2, 1) := o28 (byt_of hW_hush_b1 (j := 10) rfl)
theorem dW_hush_43 : decode (mcc mW_hush) 43 = .ok (.iastore, 1) := o79 (byt_of hW_hush_b1 (j := 11) rfl)
theorem dW_hush_44 : decode (mcc mW_hush) 44 = .ok (.iload_n 3, 1) := o29 (byt_of hW_hush_b1 (j := 12) rfl)
theorem dW_hush_45 : decode (mcc mW_hush) 45 = .ok (.ireturn, 1) := o172 (byt_of hW_hush_b1 (j := 13) rfl)
def bW_stride_b0 : List Nat := [27, 3, 16, 9, 184, 0, 101, 154, 0, 6, 16, 254, 172, 42, 180, 0, 12, 180, 0, 117, 61, 42, 180, 0, 12, 27, 181, 0, 117, 28, 172]
theorem hW_stride_b0 : BL (mcc mW_stride) 0 bW_stride_b0 := by decide +kernel
theorem dW_stride_0 : decode (mcc mW_stride) 0 = .ok (.iload_n 1, 1) := o27 (byt_of hW_stride_b0 (j := 0) rfl)
theorem dW_stride_1 : decode (mcc mW_stride) 1 = .ok (.iconst 0, 1) := o3 (byt_of hW_stride_b0 (j := 1) rfl)
theorem dW_stride_2 : decode (mcc mW_stride) 2 = .ok (.bipush 9, 2) := o16 (a := 9) (byt_of hW_stride_b0 (j := 2) rfl) (byt_of hW_stride_b0 (j := 3) rfl) rfl
theorem dW_stride_4 : decode (mcc mW_stride) 4 = .ok (.invokestatic 101, 3) := o184 (a := 0) (b := 101) (byt_of hW_stride_b0 (j := 4) rfl) (byt_of hW_stride_b0 (j := 5) rfl) (byt_of hW_stride_b0 (j := 6) rfl) rfl
theorem dW_stride_7 : decode (mcc mW_stride) 7 = .ok (.ifCond .ne 6, 3) := o154 (a := 0) (b := 6) (byt_of hW_stride_b0 (j := 7) rfl) (byt_of hW_stride_b0 (j := 8) rfl) (byt_of hW_stride_b0 (j := 9) rfl) rfl
theorem dW_stride_10 : decode (mcc mW_stride) 10 = .ok (.bipush (-2), 2) := o16 (a := 254) (byt_of hW_stride_b0 (j := 10) rfl) (byt_of hW_stride_b0 (j := 11) rfl) rfl
theorem dW_stride_12 : decode (mcc mW_stride) 12 = .ok (.ireturn, 1) := o172 (byt_of hW_stride_b0 (j := 12) rfl)
theorem dW_stride_13 : decode (mcc mW_stride) 13 = .ok (.aload_n 0, 1) := o42 (byt_of hW_stride_b0 (j := 13) rfl)
theorem dW_stride_14 : decode (mcc mW_stride) 14 = .ok (.getfield 12, 3) := o180 (a := 0) (b := 12) (byt_of hW_stride_b0 (j := 14) rfl) (byt_of hW_stride_b0 (j := 15) rfl) (byt_of hW_stride_b0 (j := 16) rfl) rfl
theorem dW_stride_17 : decode (mcc mW_stride) 17 = .ok (.getfield 117, 3) := o180 (a := 0) (b := 117) (byt_of hW_stride_b0 (j := 17) rfl) (byt_of hW_stride_b0 (j := 18) rfl) (byt_of hW_stride_b0 (j := 19) rfl) rfl
theorem dW_stride_20 : decode (mcc mW_stride) 20 = .ok (.istore_n 2, 1) := o61 (byt_of hW_stride_b0 (j := 20) rfl)
theorem dW_stride_21 : decode (mcc mW_stride) 21 = .ok (.aload_n 0, 1) := o42 (byt_of hW_stride_b0 (j := 21) rfl)
theorem dW_stride_22 : decode (mcc mW_stride) 22 = .ok (.getfield 12, 3) := o180 (a := 0) (b := 12) (byt_of hW_stride_b0 (j := 22) rfl) (byt_of hW_stride_b0 (j := 23) rfl) (byt_of hW_stride_b0 (j := 24) rfl) rfl
theorem dW_stride_25 : decode (mcc mW_stride) 25 = .ok (.iload_n 1, 1) := o27 (byt_of hW_stride_b0 (j := 25) rfl)
theorem dW_stride_26 : decode (mcc mW_stride) 26 = .ok (.putfield 117, 3) := o181 (a := 0) (b := 117) (byt_of hW_stride_b0 (j := 26) rfl) (byt_of hW_stride_b0 (j := 27) rfl) (byt_of hW_stride_b0 (j := 28) rfl) rfl
theorem dW_stride_29 : decode (mcc mW_stride) 29 = .ok (.iload_n 2, 1) := o28 (byt_of hW_stride_b0 (j := 29) rfl)
theorem dW_stride_30 : decode (mcc mW_stride) 30 = .ok (.ireturn, 1) := o172 (byt_of hW_stride_b0 (j := 30) rfl)
def bW_count_b0 : List Nat := [27, 170, 0, 0, 0, 0, 0, 99, 0, 0, 0, 0, 0, 0, 0, 6, 0, 0, 0, 43, 0, 0, 0, 51, 0, 0, 0, 59, 0, 0, 0, 67, 0, 0, 0, 75, 0, 0]
theorem hW_count_b0 : BL (mcc mW_count) 0 bW_count_b0 := by decide +kernel
theorem dW_count_0 : decode (mcc mW_count) 0 = .ok (.iload_n 1, 1) := o27 (byt_of hW_count_b0 (j := 0) rfl)
theorem dW_count_1 : decode (mcc mW_count) 1 = .ok (.tableswitch 99 0 6 #[43, 51, 59, 67, 75, 83, 91], 43) := by decide +kernel
def bW_count_b1 : List Nat := [0, 0, 0, 75, 0, 0, 0, 83, 0, 0, 0, 91, 42, 180, 0, 12, 180, 0, 117, 172, 42, 180, 0, 19, 180, 0, 121, 172, 42, 180, 0, 26, 180, 0, 124, 172, 42, 180]
theorem hW_count_b1 : BL (mcc mW_count) 32 bW_count_b1 := by decide +kernel
theorem dW_count_44 : decode (mcc mW_count) 44 = .ok (.aload_n 0, 1) := o42 (byt_of hW_count_b1 (j := 12) rfl)
theorem dW_count_45 : decode (mcc mW_count) 45 = .ok (.getfield 12, 3) := o180 (a := 0) (b := 12) (byt_of hW_count_b1 (j := 13) rfl) (byt_of hW_count_b1 (j := 14) rfl) (byt_of hW_count_b1 (j := 15) rfl) rfl
theorem dW_count_48 : decode (mcc mW_count) 48 = .ok (.getfield 117, 3) := o180 (a := 0) (b := 117) (byt_of hW_count_b1 (j := 16) rfl) (byt_of hW_count_b1 (j := 17) rfl) (byt_of hW_count_b1 (j := 18) rfl) rfl
theorem dW_count_51 : decode (mcc mW_count) 51 = .ok (.ireturn, 1) := o172 (byt_of hW_count_b1 (j := 19) rfl)
theorem dW_count_52 : decode (mcc mW_count) 52 = .ok (.aload_n 0, 1) := o42 (byt_of hW_count_b1 (j := 20) rfl)
theorem dW_count_53 : decode (mcc mW_count) 53 = .ok (.getfield 19, 3) := o180 (a := 0) (b := 19) (byt_of hW_count_b1 (j := 21) rfl) (byt_of hW_count_b1 (j := 22) rfl) (byt_of hW_count_b1 (j := 23) rfl) rfl
theorem dW_count_56 : decode (mcc mW_count) 56 = .ok (.getfield 121, 3) := o180 (a := 0) (b := 121) (byt_of hW_count_b1 (j := 24) rfl) (byt_of hW_count_b1 (j := 25) rfl) (byt_of hW_count_b1 (j := 26) rfl) rfl
theorem dW_count_59 : decode (mcc mW_count) 59 = .ok (.ireturn, 1) := o172 (byt_of hW_count_b1 (j := 27) rfl)
theorem dW_count_60 : decode (mcc mW_count) 60 = .ok (.aload_n 0, 1) := o42 (byt_of hW_count_b1 (j := 28) rfl)
theorem dW_count_61 : decode (mcc mW_count) 61 = .ok (.getfield 26, 3) := o180 (a := 0) (b := 26) (byt_of hW_count_b1 (j := 29) rfl) (byt_of hW_count_b1 (j := 30) rfl) (byt_of hW_count_b1 (j := 31) rfl) rfl
def bW_count_b2 : List Nat := [180, 0, 124, 172, 42, 180, 0, 33, 180, 0, 125, 172, 42, 180, 0, 47, 180, 0, 126, 172, 42, 180, 0, 47, 180, 0, 127, 172, 42, 180, 0, 40, 180, 0, 130, 172, 16, 254]
theorem hW_count_b2 : BL (mcc mW_count) 64 bW_count_b2 := by decide +kernel
theorem dW_count_64 : decode (mcc mW_count) 64 = .ok (.getfield 124, 3) := o180 (a := 0) (b := 124) (byt_of hW_count_b2 (j := 0) rfl) (byt_of hW_count_b2 (j := 1) rfl) (byt_of hW_count_b2 (j := 2) rfl) rfl
theorem dW_count_67 : decode (mcc mW_count) 67 = .ok (.ireturn, 1) := o172 (byt_of hW_count_b2 (j := 3) rfl)
theorem dW_count_68 : decode (mcc mW_count) 68 = .ok (.aload_n 0, 1) := o42 (byt_of hW_count_b2 (j := 4) rfl)
theorem dW_count_69 : decode (mcc mW_count) 69 = .ok (.getfield 33, 3) := o180 (a := 0) (b := 33) (byt_of hW_count_b2 (j := 5) rfl) (byt_of hW_count_b2 (j := 6) rfl) (byt_of hW_count_b2 (j := 7) rfl) rfl
theorem dW_count_72 : decode (mcc mW_count) 72 = .ok (.getfield 125, 3) := o180 (a := 0) (b := 125) (byt_of hW_count_b2 (j := 8) rfl) (byt_of hW_count_b2 (j := 9) rfl) (byt_of hW_count_b2 (j := 10) rfl) rfl
theorem dW_count_75 : decode (mcc mW_count) 75 = .ok (.ireturn, 1) := o172 (byt_of hW_count_b2 (j := 11) rfl)
theorem dW_count_76 : decode (mcc mW_count) 76 = .ok (.aload_n 0, 1) := o42 (byt_of hW_count_b2 (j := 12) rfl)
theorem dW_count_77 : decode (mcc mW_count) 77 = .ok (.getfield 47, 3) := o180 (a := 0) (b := 47) (byt_of hW_count_b2 (j := 13) rfl) (byt_of hW_count_b2 (j := 14) rfl) (byt_of hW_count_b2 (j := 15) rfl) rfl
theorem dW_count_80 : decode (mcc mW_count) 80 = .ok (.getfield 126, 3) := o180 (a := 0) (b := 126) (byt_of hW_count_b2 (j := 16) rfl) (byt_of hW_count_b2 (j := 17) rfl) (byt_of hW_count_b2 (j := 18) rfl) rfl
theorem dW_count_83 : decode (mcc mW_count) 83 = .ok (.ireturn, 1) := o172 (byt_of hW_count_b2 (j := 19) rfl)
theorem dW_count_84 : decode (mcc mW_count) 84 = .ok (.aload_n 0, 1) := o42 (byt_of hW_count_b2 (j := 20) rfl)
theorem dW_count_85 : decode (mcc mW_count) 85 = .ok (.getfield 47, 3) := o180 (a := 0) (b := 47) (byt_of hW_count_b2 (j := 21) rfl) (byt_of hW_count_b2 (j := 22) rfl) (byt_of hW_count_b2 (j := 23) rfl) rfl
theorem dW_count_88 : decode (mcc mW_count) 88 = .ok (.getfield 127, 3) := o180 (a := 0) (b := 127) (byt_of hW_count_b2 (j := 24) rfl) (byt_of hW_count_b2 (j := 25) rfl) (byt_of hW_count_b2 (j := 26) rfl) rfl
theorem dW_count_91 : decode (mcc mW_count) 91 = .ok (.ireturn, 1) := o172 (byt_of hW_count_b2 (j := 27) rfl)
theorem dW_count_92 : decode (mcc mW_count) 92 = .ok (.aload_n 0, 1) := o42 (byt_of hW_count_b2 (j := 28) rfl)
theorem dW_count_93 : decode (mcc mW_count) 93 = .ok (.getfield 40, 3) := o180 (a := 0) (b := 40) (byt_of hW_count_b2 (j := 29) rfl) (byt_of hW_count_b2 (j := 30) rfl) (byt_of hW_count_b2 (j := 31) rfl) rfl
def bW_count_b3 : List Nat := [180, 0, 130, 172, 16, 254, 172]
theorem hW_count_b3 : BL (mcc mW_count) 96 bW_count_b3 := by decide +kernel
theorem dW_count_96 : decode (mcc mW_count) 96 = .ok (.getfield 130, 3) := o180 (a := 0) (b := 130) (byt_of hW_count_b3 (j := 0) rfl) (byt_of hW_count_b3 (j := 1) rfl) (byt_of hW_count_b3 (j := 2) rfl) rfl
theorem dW_count_99 : decode (mcc mW_count) 99 = .ok (.ireturn, 1) := o172 (byt_of hW_count_b3 (j := 3) rfl)
theorem dW_count_100 : decode (mcc mW_count) 100 = .ok (.bipush (-2), 2) := o16 (a := 254) (byt_of hW_count_b3 (j := 4) rfl) (byt_of hW_count_b3 (j := 5) rfl) rfl
theorem dW_count_102 : decode (mcc mW_count) 102 = .ok (.ireturn, 1) := o172 (byt_of hW_count_b3 (j := 6) rfl)
def bW_feed_b0 : List Nat := [27, 4, 8, 184, 0, 101, 153, 0, 41, 28, 184, 0, 133, 153, 0, 34, 29, 184, 0, 133, 153, 0, 27, 21, 4, 184, 0, 133, 153, 0, 19, 21, 5, 184, 0, 133, 153, 0]
theorem hW_feed_b0 : BL (mcc mW_feed) 0 bW_feed_b0 := by decide +kernel
theorem dW_feed_0 : decode (mcc mW_feed) 0 = .ok (.iload_n 1, 1) := o27 (byt_of hW_feed_b0 (j := 0) rfl)
theorem dW_feed_1 : decode (mcc mW_feed) 1 = .ok (.iconst 1, 1) := o4 (byt_of hW_feed_b0 (j := 1) rfl)
theorem dW_feed_2 : decode (mcc mW_feed) 2 = .ok (.iconst 5, 1) := o8 (byt_of hW_feed_b0 (j := 2) rfl)
theorem dW_feed_3 : decode (mcc mW_feed) 3 = .ok (.invokestatic 101, 3) := o184 (a := 0) (b := 101) (byt_of hW_feed_b0 (j := 3) rfl) (byt_of hW_feed_b0 (j := 4) rfl) (byt_of hW_feed_b0 (j := 5) rfl) rfl
theorem dW_feed_6 : decode (mcc mW_feed) 6 = .ok (.ifCond .eq 41, 3) := o153 (a := 0) (b := 41) (byt_of hW_feed_b0 (j := 6) rfl) (byt_of hW_feed_b0 (j := 7) rfl) (byt_of hW_feed_b0 (j := 8) rfl) rfl
theorem dW_feed_9 : decode (mcc mW_feed) 9 = .ok (.iload_n 2, 1) := o28 (byt_of hW_feed_b0 (j := 9) rfl)
theorem dW_feed_10 : decode (mcc mW_feed) 10 = .ok (.invokestatic 133, 3) := o184 (a := 0) (b := 133) (byt_of hW_feed_b0 (j := 10) rfl) (byt_of hW_feed_b0 (j := 11) rfl) (byt_of hW_feed_b0 (j := 12) rfl) rfl
theorem dW_feed_13 : decode (mcc mW_feed) 13 = .ok (.ifCond .eq 34, 3) := o153 (a := 0) (b := 34) (byt_of hW_feed_b0 (j := 13) rfl) (byt_of hW_feed_b0 (j := 14) rfl) (byt_of hW_feed_b0 (j := 15) rfl) rfl
theorem dW_feed_16 : decode (mcc mW_feed) 16 = .ok (.iload_n 3, 1) := o29 (byt_of hW_feed_b0 (j := 16) rfl)
theorem dW_feed_17 : decode (mcc mW_feed) 17 = .ok (.invokestatic 133, 3) := o184 (a := 0) (b := 133) (byt_of hW_feed_b0 (j := 17) rfl) (byt_of hW_feed_b0 (j := 18) rfl) (byt_of hW_feed_b0 (j := 19) rfl) rfl
theorem dW_feed_20 : decode (mcc mW_feed) 20 = .ok (.ifCond .eq 27, 3) := o153 (a := 0) (b := 27) (byt_of hW_feed_b0 (j := 20) rfl) (byt_of hW_feed_b0 (j := 21) rfl) (byt_of hW_feed_b0 (j := 22) rfl) rfl
theorem dW_feed_23 : decode (mcc mW_feed) 23 = .ok (.iload 4, 2) := o21 (a := 4) (byt_of hW_feed_b0 (j := 23) rfl) (byt_of hW_feed_b0 (j := 24) rfl)
theorem dW_feed_25 : decode (mcc mW_feed) 25 = .ok (.invokestatic 133, 3) := o184 (a := 0) (b := 133) (byt_of hW_feed_b0 (j := 25) rfl) (byt_of hW_feed_b0 (j := 26) rfl) (byt_of hW_feed_b0 (j := 27) rfl) rfl
theorem dW_feed_28 : decode (mcc mW_feed) 28 = .ok (.ifCond .eq 19, 3) := o153 (a := 0) (b := 19) (byt_of hW_feed_b0 (j := 28) rfl) (byt_of hW_feed_b0 (j := 29) rfl) (byt_of hW_feed_b0 (j := 30) rfl) rfl
theorem dW_feed_31 : decode (mcc mW_feed) 31 = .ok (.iload 5, 2) := o21 (a := 5) (byt_of hW_feed_b0 (j := 31) rfl) (byt_of hW_feed_b0 (j := 32) rfl)
def bW_feed_b1 : List Nat := [5, 184, 0, 133, 153, 0, 11, 21, 6, 184, 0, 133, 154, 0, 6, 16, 254, 172, 42, 180, 0, 40, 180, 0, 130, 27, 96, 17, 0, 160, 164, 0, 6, 16, 252, 172, 3, 54]
theorem hW_feed_b1 : BL (mcc mW_feed) 32 bW_feed_b1 := by decide +kernel
theorem dW_feed_33 : decode (mcc mW_feed) 33 = .ok (.invokestatic 133, 3) := o184 (a := 0) (b := 133) (byt_of hW_feed_b1 (j := 1) rfl) (byt_of hW_feed_b1 (j := 2) rfl) (byt_of hW_feed_b1 (j := 3) rfl) rfl
theorem dW_feed_36 : decode (mcc mW_feed) 36 = .ok (.ifCond .eq 11, 3) := o153 (a := 0) (b := 11) (byt_of hW_feed_b1 (j := 4) rfl) (byt_of hW_feed_b1 (j := 5) rfl) (byt_of hW_feed_b1 (j := 6) rfl) rfl
theorem dW_feed_39 : decode (mcc mW_feed) 39 = .ok (.iload 6, 2) := o21 (a := 6) (byt_of hW_feed_b1 (j := 7) rfl) (byt_of hW_feed_b1 (j := 8) rfl)
theorem dW_feed_41 : decode (mcc mW_feed) 41 = .ok (.invokestatic 133, 3) := o184 (a := 0) (b := 133) (byt_of hW_feed_b1 (j := 9) rfl) (byt_of hW_feed_b1 (j := 10) rfl) (byt_of hW_feed_b1 (j := 11) rfl) rfl
theorem dW_feed_44 : decode (mcc mW_feed) 44 = .ok (.ifCond .ne 6, 3) := o154 (a := 0) (b := 6) (byt_of hW_feed_b1 (j := 12) rfl) (byt_of hW_feed_b1 (j := 13) rfl) (byt_of hW_feed_b1 (j := 14) rfl) rfl
theorem dW_feed_47 : decode (mcc mW_feed) 47 = .ok (.bipush (-2), 2) := o16 (a := 254) (byt_of hW_feed_b1 (j := 15) rfl) (byt_of hW_feed_b1 (j := 16) rfl) rfl
theorem dW_feed_49 : decode (mcc mW_feed) 49 = .ok (.ireturn, 1) := o172 (byt_of hW_feed_b1 (j := 17) rfl)
theorem dW_feed_50 : decode (mcc mW_feed) 50 = .ok (.aload_n 0, 1) := o42 (byt_of hW_feed_b1 (j := 18) rfl)
theorem dW_feed_51 : decode (mcc mW_feed) 51 = .ok (.getfield 40, 3) := o180 (a := 0) (b := 40) (byt_of hW_feed_b1 (j := 19) rfl) (byt_of hW_feed_b1 (j := 20) rfl) (byt_of hW_feed_b1 (j := 21) rfl) rfl
theorem dW_feed_54 : decode (mcc mW_feed) 54 = .ok (.getfield 130, 3) := o180 (a := 0) (b := 130) (byt_of hW_feed_b1 (j := 22) rfl) (byt_of hW_feed_b1 (j := 23) rfl) (byt_of hW_feed_b1 (j := 24) rfl) rfl
theorem dW_feed_57 : decode (mcc mW_feed) 57 = .ok (.iload_n 1, 1) := o27 (byt_of hW_feed_b1 (j := 25) rfl)
theorem dW_feed_58 : decode (mcc mW_feed) 58 = .ok (.iadd, 1) := o96 (byt_of hW_feed_b1 (j := 26) rfl)
theorem dW_feed_59 : decode (mcc mW_feed) 59 = .ok (.sipush 160, 3) := o17 (a := 0) (b := 160) (byt_of hW_feed_b1 (j := 27) rfl) (byt_of hW_feed_b1 (j := 28) rfl) (byt_of hW_feed_b1 (j := 29) rfl) rfl
theorem dW_feed_62 : decode (mcc mW_feed) 62 = .ok (.if_icmp .le 6, 3) := o164 (a := 0) (b := 6) (byt_of hW_feed_b1 (j := 30) rfl) (byt_of hW_feed_b1 (j := 31) rfl) (byt_of hW_feed_b1 (j := 32) rfl) rfl
def bW_feed_b2 : List Nat := [6, 16, 252, 172, 3, 54, 7, 21, 7, 27, 162, 0, 59, 42, 180, 0, 40, 21, 7, 154, 0, 7, 28, 167, 0, 37, 21, 7, 4, 160, 0, 7, 29, 167, 0, 27, 21, 7]
theorem hW_feed_b2 : BL (mcc mW_feed) 64 bW_feed_b2 := by decide +kernel
theorem dW_feed_65 : decode (mcc mW_feed) 65 = .ok (.bipush (-4), 2) := o16 (a := 252) (byt_of hW_feed_b2 (j := 1) rfl) (byt_of hW_feed_b2 (j := 2) rfl) rfl
theorem dW_feed_67 : decode (mcc mW_feed) 67 = .ok (.ireturn, 1) := o172 (byt_of hW_feed_b2 (j := 3) rfl)
theorem dW_feed_68 : decode (mcc mW_feed) 68 = .ok (.iconst 0, 1) := o3 (byt_of hW_feed_b2 (j := 4) rfl)
theorem dW_feed_69 : decode (mcc mW_feed) 69 = .ok (.istore 7, 2) := o54 (a := 7) (byt_of hW_feed_b2 (j := 5) rfl) (byt_of hW_feed_b2 (j := 6) rfl)
theorem dW_feed_71 : decode (mcc mW_feed) 71 = .ok (.iload 7, 2) := o21 (a := 7) (byt_of hW_feed_b2 (j := 7) rfl) (byt_of hW_feed_b2 (j := 8) rfl)
theorem dW_feed_73 : decode (mcc mW_feed) 73 = .ok (.iload_n 1, 1) := o27 (byt_of hW_feed_b2 (j := 9) rfl)
theorem dW_feed_74 : decode (mcc mW_feed) 74 = .ok (.if_icmp .ge 59, 3) := o162 (a := 0) (b := 59) (byt_of hW_feed_b2 (j := 10) rfl) (byt_of hW_feed_b2 (j := 11) rfl) (byt_of hW_feed_b2 (j := 12) rfl) rfl
theorem dW_feed_77 : decode (mcc mW_feed) 77 = .ok (.aload_n 0, 1) := o42 (byt_of hW_feed_b2 (j := 13) rfl)
theorem dW_feed_78 : decode (mcc mW_feed) 78 = .ok (.getfield 40, 3) := o180 (a := 0) (b := 40) (byt_of hW_feed_b2 (j := 14) rfl) (byt_of hW_feed_b2 (j := 15) rfl) (byt_of hW_feed_b2 (j := 16) rfl) rfl
theorem dW_feed_81 : decode (mcc mW_feed) 81 = .ok (.iload 7, 2) := o21 (a := 7) (byt_of hW_feed_b2 (j := 17) rfl) (byt_of hW_feed_b2 (j := 18) rfl)
theorem dW_feed_83 : decode (mcc mW_feed) 83 = .ok (.ifCond .ne 7, 3) := o154 (a := 0) (b := 7) (byt_of hW_feed_b2 (j := 19) rfl) (byt_of hW_feed_b2 (j := 20) rfl) (byt_of hW_feed_b2 (j := 21) rfl) rfl
theorem dW_feed_86 : decode (mcc mW_feed) 86 = .ok (.iload_n 2, 1) := o28 (byt_of hW_feed_b2 (j := 22) rfl)
theorem dW_feed_87 : decode (mcc mW_feed) 87 = .ok (.goto 37, 3) := o167 (a := 0) (b := 37) (byt_of hW_feed_b2 (j := 23) rfl) (byt_of hW_feed_b2 (j := 24) rfl) (byt_of hW_feed_b2 (j := 25) rfl) rfl
theorem dW_feed_90 : decode (mcc mW_feed) 90 = .ok (.iload 7, 2) := o21 (a := 7) (byt_of hW_feed_b2 (j := 26) rfl) (byt_of hW_feed_b2 (j := 27) rfl)
theorem dW_feed_92 : decode (mcc mW_feed) 92 = .ok (.iconst 1, 1) := o4 (byt_of hW_feed_b2 (j := 28) rfl)
theorem dW_feed_93 : decode (mcc mW_feed) 93 = .ok (.if_icmp .ne 7, 3) := o160 (a := 0) (b := 7) (byt_of hW_feed_b2 (j := 29) rfl) (byt_of hW_feed_b2 (j := 30) rfl) (byt_of hW_feed_b2 (j := 31) rfl) rfl
def bW_feed_b3 : List Nat := [29, 167, 0, 27, 21, 7, 5, 160, 0, 8, 21, 4, 167, 0, 16, 21, 7, 6, 160, 0, 8, 21, 5, 167, 0, 5, 21, 6, 182, 0, 86, 132, 7, 1, 167, 255, 197, 42]
theorem hW_feed_b3 : BL (mcc mW_feed) 96 bW_feed_b3 := by decide +kernel
theorem dW_feed_96 : decode (mcc mW_feed) 96 = .ok (.iload_n 3, 1) := o29 (byt_of hW_feed_b3 (j := 0) rfl)
theorem dW_feed_97 : decode (mcc mW_feed) 97 = .ok (.goto 27, 3) := o167 (a := 0) (b := 27) (byt_of hW_feed_b3 (j := 1) rfl) (byt_of hW_feed_b3 (j := 2) rfl) (byt_of hW_feed_b3 (j := 3) rfl) rfl
theorem dW_feed_100 : decode (mcc mW_feed) 100 = .ok (.iload 7, 2) := o21 (a := 7) (byt_of hW_feed_b3 (j := 4) rfl) (byt_of hW_feed_b3 (j := 5) rfl)
theorem dW_feed_102 : decode (mcc mW_feed) 102 = .ok (.iconst 2, 1) := o5 (byt_of hW_feed_b3 (j := 6) rfl)
theorem dW_feed_103 : decode (mcc mW_feed) 103 = .ok (.if_icmp .ne 8, 3) := o160 (a := 0) (b := 8) (byt_of hW_feed_b3 (j := 7) rfl) (byt_of hW_feed_b3 (j := 8) rfl) (byt_of hW_feed_b3 (j := 9) rfl) rfl
theorem dW_feed_106 : decode (mcc mW_feed) 106 = .ok (.iload 4, 2) := o21 (a := 4) (byt_of hW_feed_b3 (j := 10) rfl) (byt_of hW_feed_b3 (j := 11) rfl)
theorem dW_feed_108 : decode (mcc mW_feed) 108 = .ok (.goto 16, 3) := o167 (a := 0) (b := 16) (byt_of hW_feed_b3 (j := 12) rfl) (byt_of hW_feed_b3 (j := 13) rfl) (byt_of hW_feed_b3 (j := 14) rfl) rfl
theorem dW_feed_111 : decode (mcc mW_feed) 111 = .ok (.iload 7, 2) := o21 (a := 7) (byt_of hW_feed_b3 (j := 15) rfl) (byt_of hW_feed_b3 (j := 16) rfl)
theorem dW_feed_113 : decode (mcc mW_feed) 113 = .ok (.iconst 3, 1) := o6 (byt_of hW_feed_b3 (j := 17) rfl)
theorem dW_feed_114 : decode (mcc mW_feed) 114 = .ok (.if_icmp .ne 8, 3) := o160 (a := 0) (b := 8) (byt_of hW_feed_b3 (j := 18) rfl) (byt_of hW_feed_b3 (j := 19) rfl) (byt_of hW_feed_b3 (j := 20) rfl) rfl
theorem dW_feed_117 : decode (mcc mW_feed) 117 = .ok (.iload 5, 2) := o21 (a := 5) (byt_of hW_feed_b3 (j := 21) rfl) (byt_of hW_feed_b3 (j := 22) rfl)
theorem dW_feed_119 : decode (mcc mW_feed) 119 = .ok (.goto 5, 3) := o167 (a := 0) (b := 5) (byt_of hW_feed_b3 (j := 23) rfl) (byt_of hW_feed_b3 (j := 24) rfl) (byt_of hW_feed_b3 (j := 25) rfl) rfl
theorem dW_feed_122 : decode (mcc mW_feed) 122 = .ok (.iload 6, 2) := o21 (a := 6) (byt_of hW_feed_b3 (j := 26) rfl) (byt_of hW_feed_b3 (j := 27) rfl)
theorem dW_feed_124 : decode (mcc mW_feed) 124 = .ok (.invokevirtual 86, 3) := o182 (a := 0) (b := 86) (byt_of hW_feed_b3 (j := 28) rfl) (byt_of hW_feed_b3 (j := 29) rfl) (byt_of hW_feed_b3 (j := 30) rfl) rfl
theorem dW_feed_127 : decode (mcc mW_feed) 127 = .ok (.iinc 7 1, 3) := o132 (a := 7) (b := 1) (byt_of hW_feed_b3 (j := 31) rfl) (byt_of hW_feed_b3 (j := 32) rfl) (byt_of hW_feed_b3 (j := 33) rfl) rfl
def bW_feed_b4 : List Nat := [7, 1, 167, 255, 197, 42, 180, 0, 40, 180, 0, 130, 172]
theorem hW_feed_b4 : BL (mcc mW_feed) 128 bW_feed_b4 := by decide +kernel
theorem dW_feed_130 : decode (mcc mW_feed) 130 = .ok (.goto (-59), 3) := o167 (a := 255) (b := 197) (byt_of hW_feed_b4 (j := 2) rfl) (byt_of hW_feed_b4 (j := 3) rfl) (byt_of hW_feed_b4 (j := 4) rfl) rfl
theorem dW_feed_133 : decode (mcc mW_feed) 133 = .ok (.aload_n 0, 1) := o42 (byt_of hW_feed_b4 (j := 5) rfl)
theorem dW_feed_134 : decode (mcc mW_feed) 134 = .ok (.getfield 40, 3) := o180 (a := 0) (b := 40) (byt_of hW_feed_b4 (j := 6) rfl) (byt_of hW_feed_b4 (j := 7) rfl) (byt_of hW_feed_b4 (j := 8) rfl) rfl
theorem dW_feed_137 : decode (mcc mW_feed) 137 = .ok (.getfield 130, 3) := o180 (a := 0) (b := 130) (byt_of hW_feed_b4 (j := 9) rfl) (byt_of hW_feed_b4 (j := 10) rfl) (byt_of hW_feed_b4 (j := 11) rfl) rfl
theorem dW_feed_140 : decode (mcc mW_feed) 140 = .ok (.ireturn, 1) := o172 (byt_of hW_feed_b4 (j := 12) rfl)
def bW_text_b0 : List Nat := [42, 180, 0, 47, 180, 0, 126, 16, 6, 161, 0, 6, 16, 252, 172, 42, 180, 0, 40, 182, 0, 90, 153, 0, 17, 42, 180, 0, 47, 42, 180, 0, 40, 182, 0, 94, 167, 0]
theorem hW_text_b0 : BL (mcc mW_text) 0 bW_text_b0 := by decide +kernel
theorem dW_text_0 : decode (mcc mW_text) 0 = .ok (.aload_n 0, 1) := o42 (byt_of hW_text_b0 (j := 0) rfl)
theorem dW_text_1 : decode (mcc mW_text) 1 = .ok (.getfield 47, 3) := o180 (a := 0) (b := 47) (byt_of hW_text_b0 (j := 1) rfl) (byt_of hW_text_b0 (j := 2) rfl) (byt_of hW_text_b0 (j := 3) rfl) rfl
theorem dW_text_4 : decode (mcc mW_text) 4 = .ok (.getfield 126, 3) := o180 (a := 0) (b := 126) (byt_of hW_text_b0 (j := 4) rfl) (byt_of hW_text_b0 (j := 5) rfl) (byt_of hW_text_b0 (j := 6) rfl) rfl
theorem dW_text_7 : decode (mcc mW_text) 7 = .ok (.bipush 6, 2) := o16 (a := 6) (byt_of hW_text_b0 (j := 7) rfl) (byt_of hW_text_b0 (j := 8) rfl) rfl
theorem dW_text_9 : decode (mcc mW_text) 9 = .ok (.if_icmp .lt 6, 3) := o161 (a := 0) (b := 6) (byt_of hW_text_b0 (j := 9) rfl) (byt_of hW_text_b0 (j := 10) rfl) (byt_of hW_text_b0 (j := 11) rfl) rfl
theorem dW_text_12 : decode (mcc mW_text) 12 = .ok (.bipush (-4), 2) := o16 (a := 252) (byt_of hW_text_b0 (j := 12) rfl) (byt_of hW_text_b0 (j := 13) rfl) rfl
theorem dW_text_14 : decode (mcc mW_text) 14 = .ok (.ireturn, 1) := o172 (byt_of hW_text_b0 (j := 14) rfl)
theorem dW_text_15 : decode (mcc mW_text) 15 = .ok (.aload_n 0, 1) := o42 (byt_of hW_text_b0 (j := 15) rfl)
theorem dW_text_16 : decode (mcc mW_text) 16 = .ok (.getfield 40, 3) := o180 (a := 0) (b := 40) (byt_of hW_text_b0 (j := 16) rfl) (byt_of hW_text_b0 (j := 17) rfl) (byt_of hW_text_b0 (j := 18) rfl) rfl
theorem dW_text_19 : decode (mcc mW_text) 19 = .ok (.invokevirtual 90, 3) := o182 (a := 0) (b := 90) (byt_of hW_text_b0 (j := 19) rfl) (byt_of hW_text_b0 (j := 20) rfl) (byt_of hW_text_b0 (j := 21) rfl) rfl
theorem dW_text_22 : decode (mcc mW_text) 22 = .ok (.ifCond .eq 17, 3) := o153 (a := 0) (b := 17) (byt_of hW_text_b0 (j := 22) rfl) (byt_of hW_text_b0 (j := 23) rfl) (byt_of hW_text_b0 (j := 24) rfl) rfl
theorem dW_text_25 : decode (mcc mW_text) 25 = .ok (.aload_n 0, 1) := o42 (byt_of hW_text_b0 (j := 25) rfl)
theorem dW_text_26 : decode (mcc mW_text) 26 = .ok (.getfield 47, 3) := o180 (a := 0) (b := 47) (byt_of hW_text_b0 (j := 26) rfl) (byt_of hW_text_b0 (j := 27) rfl) (byt_of hW_text_b0 (j := 28) rfl) rfl
theorem dW_text_29 : decode (mcc mW_text) 29 = .ok (.aload_n 0, 1) := o42 (byt_of hW_text_b0 (j := 29) rfl)
theorem dW_text_30 : decode (mcc mW_text) 30 = .ok (.getfield 40, 3) := o180 (a := 0) (b := 40) (byt_of hW_text_b0 (j := 30) rfl) (byt_of hW_text_b0 (j := 31) rfl) (byt_of hW_text_b0 (j := 32) rfl) rfl
def bW_text_b1 : List Nat := [40, 182, 0, 94, 167, 0, 13, 16, 156, 42, 180, 0, 40, 182, 0, 137, 100, 60, 42, 180, 0, 40, 182, 0, 98, 27, 172]
theorem hW_text_b1 : BL (mcc mW_text) 32 bW_text_b1 := by decide +kernel
theorem dW_text_33 : decode (mcc mW_text) 33 = .ok (.invokevirtual 94, 3) := o182 (a := 0) (b := 94) (byt_of hW_text_b1 (j := 1) rfl) (byt_of hW_text_b1 (j := 2) rfl) (byt_of hW_text_b1 (j := 3) rfl) rfl
theorem dW_text_36 : decode (mcc mW_text) 36 = .ok (.goto 13, 3) := o167 (a := 0) (b := 13) (byt_of hW_text_b1 (j := 4) rfl) (byt_of hW_text_b1 (j := 5) rfl) (byt_of hW_text_b1 (j := 6) rfl) rfl
theorem dW_text_39 : decode (mcc mW_text) 39 = .ok (.bipush (-100), 2) := o16 (a := 156) (byt_of hW_text_b1 (j := 7) rfl) (byt_of hW_text_b1 (j := 8) rfl) rfl
theorem dW_text_41 : decode (mcc mW_text) 41 = .ok (.aload_n 0, 1) := o42 (byt_of hW_text_b1 (j := 9) rfl)
theorem dW_text_42 : decode (mcc mW_text) 42 = .ok (.getfield 40, 3) := o180 (a := 0) (b := 40) (byt_of hW_text_b1 (j := 10) rfl) (byt_of hW_text_b1 (j := 11) rfl) (byt_of hW_text_b1 (j := 12) rfl) rfl
theorem dW_text_45 : decode (mcc mW_text) 45 = .ok (.invokevirtual 137, 3) := o182 (a := 0) (b := 137) (byt_of hW_text_b1 (j := 13) rfl) (byt_of hW_text_b1 (j := 14) rfl) (byt_of hW_text_b1 (j := 15) rfl) rfl
theorem dW_text_48 : decode (mcc mW_text) 48 = .ok (.isub, 1) := o100 (byt_of hW_text_b1 (j := 16) rfl)
theorem dW_text_49 : decode (mcc mW_text) 49 = .ok (.istore_n 1, 1) := o60 (byt_of hW_text_b1 (j := 17) rfl)
theorem dW_text_50 : decode (mcc mW_text) 50 = .ok (.aload_n 0, 1) := o42 (byt_of hW_text_b1 (j := 18) rfl)
theorem dW_text_51 : decode (mcc mW_text) 51 = .ok (.getfield 40, 3) := o180 (a := 0) (b := 40) (byt_of hW_text_b1 (j := 19) rfl) (byt_of hW_text_b1 (j := 20) rfl) (byt_of hW_text_b1 (j := 21) rfl) rfl
theorem dW_text_54 : decode (mcc mW_text) 54 = .ok (.invokevirtual 98, 3) := o182 (a := 0) (b := 98) (byt_of hW_text_b1 (j := 22) rfl) (byt_of hW_text_b1 (j := 23) rfl) (byt_of hW_text_b1 (j := 24) rfl) rfl
theorem dW_text_57 : decode (mcc mW_text) 57 = .ok (.iload_n 1, 1) := o27 (byt_of hW_text_b1 (j := 25) rfl)
theorem dW_text_58 : decode (mcc mW_text) 58 = .ok (.ireturn, 1) := o172 (byt_of hW_text_b1 (j := 26) rfl)
def bW_force_b0 : List Nat := [27, 3, 42, 180, 0, 47, 180, 0, 126, 4, 100, 184, 0, 101, 154, 0, 6, 16, 254, 172, 42, 180, 0, 47, 180, 0, 127, 61, 42, 180, 0, 47, 27, 181, 0, 127, 28, 172]
theorem hW_force_b0 : BL (mcc mW_force) 0 bW_force_b0 := by decide +kernel
theorem dW_force_0 : decode (mcc mW_force) 0 = .ok (.iload_n 1, 1) := o27 (byt_of hW_force_b0 (j := 0) rfl)
theorem dW_force_1 : decode (mcc mW_force) 1 = .ok (.iconst 0, 1) := o3 (byt_of hW_force_b0 (j := 1) rfl)
theorem dW_force_2 : decode (mcc mW_force) 2 = .ok (.aload_n 0, 1) := o42 (byt_of hW_force_b0 (j := 2) rfl)
theorem dW_force_3 : decode (mcc mW_force) 3 = .ok (.getfield 47, 3) := o180 (a := 0) (b := 47) (byt_of hW_force_b0 (j := 3) rfl) (byt_of hW_force_b0 (j := 4) rfl) (byt_of hW_force_b0 (j := 5) rfl) rfl
theorem dW_force_6 : decode (mcc mW_force) 6 = .ok (.getfield 126, 3) := o180 (a := 0) (b := 126) (byt_of hW_force_b0 (j := 6) rfl) (byt_of hW_force_b0 (j := 7) rfl) (byt_of hW_force_b0 (j := 8) rfl) rfl
theorem dW_force_9 : decode (mcc mW_force) 9 = .ok (.iconst 1, 1) := o4 (byt_of hW_force_b0 (j := 9) rfl)
theorem dW_force_10 : decode (mcc mW_force) 10 = .ok (.isub, 1) := o100 (byt_of hW_force_b0 (j := 10) rfl)
theorem dW_force_11 : decode (mcc mW_force) 11 = .ok (.invokestatic 101, 3) := o184 (a := 0) (b := 101) (byt_of hW_force_b0 (j := 11) rfl) (byt_of hW_force_b0 (j := 12) rfl) (byt_of hW_force_b0 (j := 13) rfl) rfl
theorem dW_force_14 : decode (mcc mW_force) 14 = .ok (.ifCond .ne 6, 3) := o154 (a := 0) (b := 6) (byt_of hW_force_b0 (j := 14) rfl) (byt_of hW_force_b0 (j := 15) rfl) (byt_of hW_force_b0 (j := 16) rfl) rfl
theorem dW_force_17 : decode (mcc mW_force) 17 = .ok (.bipush (-2), 2) := o16 (a := 254) (byt_of hW_force_b0 (j := 17) rfl) (byt_of hW_force_b0 (j := 18) rfl) rfl
theorem dW_force_19 : decode (mcc mW_force) 19 = .ok (.ireturn, 1) := o172 (byt_of hW_force_b0 (j := 19) rfl)
theorem dW_force_20 : decode (mcc mW_force) 20 = .ok (.aload_n 0, 1) := o42 (byt_of hW_force_b0 (j := 20) rfl)
theorem dW_force_21 : decode (mcc mW_force) 21 = .ok (.getfield 47, 3) := o180 (a := 0) (b := 47) (byt_of hW_force_b0 (j := 21) rfl) (byt_of hW_force_b0 (j := 22) rfl) (byt_of hW_force_b0 (j := 23) rfl) rfl
theorem dW_force_24 : decode (mcc mW_force) 24 = .ok (.getfield 127, 3) := o180 (a := 0) (b := 127) (byt_of hW_force_b0 (j := 24) rfl) (byt_of hW_force_b0 (j := 25) rfl) (byt_of hW_force_b0 (j := 26) rfl) rfl
theorem dW_force_27 : decode (mcc mW_force) 27 = .ok (.istore_n 2, 1) := o61 (byt_of hW_force_b0 (j := 27) rfl)
theorem dW_force_28 : decode (mcc mW_force) 28 = .ok (.aload_n 0, 1) := o42 (byt_of hW_force_b0 (j := 28) rfl)
theorem dW_force_29 : decode (mcc mW_force) 29 = .ok (.getfield 47, 3) := o180 (a := 0) (b := 47) (byt_of hW_force_b0 (j := 29) rfl) (byt_of hW_force_b0 (j := 30) rfl) (byt_of hW_force_b0 (j := 31) rfl) rfl
def bW_force_b1 : List Nat := [27, 181, 0, 127, 28, 172]
theorem hW_force_b1 : BL (mcc mW_force) 32 bW_force_b1 := by decide +kernel
theorem dW_force_32 : decode (mcc mW_force) 32 = .ok (.iload_n 1, 1) := o27 (byt_of hW_force_b1 (j := 0) rfl)
theorem dW_force_33 : decode (mcc mW_force) 33 = .ok (.putfield 127, 3) := o181 (a := 0) (b := 127) (byt_of hW_force_b1 (j := 1) rfl) (byt_of hW_force_b1 (j := 2) rfl) (byt_of hW_force_b1 (j := 3) rfl) rfl
theorem dW_force_36 : decode (mcc mW_force) 36 = .ok (.iload_n 2, 1) := o28 (byt_of hW_force_b1 (j := 4) rfl)
theorem dW_force_37 : decode (mcc mW_force) 37 = .ok (.ireturn, 1) := o172 (byt_of hW_force_b1 (j := 5) rfl)
def bW_person_b0 : List Nat := [27, 3, 8, 184, 0, 101, 153, 0, 34, 28, 3, 17, 2, 87, 184, 0, 101, 153, 0, 23, 29, 184, 0, 133, 153, 0, 16, 21, 4, 16, 100, 17, 3, 231, 184, 0, 101, 154]
theorem hW_person_b0 : BL (mcc mW_person) 0 bW_person_b0 := by decide +kernel
theorem dW_person_0 : decode (mcc mW_person) 0 = .ok (.iload_n 1, 1) := o27 (byt_of hW_person_b0 (j := 0) rfl)
theorem dW_person_1 : decode (mcc mW_person) 1 = .ok (.iconst 0, 1) := o3 (byt_of hW_person_b0 (j := 1) rfl)
theorem dW_person_2 : decode (mcc mW_person) 2 = .ok (.iconst 5, 1) := o8 (byt_of hW_person_b0 (j := 2) rfl)
theorem dW_person_3 : decode (mcc mW_person) 3 = .ok (.invokestatic 101, 3) := o184 (a := 0) (b := 101) (byt_of hW_person_b0 (j := 3) rfl) (byt_of hW_person_b0 (j := 4) rfl) (byt_of hW_person_b0 (j := 5) rfl) rfl
theorem dW_person_6 : decode (mcc mW_person) 6 = .ok (.ifCond .eq 34, 3) := o153 (a := 0) (b := 34) (byt_of hW_person_b0 (j := 6) rfl) (byt_of hW_person_b0 (j := 7) rfl) (byt_of hW_person_b0 (j := 8) rfl) rfl
theorem dW_person_9 : decode (mcc mW_person) 9 = .ok (.iload_n 2, 1) := o28 (byt_of hW_person_b0 (j := 9) rfl)
theorem dW_person_10 : decode (mcc mW_person) 10 = .ok (.iconst 0, 1) := o3 (byt_of hW_person_b0 (j := 10) rfl)
theorem dW_person_11 : decode (mcc mW_person) 11 = .ok (.sipush 599, 3) := o17 (a := 2) (b := 87) (byt_of hW_person_b0 (j := 11) rfl) (byt_of hW_person_b0 (j := 12) rfl) (byt_of hW_person_b0 (j := 13) rfl) rfl
theorem dW_person_14 : decode (mcc mW_person) 14 = .ok (.invokestatic 101, 3) := o184 (a := 0) (b := 101) (byt_of hW_person_b0 (j := 14) rfl) (byt_of hW_person_b0 (j := 15) rfl) (byt_of hW_person_b0 (j := 16) rfl) rfl
theorem dW_person_17 : decode (mcc mW_person) 17 = .ok (.ifCond .eq 23, 3) := o153 (a := 0) (b := 23) (byt_of hW_person_b0 (j := 17) rfl) (byt_of hW_person_b0 (j := 18) rfl) (byt_of hW_person_b0 (j := 19) rfl) rfl
theorem dW_person_20 : decode (mcc mW_person) 20 = .ok (.iload_n 3, 1) := o29 (byt_of hW_person_b0 (j := 20) rfl)
theorem dW_person_21 : decode (mcc mW_person) 21 = .ok (.invokestatic 133, 3) := o184 (a := 0) (b := 133) (byt_of hW_person_b0 (j := 21) rfl) (byt_of hW_person_b0 (j := 22) rfl) (byt_of hW_person_b0 (j := 23) rfl) rfl
theorem dW_person_24 : decode (mcc mW_person) 24 = .ok (.ifCond .eq 16, 3) := o153 (a := 0) (b := 16) (byt_of hW_person_b0 (j := 24) rfl) (byt_of hW_person_b0 (j := 25) rfl) (byt_of hW_person_b0 (j := 26) rfl) rfl
theorem dW_person_27 : decode (mcc mW_person) 27 = .ok (.iload 4, 2) := o21 (a := 4) (byt_of hW_person_b0 (j := 27) rfl) (byt_of hW_person_b0 (j := 28) rfl)
theorem dW_person_29 : decode (mcc mW_person) 29 = .ok (.bipush 100, 2) := o16 (a := 100) (byt_of hW_person_b0 (j := 29) rfl) (byt_of hW_person_b0 (j := 30) rfl) rfl
theorem dW_person_31 : decode (mcc mW_person) 31 = .ok (.sipush 999, 3) := o17 (a := 3) (b := 231) (byt_of hW_person_b0 (j := 31) rfl) (byt_of hW_person_b0 (j := 32) rfl) (byt_of hW_person_b0 (j := 33) rfl) rfl
def bW_person_b1 : List Nat := [3, 231, 184, 0, 101, 154, 0, 6, 16, 254, 172, 42, 180, 0, 19, 180, 0, 121, 16, 8, 161, 0, 6, 16, 252, 172, 42, 180, 0, 19, 27, 28, 29, 21, 4, 182, 0, 140]
theorem hW_person_b1 : BL (mcc mW_person) 32 bW_person_b1 := by decide +kernel
theorem dW_person_34 : decode (mcc mW_person) 34 = .ok (.invokestatic 101, 3) := o184 (a := 0) (b := 101) (byt_of hW_person_b1 (j := 2) rfl) (byt_of hW_person_b1 (j := 3) rfl) (byt_of hW_person_b1 (j := 4) rfl) rfl
theorem dW_person_37 : decode (mcc mW_person) 37 = .ok (.ifCond .ne 6, 3) := o154 (a := 0) (b := 6) (byt_of hW_person_b1 (j := 5) rfl) (byt_of hW_person_b1 (j := 6) rfl) (byt_of hW_person_b1 (j := 7) rfl) rfl
theorem dW_person_40 : decode (mcc mW_person) 40 = .ok (.bipush (-2), 2) := o16 (a := 254) (byt_of hW_person_b1 (j := 8) rfl) (byt_of hW_person_b1 (j := 9) rfl) rfl
theorem dW_person_42 : decode (mcc mW_person) 42 = .ok (.ireturn, 1) := o172 (byt_of hW_person_b1 (j := 10) rfl)
theorem dW_person_43 : decode (mcc mW_person) 43 = .ok (.aload_n 0, 1) := o42 (byt_of hW_person_b1 (j := 11) rfl)
theorem dW_person_44 : decode (mcc mW_person) 44 = .ok (.getfield 19, 3) := o180 (a := 0) (b := 19) (byt_of hW_person_b1 (j := 12) rfl) (byt_of hW_person_b1 (j := 13) rfl) (byt_of hW_person_b1 (j := 14) rfl) rfl
theorem dW_person_47 : decode (mcc mW_person) 47 = .ok (.getfield 121, 3) := o180 (a := 0) (b := 121) (byt_of hW_person_b1 (j := 15) rfl) (byt_of hW_person_b1 (j := 16) rfl) (byt_of hW_person_b1 (j := 17) rfl) rfl
theorem dW_person_50 : decode (mcc mW_person) 50 = .ok (.bipush 8, 2) := o16 (a := 8) (byt_of hW_person_b1 (j := 18) rfl) (byt_of hW_person_b1 (j := 19) rfl) rfl
theorem dW_person_52 : decode (mcc mW_person) 52 = .ok (.if_icmp .lt 6, 3) := o161 (a := 0) (b := 6) (byt_of hW_person_b1 (j := 20) rfl) (byt_of hW_person_b1 (j := 21) rfl) (byt_of hW_person_b1 (j := 22) rfl) rfl
theorem dW_person_55 : decode (mcc mW_person) 55 = .ok (.bipush (-4), 2) := o16 (a := 252) (byt_of hW_person_b1 (j := 23) rfl) (byt_of hW_person_b1 (j := 24) rfl) rfl
theorem dW_person_57 : decode (mcc mW_person) 57 = .ok (.ireturn, 1) := o172 (byt_of hW_person_b1 (j := 25) rfl)
theorem dW_person_58 : decode (mcc mW_person) 58 = .ok (.aload_n 0, 1) := o42 (byt_of hW_person_b1 (j := 26) rfl)
theorem dW_person_59 : decode (mcc mW_person) 59 = .ok (.getfield 19, 3) := o180 (a := 0) (b := 19) (byt_of hW_person_b1 (j := 27) rfl) (byt_of hW_person_b1 (j := 28) rfl) (byt_of hW_person_b1 (j := 29) rfl) rfl
theorem dW_person_62 : decode (mcc mW_person) 62 = .ok (.iload_n 1, 1) := o27 (byt_of hW_person_b1 (j := 30) rfl)
theorem dW_person_63 : decode (mcc mW_person) 63 = .ok (.iload_n 2, 1) := o28 (byt_of hW_person_b1 (j := 31) rfl)
def bW_person_b2 : List Nat := [29, 21, 4, 182, 0, 140, 172]
theorem hW_person_b2 : BL (mcc mW_person) 64 bW_person_b2 := by decide +kernel
theorem dW_person_64 : decode (mcc mW_person) 64 = .ok (.iload_n 3, 1) := o29 (byt_of hW_person_b2 (j := 0) rfl)
theorem dW_person_65 : decode (mcc mW_person) 65 = .ok (.iload 4, 2) := o21 (a := 4) (byt_of hW_person_b2 (j := 1) rfl) (byt_of hW_person_b2 (j := 2) rfl)
theorem dW_person_67 : decode (mcc mW_person) 67 = .ok (.invokevirtual 140, 3) := o182 (a := 0) (b := 140) (byt_of hW_person_b2 (j := 3) rfl) (byt_of hW_person_b2 (j := 4) rfl) (byt_of hW_person_b2 (j := 5) rfl) rfl
theorem dW_person_70 : decode (mcc mW_person) 70 = .ok (.ireturn, 1) := o172 (byt_of hW_person_b2 (j := 6) rfl)
def bW_move_b0 : List Nat := [42, 180, 0, 19, 27, 182, 0, 143, 154, 0, 6, 16, 251, 172, 28, 2, 8, 184, 0, 101, 154, 0, 6, 16, 249, 172, 42, 180, 0, 19, 180, 0, 146, 27, 46, 62, 42, 180]
theorem hW_move_b0 : BL (mcc mW_move) 0 bW_move_b0 := by decide +kernel
theorem dW_move_0 : decode (mcc mW_move) 0 = .ok (.aload_n 0, 1) := o42 (byt_of hW_move_b0 (j := 0) rfl)
theorem dW_move_1 : decode (mcc mW_move) 1 = .ok (.getfield 19, 3) := o180 (a := 0) (b := 19) (byt_of hW_move_b0 (j := 1) rfl) (byt_of hW_move_b0 (j := 2) rfl) (byt_of hW_move_b0 (j := 3) rfl) rfl
theorem dW_move_4 : decode (mcc mW_move) 4 = .ok (.iload_n 1, 1) := o27 (byt_of hW_move_b0 (j := 4) rfl)
theorem dW_move_5 : decode (mcc mW_move) 5 = .ok (.invokevirtual 143, 3) := o182 (a := 0) (b := 143) (byt_of hW_move_b0 (j := 5) rfl) (byt_of hW_move_b0 (j := 6) rfl) (byt_of hW_move_b0 (j := 7) rfl) rfl
theorem dW_move_8 : decode (mcc mW_move) 8 = .ok (.ifCond .ne 6, 3) := o154 (a := 0) (b := 6) (byt_of hW_move_b0 (j := 8) rfl) (byt_of hW_move_b0 (j := 9) rfl) (byt_of hW_move_b0 (j := 10) rfl) rfl
theorem dW_move_11 : decode (mcc mW_move) 11 = .ok (.bipush (-5), 2) := o16 (a := 251) (byt_of hW_move_b0 (j := 11) rfl) (byt_of hW_move_b0 (j := 12) rfl) rfl
theorem dW_move_13 : decode (mcc mW_move) 13 = .ok (.ireturn, 1) := o172 (byt_of hW_move_b0 (j := 13) rfl)
theorem dW_move_14 : decode (mcc mW_move) 14 = .ok (.iload_n 2, 1) := o28 (byt_of hW_move_b0 (j := 14) rfl)
theorem dW_move_15 : decode (mcc mW_move) 15 = .ok (.iconst (-1), 1) := o2 (byt_of hW_move_b0 (j := 15) rfl)
theorem dW_move_16 : decode (mcc mW_move) 16 = .ok (.iconst 5, 1) := o8 (byt_of hW_move_b0 (j := 16) rfl)
theorem dW_move_17 : decode (mcc mW_move) 17 = .ok (.invokestatic 101, 3) := o184 (a := 0) (b := 101) (byt_of hW_move_b0 (j := 17) rfl) (byt_of hW_move_b0 (j := 18) rfl) (byt_of hW_move_b0 (j := 19) rfl) rfl
theorem dW_move_20 : decode (mcc mW_move) 20 = .ok (.ifCond .ne 6, 3) := o154 (a := 0) (b := 6) (byt_of hW_move_b0 (j := 20) rfl) (byt_of hW_move_b0 (j := 21) rfl) (byt_of hW_move_b0 (j := 22) rfl) rfl
theorem dW_move_23 : decode (mcc mW_move) 23 = .ok (.bipush (-7), 2) := o16 (a := 249) (byt_of hW_move_b0 (j := 23) rfl) (byt_of hW_move_b0 (j := 24) rfl) rfl
theorem dW_move_25 : decode (mcc mW_move) 25 = .ok (.ireturn, 1) := o172 (byt_of hW_move_b0 (j := 25) rfl)
theorem dW_move_26 : decode (mcc mW_move) 26 = .ok (.aload_n 0, 1) := o42 (byt_of hW_move_b0 (j := 26) rfl)
theorem dW_move_27 : decode (mcc mW_move) 27 = .ok (.getfield 19, 3) := o180 (a := 0) (b := 19) (byt_of hW_move_b0 (j := 27) rfl) (byt_of hW_move_b0 (j := 28) rfl) (byt_of hW_move_b0 (j := 29) rfl) rfl
theorem dW_move_30 : decode (mcc mW_move) 30 = .ok (.getfield 146, 3) := o180 (a := 0) (b := 146) (byt_of hW_move_b0 (j := 30) rfl) (byt_of hW_move_b0 (j := 31) rfl) (byt_of hW_move_b0 (j := 32) rfl) rfl
def bW_move_b1 : List Nat := [146, 27, 46, 62, 42, 180, 0, 19, 180, 0, 146, 27, 28, 79, 29, 172]
theorem hW_move_b1 : BL (mcc mW_move) 32 bW_move_b1 := by decide +kernel
theorem dW_move_33 : decode (mcc mW_move) 33 = .ok (.iload_n 1, 1) := o27 (byt_of hW_move_b1 (j := 1) rfl)
theorem dW_move_34 : decode (mcc mW_move) 34 = .ok (.iaload, 1) := o46 (byt_of hW_move_b1 (j := 2) rfl)
theorem dW_move_35 : decode (mcc mW_move) 35 = .ok (.istore_n 3, 1) := o62 (byt_of hW_move_b1 (j := 3) rfl)
theorem dW_move_36 : decode (mcc mW_move) 36 = .ok (.aload_n 0, 1) := o42 (byt_of hW_move_b1 (j := 4) rfl)
theorem dW_move_37 : decode (mcc mW_move) 37 = .ok (.getfield 19, 3) := o180 (a := 0) (b := 19) (byt_of hW_move_b1 (j := 5) rfl) (byt_of hW_move_b1 (j := 6) rfl) (byt_of hW_move_b1 (j := 7) rfl) rfl
theorem dW_move_40 : decode (mcc mW_move) 40 = .ok (.getfield 146, 3) := o180 (a := 0) (b := 146) (byt_of hW_move_b1 (j := 8) rfl) (byt_of hW_move_b1 (j := 9) rfl) (byt_of hW_move_b1 (j := 10) rfl) rfl
theorem dW_move_43 : decode (mcc mW_move) 43 = .ok (.iload_n 1, 1) := o27 (byt_of hW_move_b1 (j := 11) rfl)
theorem dW_move_44 : decode (mcc mW_move) 44 = .ok (.iload_n 2, 1) := o28 (byt_of hW_move_b1 (j := 12) rfl)
theorem dW_move_45 : decode (mcc mW_move) 45 = .ok (.iastore, 1) := o79 (byt_of hW_move_b1 (j := 13) rfl)
theorem dW_move_46 : decode (mcc mW_move) 46 = .ok (.iload_n 3, 1) := o29 (byt_of hW_move_b1 (j := 14) rfl)
theorem dW_move_47 : decode (mcc mW_move) 47 = .ok (.ireturn, 1) := o172 (byt_of hW_move_b1 (j := 15) rfl)
def bW_told_b0 : List Nat := [42, 180, 0, 19, 27, 182, 0, 143, 154, 0, 6, 16, 251, 172, 28, 170, 0, 0, 0, 111, 0, 0, 0, 0, 0, 0, 0, 6, 0, 0, 0, 41, 0, 0, 0, 51, 0, 0]
theorem hW_told_b0 : BL (mcc mW_told) 0 bW_told_b0 := by decide +kernel
theorem dW_told_0 : decode (mcc mW_told) 0 = .ok (.aload_n 0, 1) := o42 (byt_of hW_told_b0 (j := 0) rfl)
theorem dW_told_1 : decode (mcc mW_told) 1 = .ok (.getfield 19, 3) := o180 (a := 0) (b := 19) (byt_of hW_told_b0 (j := 1) rfl) (byt_of hW_told_b0 (j := 2) rfl) (byt_of hW_told_b0 (j := 3) rfl) rfl
theorem dW_told_4 : decode (mcc mW_told) 4 = .ok (.iload_n 1, 1) := o27 (byt_of hW_told_b0 (j := 4) rfl)
theorem dW_told_5 : decode (mcc mW_told) 5 = .ok (.invokevirtual 143, 3) := o182 (a := 0) (b := 143) (byt_of hW_told_b0 (j := 5) rfl) (byt_of hW_told_b0 (j := 6) rfl) (byt_of hW_told_b0 (j := 7) rfl) rfl
theorem dW_told_8 : decode (mcc mW_told) 8 = .ok (.ifCond .ne 6, 3) := o154 (a := 0) (b := 6) (byt_of hW_told_b0 (j := 8) rfl) (byt_of hW_told_b0 (j := 9) rfl) (byt_of hW_told_b0 (j := 10) rfl) rfl
theorem dW_told_11 : decode (mcc mW_told) 11 = .ok (.bipush (-5), 2) := o16 (a := 251) (byt_of hW_told_b0 (j := 11) rfl) (byt_of hW_told_b0 (j := 12) rfl) rfl
theorem dW_told_13 : decode (mcc mW_told) 13 = .ok (.ireturn, 1) := o172 (byt_of hW_told_b0 (j := 13) rfl)
theorem dW_told_14 : decode (mcc mW_told) 14 = .ok (.iload_n 2, 1) := o28 (byt_of hW_told_b0 (j := 14) rfl)
theorem dW_told_15 : decode (mcc mW_told) 15 = .ok (.tableswitch 111 0 6 #[41, 51, 61, 71, 81, 91, 101], 41) := by decide +kernel
def bW_told_b1 : List Nat := [0, 0, 0, 51, 0, 0, 0, 61, 0, 0, 0, 71, 0, 0, 0, 81, 0, 0, 0, 91, 0, 0, 0, 101, 42, 180, 0, 19, 180, 0, 149, 27, 46, 172, 42, 180, 0, 19]
theorem hW_told_b1 : BL (mcc mW_told) 32 bW_told_b1 := by decide +kernel
theorem dW_told_56 : decode (mcc mW_told) 56 = .ok (.aload_n 0, 1) := o42 (byt_of hW_told_b1 (j := 24) rfl)
theorem dW_told_57 : decode (mcc mW_told) 57 = .ok (.getfield 19, 3) := o180 (a := 0) (b := 19) (byt_of hW_told_b1 (j := 25) rfl) (byt_of hW_told_b1 (j := 26) rfl) (byt_of hW_told_b1 (j := 27) rfl) rfl
theorem dW_told_60 : decode (mcc mW_told) 60 = .ok (.getfield 149, 3) := o180 (a := 0) (b := 149) (byt_of hW_told_b1 (j := 28) rfl) (byt_of hW_told_b1 (j := 29) rfl) (byt_of hW_told_b1 (j := 30) rfl) rfl
theorem dW_told_63 : decode (mcc mW_told) 63 = .ok (.iload_n 1, 1) := o27 (byt_of hW_told_b1 (j := 31) rfl)
def bW_told_b2 : List Nat := [46, 172, 42, 180, 0, 19, 180, 0, 152, 27, 46, 172, 42, 180, 0, 19, 180, 0, 155, 27, 46, 172, 42, 180, 0, 19, 180, 0, 158, 27, 46, 172, 42, 180, 0, 19, 180, 0]
theorem hW_told_b2 : BL (mcc mW_told) 64 bW_told_b2 := by decide +kernel
theorem dW_told_64 : decode (mcc mW_told) 64 = .ok (.iaload, 1) := o46 (byt_of hW_told_b2 (j := 0) rfl)
theorem dW_told_65 : decode (mcc mW_told) 65 = .ok (.ireturn, 1) := o172 (byt_of hW_told_b2 (j := 1) rfl)
theorem dW_told_66 : decode (mcc mW_told) 66 = .ok (.aload_n 0, 1) := o42 (byt_of hW_told_b2 (j := 2) rfl)
theorem dW_told_67 : decode (mcc mW_told) 67 = .ok (.getfield 19, 3) := o180 (a := 0) (b := 19) (byt_of hW_told_b2 (j := 3) rfl) (byt_of hW_told_b2 (j := 4) rfl) (byt_of hW_told_b2 (j := 5) rfl) rfl
theorem dW_told_70 : decode (mcc mW_told) 70 = .ok (.getfield 152, 3) := o180 (a := 0) (b := 152) (byt_of hW_told_b2 (j := 6) rfl) (byt_of hW_told_b2 (j := 7) rfl) (byt_of hW_told_b2 (j := 8) rfl) rfl
theorem dW_told_73 : decode (mcc mW_told) 73 = .ok (.iload_n 1, 1) := o27 (byt_of hW_told_b2 (j := 9) rfl)
theorem dW_told_74 : decode (mcc mW_told) 74 = .ok (.iaload, 1) := o46 (byt_of hW_told_b2 (j := 10) rfl)
theorem dW_told_75 : decode (mcc mW_told) 75 = .ok (.ireturn, 1) := o172 (byt_of hW_told_b2 (j := 11) rfl)
theorem dW_told_76 : decode (mcc mW_told) 76 = .ok (.aload_n 0, 1) := o42 (byt_of hW_told_b2 (j := 12) rfl)
theorem dW_told_77 : decode (mcc mW_told) 77 = .ok (.getfield 19, 3) := o180 (a := 0) (b := 19) (byt_of hW_told_b2 (j := 13) rfl) (byt_of hW_told_b2 (j := 14) rfl) (byt_of hW_told_b2 (j := 15) rfl) rfl
theorem dW_told_80 : decode (mcc mW_told) 80 = .ok (.getfield 155, 3) := o180 (a := 0) (b := 155) (byt_of hW_told_b2 (j := 16) rfl) (byt_of hW_told_b2 (j := 17) rfl) (byt_of hW_told_b2 (j := 18) rfl) rfl
theorem dW_told_83 : decode (mcc mW_told) 83 = .ok (.iload_n 1, 1) := o27 (byt_of hW_told_b2 (j := 19) rfl)
theorem dW_told_84 : decode (mcc mW_told) 84 = .ok (.iaload, 1) := o46 (byt_of hW_told_b2 (j := 20) rfl)
theorem dW_told_85 : decode (mcc mW_told) 85 = .ok (.ireturn, 1) := o172 (byt_of hW_told_b2 (j := 21) rfl)
theorem dW_told_86 : decode (mcc mW_told) 86 = .ok (.aload_n 0, 1) := o42 (byt_of hW_told_b2 (j := 22) rfl)
theorem dW_told_87 : decode (mcc mW_told) 87 = .ok (.getfield 19, 3) := o180 (a := 0) (b := 19) (byt_of hW_told_b2 (j := 23) rfl) (byt_of hW_told_b2 (j := 24) rfl) (byt_of hW_told_b2 (j := 25) rfl) rfl
theorem dW_told_90 : decode (mcc mW_told) 90 = .ok (.getfield 158, 3) := o180 (a := 0) (b := 158) (byt_of hW_told_b2 (j := 26) rfl) (byt_of hW_told_b2 (j := 27) rfl) (byt_of hW_told_b2 (j := 28) rfl) rfl
theorem dW_told_93 : decode (mcc mW_told) 93 = .ok (.iload_n 1, 1) := o27 (byt_of hW_told_b2 (j := 29) rfl)
theorem dW_told_94 : decode (mcc mW_told) 94 = .ok (.iaload, 1) := o46 (byt_of hW_told_b2 (j := 30) rfl)
theorem dW_told_95 : decode (mcc mW_told) 95 = .ok (.ireturn, 1) := o172 (byt_of hW_told_b2 (j := 31) rfl)
def bW_told_b3 : List Nat := [42, 180, 0, 19, 180, 0, 161, 27, 46, 172, 42, 180, 0, 19, 180, 0, 164, 27, 46, 172, 42, 180, 0, 19, 180, 0, 167, 27, 46, 172, 28, 16, 7, 16, 12, 184, 0, 101]
theorem hW_told_b3 : BL (mcc mW_told) 96 bW_told_b3 := by decide +kernel
theorem dW_told_96 : decode (mcc mW_told) 96 = .ok (.aload_n 0, 1) := o42 (byt_of hW_told_b3 (j := 0) rfl)
theorem dW_told_97 : decode (mcc mW_told) 97 = .ok (.getfield 19, 3) := o180 (a := 0) (b := 19) (byt_of hW_told_b3 (j := 1) rfl) (byt_of hW_told_b3 (j := 2) rfl) (byt_of hW_told_b3 (j := 3) rfl) rfl
theorem dW_told_100 : decode (mcc mW_told) 100 = .ok (.getfield 161, 3) := o180 (a := 0) (b := 161) (byt_of hW_told_b3 (j := 4) rfl) (byt_of hW_told_b3 (j := 5) rfl) (byt_of hW_told_b3 (j := 6) rfl) rfl
theorem dW_told_103 : decode (mcc mW_told) 103 = .ok (.iload_n 1, 1) := o27 (byt_of hW_told_b3 (j := 7) rfl)
theorem dW_told_104 : decode (mcc mW_told) 104 = .ok (.iaload, 1) := o46 (byt_of hW_told_b3 (j := 8) rfl)
theorem dW_told_105 : decode (mcc mW_told) 105 = .ok (.ireturn, 1) := o172 (byt_of hW_told_b3 (j := 9) rfl)
theorem dW_told_106 : decode (mcc mW_told) 106 = .ok (.aload_n 0, 1) := o42 (byt_of hW_told_b3 (j := 10) rfl)
theorem dW_told_107 : decode (mcc mW_told) 107 = .ok (.getfield 19, 3) := o180 (a := 0) (b := 19) (byt_of hW_told_b3 (j := 11) rfl) (byt_of hW_told_b3 (j := 12) rfl) (byt_of hW_told_b3 (j := 13) rfl) rfl
theorem dW_told_110 : decode (mcc mW_told) 110 = .ok (.getfield 164, 3) := o180 (a := 0) (b := 164) (byt_of hW_told_b3 (j := 14) rfl) (byt_of hW_told_b3 (j := 15) rfl) (byt_of hW_told_b3 (j := 16) rfl) rfl
theorem dW_told_113 : decode (mcc mW_told) 113 = .ok (.iload_n 1, 1) := o27 (byt_of hW_told_b3 (j := 17) rfl)
theorem dW_told_114 : decode (mcc mW_told) 114 = .ok (.iaload, 1) := o46 (byt_of hW_told_b3 (j := 18) rfl)
theorem dW_told_115 : decode (mcc mW_told) 115 = .ok (.ireturn, 1) := o172 (byt_of hW_told_b3 (j := 19) rfl)
theorem dW_told_116 : decode (mcc mW_told) 116 = .ok (.aload_n 0, 1) := o42 (byt_of hW_told_b3 (j := 20) rfl)
theorem dW_told_117 : decode (mcc mW_told) 117 = .ok (.getfield 19, 3) := o180 (a := 0) (b := 19) (byt_of hW_told_b3 (j := 21) rfl) (byt_of hW_told_b3 (j := 22) rfl) (byt_of hW_told_b3 (j := 23) rfl) rfl
theorem dW_told_120 : decode (mcc mW_told) 120 = .ok (.getfield 167, 3) := o180 (a := 0) (b := 167) (byt_of hW_told_b3 (j := 24) rfl) (byt_of hW_told_b3 (j := 25) rfl) (byt_of hW_told_b3 (j := 26) rfl) rfl
theorem dW_told_123 : decode (mcc mW_told) 123 = .ok (.iload_n 1, 1) := o27 (byt_of hW_told_b3 (j := 27) rfl)
theorem dW_told_124 : decode (mcc mW_told) 124 = .ok (.iaload, 1) := o46 (byt_of hW_told_b3 (j := 28) rfl)
theorem dW_told_125 : decode (mcc mW_told) 125 = .ok (.ireturn, 1) := o172 (byt_of hW_told_b3 (j := 29) rfl)
theorem dW_told_126 : decode (mcc mW_told) 126 = .ok (.iload_n 2, 1) := o28 (byt_of hW_told_b3 (j := 30) rfl)
theorem dW_told_127 : decode (mcc mW_told) 127 = .ok (.bipush 7, 2) := o16 (a := 7) (byt_of hW_told_b3 (j := 31) rfl) (byt_of hW_told_b3 (j := 32) rfl) rfl
def bW_told_b4 : List Nat := [7, 16, 12, 184, 0, 101, 153, 0, 18, 42, 180, 0, 19, 27, 28, 16, 7, 100, 182, 0, 170, 167, 0, 5, 16, 249, 172]
theorem hW_told_b4 : BL (mcc mW_told) 128 bW_told_b4 := by decide +kernel
theorem dW_told_129 : decode (mcc mW_told) 129 = .ok (.bipush 12, 2) := o16 (a := 12) (byt_of hW_told_b4 (j := 1) rfl) (byt_of hW_told_b4 (j := 2) rfl) rfl
theorem dW_told_131 : decode (mcc mW_told) 131 = .ok (.invokestatic 101, 3) := o184 (a := 0) (b := 101) (byt_of hW_told_b4 (j := 3) rfl) (byt_of hW_told_b4 (j := 4) rfl) (byt_of hW_told_b4 (j := 5) rfl) rfl
theorem dW_told_134 : decode (mcc mW_told) 134 = .ok (.ifCond .eq 18, 3) := o153 (a := 0) (b := 18) (byt_of hW_told_b4 (j := 6) rfl) (byt_of hW_told_b4 (j := 7) rfl) (byt_of hW_told_b4 (j := 8) rfl) rfl
theorem dW_told_137 : decode (mcc mW_told) 137 = .ok (.aload_n 0, 1) := o42 (byt_of hW_told_b4 (j := 9) rfl)
theorem dW_told_138 : decode (mcc mW_told) 138 = .ok (.getfield 19, 3) := o180 (a := 0) (b := 19) (byt_of hW_told_b4 (j := 10) rfl) (byt_of hW_told_b4 (j := 11) rfl) (byt_of hW_told_b4 (j := 12) rfl) rfl
theorem dW_told_141 : decode (mcc mW_told) 141 = .ok (.iload_n 1, 1) := o27 (byt_of hW_told_b4 (j := 13) rfl)
theorem dW_told_142 : decode (mcc mW_told) 142 = .ok (.iload_n 2, 1) := o28 (byt_of hW_told_b4 (j := 14) rfl)
theorem dW_told_143 : decode (mcc mW_told) 143 = .ok (.bipush 7, 2) := o16 (a := 7) (byt_of hW_told_b4 (j := 15) rfl) (byt_of hW_told_b4 (j := 16) rfl) rfl
theorem dW_told_145 : decode (mcc mW_told) 145 = .ok (.isub, 1) := o100 (byt_of hW_told_b4 (j := 17) rfl)
theorem dW_told_146 : decode (mcc mW_told) 146 = .ok (.invokevirtual 170, 3) := o182 (a := 0) (b := 170) (byt_of hW_told_b4 (j := 18) rfl) (byt_of hW_told_b4 (j := 19) rfl) (byt_of hW_told_b4 (j := 20) rfl) rfl
theorem dW_told_149 : decode (mcc mW_told) 149 = .ok (.goto 5, 3) := o167 (a := 0) (b := 5) (byt_of hW_told_b4 (j := 21) rfl) (byt_of hW_told_b4 (j := 22) rfl) (byt_of hW_told_b4 (j := 23) rfl) rfl
theorem dW_told_152 : decode (mcc mW_told) 152 = .ok (.bipush (-7), 2) := o16 (a := 249) (byt_of hW_told_b4 (j := 24) rfl) (byt_of hW_told_b4 (j := 25) rfl) rfl
theorem dW_told_154 : decode (mcc mW_told) 154 = .ok (.ireturn, 1) := o172 (byt_of hW_told_b4 (j := 26) rfl)
def bW_promise_b0 : List Nat := [27, 3, 16, 7, 184, 0, 101, 153, 0, 41, 28, 4, 16, 99, 184, 0, 101, 153, 0, 31, 29, 3, 16, 99, 184, 0, 101, 153, 0, 21, 21, 4, 2, 42, 180, 0, 26, 180]
theorem hW_promise_b0 : BL (mcc mW_promise) 0 bW_promise_b0 := by decide +kernel
theorem dW_promise_0 : decode (mcc mW_promise) 0 = .ok (.iload_n 1, 1) := o27 (byt_of hW_promise_b0 (j := 0) rfl)
theorem dW_promise_1 : decode (mcc mW_promise) 1 = .ok (.iconst 0, 1) := o3 (byt_of hW_promise_b0 (j := 1) rfl)
theorem dW_promise_2 : decode (mcc mW_promise) 2 = .ok (.bipush 7, 2) := o16 (a := 7) (byt_of hW_promise_b0 (j := 2) rfl) (byt_of hW_promise_b0 (j := 3) rfl) rfl
theorem dW_promise_4 : decode (mcc mW_promise) 4 = .ok (.invokestatic 101, 3) := o184 (a := 0) (b := 101) (byt_of hW_promise_b0 (j := 4) rfl) (byt_of hW_promise_b0 (j := 5) rfl) (byt_of hW_promise_b0 (j := 6) rfl) rfl
theorem dW_promise_7 : decode (mcc mW_promise) 7 = .ok (.ifCond .eq 41, 3) := o153 (a := 0) (b := 41) (byt_of hW_promise_b0 (j := 7) rfl) (byt_of hW_promise_b0 (j := 8) rfl) (byt_of hW_promise_b0 (j := 9) rfl) rfl
theorem dW_promise_10 : decode (mcc mW_promise) 10 = .ok (.iload_n 2, 1) := o28 (byt_of hW_promise_b0 (j := 10) rfl)
theorem dW_promise_11 : decode (mcc mW_promise) 11 = .ok (.iconst 1, 1) := o4 (byt_of hW_promise_b0 (j := 11) rfl)
theorem dW_promise_12 : decode (mcc mW_promise) 12 = .ok (.bipush 99, 2) := o16 (a := 99) (byt_of hW_promise_b0 (j := 12) rfl) (byt_of hW_promise_b0 (j := 13) rfl) rfl
theorem dW_promise_14 : decode (mcc mW_promise) 14 = .ok (.invokestatic 101, 3) := o184 (a := 0) (b := 101) (byt_of hW_promise_b0 (j := 14) rfl) (byt_of hW_promise_b0 (j := 15) rfl) (byt_of hW_promise_b0 (j := 16) rfl) rfl
theorem dW_promise_17 : decode (mcc mW_promise) 17 = .ok (.ifCond .eq 31, 3) := o153 (a := 0) (b := 31) (byt_of hW_promise_b0 (j := 17) rfl) (byt_of hW_promise_b0 (j := 18) rfl) (byt_of hW_promise_b0 (j := 19) rfl) rfl
theorem dW_promise_20 : decode (mcc mW_promise) 20 = .ok (.iload_n 3, 1) := o29 (byt_of hW_promise_b0 (j := 20) rfl)
theorem dW_promise_21 : decode (mcc mW_promise) 21 = .ok (.iconst 0, 1) := o3 (byt_of hW_promise_b0 (j := 21) rfl)
theorem dW_promise_22 : decode (mcc mW_promise) 22 = .ok (.bipush 99, 2) := o16 (a := 99) (byt_of hW_promise_b0 (j := 22) rfl) (byt_of hW_promise_b0 (j := 23) rfl) rfl
theorem dW_promise_24 : decode (mcc mW_promise) 24 = .ok (.invokestatic 101, 3) := o184 (a := 0) (b := 101) (byt_of hW_promise_b0 (j := 24) rfl) (byt_of hW_promise_b0 (j := 25) rfl) (byt_of hW_promise_b0 (j := 26) rfl) rfl
theorem dW_promise_27 : decode (mcc mW_promise) 27 = .ok (.ifCond .eq 21, 3) := o153 (a := 0) (b := 21) (byt_of hW_promise_b0 (j := 27) rfl) (byt_of hW_promise_b0 (j := 28) rfl) (byt_of hW_promise_b0 (j := 29) rfl) rfl
theorem dW_promise_30 : decode (mcc mW_promise) 30 = .ok (.iload 4, 2) := o21 (a := 4) (byt_of hW_promise_b0 (j := 30) rfl) (byt_of hW_promise_b0 (j := 31) rfl)
def bW_promise_b1 : List Nat := [2, 42, 180, 0, 26, 180, 0, 124, 4, 100, 184, 0, 101, 154, 0, 6, 16, 254, 172, 42, 180, 0, 26, 180, 0, 124, 16, 8, 161, 0, 6, 16, 252, 172, 42, 180, 0, 26]
theorem hW_promise_b1 : BL (mcc mW_promise) 32 bW_promise_b1 := by decide +kernel
theorem dW_promise_32 : decode (mcc mW_promise) 32 = .ok (.iconst (-1), 1) := o2 (byt_of hW_promise_b1 (j := 0) rfl)
theorem dW_promise_33 : decode (mcc mW_promise) 33 = .ok (.aload_n 0, 1) := o42 (byt_of hW_promise_b1 (j := 1) rfl)
theorem dW_promise_34 : decode (mcc mW_promise) 34 = .ok (.getfield 26, 3) := o180 (a := 0) (b := 26) (byt_of hW_promise_b1 (j := 2) rfl) (byt_of hW_promise_b1 (j := 3) rfl) (byt_of hW_promise_b1 (j := 4) rfl) rfl
theorem dW_promise_37 : decode (mcc mW_promise) 37 = .ok (.getfield 124, 3) := o180 (a := 0) (b := 124) (byt_of hW_promise_b1 (j := 5) rfl) (byt_of hW_promise_b1 (j := 6) rfl) (byt_of hW_promise_b1 (j := 7) rfl) rfl
theorem dW_promise_40 : decode (mcc mW_promise) 40 = .ok (.iconst 1, 1) := o4 (byt_of hW_promise_b1 (j := 8) rfl)
theorem dW_promise_41 : decode (mcc mW_promise) 41 = .ok (.isub, 1) := o100 (byt_of hW_promise_b1 (j := 9) rfl)
theorem dW_promise_42 : decode (mcc mW_promise) 42 = .ok (.invokestatic 101, 3) := o184 (a := 0) (b := 101) (byt_of hW_promise_b1 (j := 10) rfl) (byt_of hW_promise_b1 (j := 11) rfl) (byt_of hW_promise_b1 (j := 12) rfl) rfl
theorem dW_promise_45 : decode (mcc mW_promise) 45 = .ok (.ifCond .ne 6, 3) := o154 (a := 0) (b := 6) (byt_of hW_promise_b1 (j := 13) rfl) (byt_of hW_promise_b1 (j := 14) rfl) (byt_of hW_promise_b1 (j := 15) rfl) rfl
theorem dW_promise_48 : decode (mcc mW_promise) 48 = .ok (.bipush (-2), 2) := o16 (a := 254) (byt_of hW_promise_b1 (j := 16) rfl) (byt_of hW_promise_b1 (j := 17) rfl) rfl
theorem dW_promise_50 : decode (mcc mW_promise) 50 = .ok (.ireturn, 1) := o172 (byt_of hW_promise_b1 (j := 18) rfl)
theorem dW_promise_51 : decode (mcc mW_promise) 51 = .ok (.aload_n 0, 1) := o42 (byt_of hW_promise_b1 (j := 19) rfl)
theorem dW_promise_52 : decode (mcc mW_promise) 52 = .ok (.getfield 26, 3) := o180 (a := 0) (b := 26) (byt_of hW_promise_b1 (j := 20) rfl) (byt_of hW_promise_b1 (j := 21) rfl) (byt_of hW_promise_b1 (j := 22) rfl) rfl
theorem dW_promise_55 : decode (mcc mW_promise) 55 = .ok (.getfield 124, 3) := o180 (a := 0) (b := 124) (byt_of hW_promise_b1 (j := 23) rfl) (byt_of hW_promise_b1 (j := 24) rfl) (byt_of hW_promise_b1 (j := 25) rfl) rfl
theorem dW_promise_58 : decode (mcc mW_promise) 58 = .ok (.bipush 8, 2) := o16 (a := 8) (byt_of hW_promise_b1 (j := 26) rfl) (byt_of hW_promise_b1 (j := 27) rfl) rfl
theorem dW_promise_60 : decode (mcc mW_promise) 60 = .ok (.if_icmp .lt 6, 3) := o161 (a := 0) (b := 6) (byt_of hW_promise_b1 (j := 28) rfl) (byt_of hW_promise_b1 (j := 29) rfl) (byt_of hW_promise_b1 (j := 30) rfl) rfl
theorem dW_promise_63 : decode (mcc mW_promise) 63 = .ok (.bipush (-4), 2) := o16 (a := 252) (byt_of hW_promise_b1 (j := 31) rfl) (byt_of hW_promise_b1 (j := 32) rfl) rfl
def bW_promise_b2 : List Nat := [252, 172, 42, 180, 0, 26, 27, 28, 29, 21, 4, 182, 0, 173, 172]
theorem hW_promise_b2 : BL (mcc mW_promise) 64 bW_promise_b2 := by decide +kernel
theorem dW_promise_65 : decode (mcc mW_promise) 65 = .ok (.ireturn, 1) := o172 (byt_of hW_promise_b2 (j := 1) rfl)
theorem dW_promise_66 : decode (mcc mW_promise) 66 = .ok (.aload_n 0, 1) := o42 (byt_of hW_promise_b2 (j := 2) rfl)
theorem dW_promise_67 : decode (mcc mW_promise) 67 = .ok (.getfield 26, 3) := o180 (a := 0) (b := 26) (byt_of hW_promise_b2 (j := 3) rfl) (byt_of hW_promise_b2 (j := 4) rfl) (byt_of hW_promise_b2 (j := 5) rfl) rfl
theorem dW_promise_70 : decode (mcc mW_promise) 70 = .ok (.iload_n 1, 1) := o27 (byt_of hW_promise_b2 (j := 6) rfl)
theorem dW_promise_71 : decode (mcc mW_promise) 71 = .ok (.iload_n 2, 1) := o28 (byt_of hW_promise_b2 (j := 7) rfl)
theorem dW_promise_72 : decode (mcc mW_promise) 72 = .ok (.iload_n 3, 1) := o29 (byt_of hW_promise_b2 (j := 8) rfl)
theorem dW_promise_73 : decode (mcc mW_promise) 73 = .ok (.iload 4, 2) := o21 (a := 4) (byt_of hW_promise_b2 (j := 9) rfl) (byt_of hW_promise_b2 (j := 10) rfl)
theorem dW_promise_75 : decode (mcc mW_promise) 75 = .ok (.invokevirtual 173, 3) := o182 (a := 0) (b := 173) (byt_of hW_promise_b2 (j := 11) rfl) (byt_of hW_promise_b2 (j := 12) rfl) (byt_of hW_promise_b2 (j := 13) rfl) rfl
theorem dW_promise_78 : decode (mcc mW_promise) 78 = .ok (.ireturn, 1) := o172 (byt_of hW_promise_b2 (j := 14) rfl)
def bW_promised_b0 : List Nat := [42, 180, 0, 26, 27, 182, 0, 174, 154, 0, 6, 16, 251, 172, 28, 170, 0, 0, 0, 69, 0, 0, 0, 0, 0, 0, 0, 3, 0, 0, 0, 29, 0, 0, 0, 39, 0, 0]
theorem hW_promised_b0 : BL (mcc mW_promised) 0 bW_promised_b0 := by decide +kernel
theorem dW_promised_0 : decode (mcc mW_promised) 0 = .ok (.aload_n 0, 1) := o42 (byt_of hW_promised_b0 (j := 0) rfl)
theorem dW_promised_1 : decode (mcc mW_promised) 1 = .ok (.getfield 26, 3) := o180 (a := 0) (b := 26) (byt_of hW_promised_b0 (j := 1) rfl) (byt_of hW_promised_b0 (j := 2) rfl) (byt_of hW_promised_b0 (j := 3) rfl) rfl
theorem dW_promised_4 : decode (mcc mW_promised) 4 = .ok (.iload_n 1, 1) := o27 (byt_of hW_promised_b0 (j := 4) rfl)
theorem dW_promised_5 : decode (mcc mW_promised) 5 = .ok (.invokevirtual 174, 3) := o182 (a := 0) (b := 174) (byt_of hW_promised_b0 (j := 5) rfl) (byt_of hW_promised_b0 (j := 6) rfl) (byt_of hW_promised_b0 (j := 7) rfl) rfl
theorem dW_promised_8 : decode (mcc mW_promised) 8 = .ok (.ifCond .ne 6, 3) := o154 (a := 0) (b := 6) (byt_of hW_promised_b0 (j := 8) rfl) (byt_of hW_promised_b0 (j := 9) rfl) (byt_of hW_promised_b0 (j := 10) rfl) rfl
theorem dW_promised_11 : decode (mcc mW_promised) 11 = .ok (.bipush (-5), 2) := o16 (a := 251) (byt_of hW_promised_b0 (j := 11) rfl) (byt_of hW_promised_b0 (j := 12) rfl) rfl
theorem dW_promised_13 : decode (mcc mW_promised) 13 = .ok (.ireturn, 1) := o172 (byt_of hW_promised_b0 (j := 13) rfl)
theorem dW_promised_14 : decode (mcc mW_promised) 14 = .ok (.iload_n 2, 1) := o28 (byt_of hW_promised_b0 (j := 14) rfl)
theorem dW_promised_15 : decode (mcc mW_promised) 15 = .ok (.tableswitch 69 0 3 #[29, 39, 49, 59], 29) := by decide +kernel
def bW_promised_b1 : List Nat := [0, 0, 0, 39, 0, 0, 0, 49, 0, 0, 0, 59, 42, 180, 0, 26, 180, 0, 175, 27, 46, 172, 42, 180, 0, 26, 180, 0, 178, 27, 46, 172, 42, 180, 0, 26, 180, 0]
theorem hW_promised_b1 : BL (mcc mW_promised) 32 bW_promised_b1 := by decide +kernel
theorem dW_promised_44 : decode (mcc mW_promised) 44 = .ok (.aload_n 0, 1) := o42 (byt_of hW_promised_b1 (j := 12) rfl)
theorem dW_promised_45 : decode (mcc mW_promised) 45 = .ok (.getfield 26, 3) := o180 (a := 0) (b := 26) (byt_of hW_promised_b1 (j := 13) rfl) (byt_of hW_promised_b1 (j := 14) rfl) (byt_of hW_promised_b1 (j := 15) rfl) rfl
theorem dW_promised_48 : decode (mcc mW_promised) 48 = .ok (.getfield 175, 3) := o180 (a := 0) (b := 175) (byt_of hW_promised_b1 (j := 16) rfl) (byt_of hW_promised_b1 (j := 17) rfl) (byt_of hW_promised_b1 (j := 18) rfl) rfl
theorem dW_promised_51 : decode (mcc mW_promised) 51 = .ok (.iload_n 1, 1) := o27 (byt_of hW_promised_b1 (j := 19) rfl)
theorem dW_promised_52 : decode (mcc mW_promised) 52 = .ok (.iaload, 1) := o46 (byt_of hW_promised_b1 (j := 20) rfl)
theorem dW_promised_53 : decode (mcc mW_promised) 53 = .ok (.ireturn, 1) := o172 (byt_of hW_promised_b1 (j := 21) rfl)
theorem dW_promised_54 : decode (mcc mW_promised) 54 = .ok (.aload_n 0, 1) := o42 (byt_of hW_promised_b1 (j := 22) rfl)
theorem dW_promised_55 : decode (mcc mW_promised) 55 = .ok (.getfield 26, 3) := o180 (a := 0) (b := 26) (byt_of hW_promised_b1 (j := 23) rfl) (byt_of hW_promised_b1 (j := 24) rfl) (byt_of hW_promised_b1 (j := 25) rfl) rfl
theorem dW_promised_58 : decode (mcc mW_promised) 58 = .ok (.getfield 178, 3) := o180 (a := 0) (b := 178) (byt_of hW_promised_b1 (j := 26) rfl) (byt_of hW_promised_b1 (j := 27) rfl) (byt_of hW_promised_b1 (j := 28) rfl) rfl
theorem dW_promised_61 : decode (mcc mW_promised) 61 = .ok (.iload_n 1, 1) := o27 (byt_of hW_promised_b1 (j := 29) rfl)
theorem dW_promised_62 : decode (mcc mW_promised) 62 = .ok (.iaload, 1) := o46 (byt_of hW_promised_b1 (j := 30) rfl)
theorem dW_promised_63 : decode (mcc mW_promised) 63 = .ok (.ireturn, 1) := o172 (byt_of hW_promised_b1 (j := 31) rfl)
def bW_promised_b2 : List Nat := [42, 180, 0, 26, 180, 0, 181, 27, 46, 172, 42, 180, 0, 26, 180, 0, 184, 27, 46, 172, 16, 249, 172]
theorem hW_promised_b2 : BL (mcc mW_promised) 64 bW_promised_b2 := by decide +kernel
theorem dW_promised_64 : decode (mcc mW_promised) 64 = .ok (.aload_n 0, 1) := o42 (byt_of hW_promised_b2 (j := 0) rfl)
theorem dW_promised_65 : decode (mcc mW_promised) 65 = .ok (.getfield 26, 3) := o180 (a := 0) (b := 26) (byt_of hW_promised_b2 (j := 1) rfl) (byt_of hW_promised_b2 (j := 2) rfl) (byt_of hW_promised_b2 (j := 3) rfl) rfl
theorem dW_promised_68 : decode (mcc mW_promised) 68 = .ok (.getfield 181, 3) := o180 (a := 0) (b := 181) (byt_of hW_promised_b2 (j := 4) rfl) (byt_of hW_promised_b2 (j := 5) rfl) (byt_of hW_promised_b2 (j := 6) rfl) rfl
theorem dW_promised_71 : decode (mcc mW_promised) 71 = .ok (.iload_n 1, 1) := o27 (byt_of hW_promised_b2 (j := 7) rfl)
theorem dW_promised_72 : decode (mcc mW_promised) 72 = .ok (.iaload, 1) := o46 (byt_of hW_promised_b2 (j := 8) rfl)
theorem dW_promised_73 : decode (mcc mW_promised) 73 = .ok (.ireturn, 1) := o172 (byt_of hW_promised_b2 (j := 9) rfl)
theorem dW_promised_74 : decode (mcc mW_promised) 74 = .ok (.aload_n 0, 1) := o42 (byt_of hW_promised_b2 (j := 10) rfl)
theorem dW_promised_75 : decode (mcc mW_promised) 75 = .ok (.getfield 26, 3) := o180 (a := 0) (b := 26) (byt_of hW_promised_b2 (j := 11) rfl) (byt_of hW_promised_b2 (j := 12) rfl) (byt_of hW_promised_b2 (j := 13) rfl) rfl
theorem dW_promised_78 : decode (mcc mW_promised) 78 = .ok (.getfield 184, 3) := o180 (a := 0) (b := 184) (byt_of hW_promised_b2 (j := 14) rfl) (byt_of hW_promised_b2 (j := 15) rfl) (byt_of hW_promised_b2 (j := 16) rfl) rfl
theorem dW_promised_81 : decode (mcc mW_promised) 81 = .ok (.iload_n 1, 1) := o27 (byt_of hW_promised_b2 (j := 17) rfl)
theorem dW_promised_82 : decode (mcc mW_promised) 82 = .ok (.iaload, 1) := o46 (byt_of hW_promised_b2 (j := 18) rfl)
theorem dW_promised_83 : decode (mcc mW_promised) 83 = .ok (.ireturn, 1) := o172 (byt_of hW_promised_b2 (j := 19) rfl)
theorem dW_promised_84 : decode (mcc mW_promised) 84 = .ok (.bipush (-7), 2) := o16 (a := 249) (byt_of hW_promised_b2 (j := 20) rfl) (byt_of hW_promised_b2 (j := 21) rfl) rfl
theorem dW_promised_86 : decode (mcc mW_promised) 86 = .ok (.ireturn, 1) := o172 (byt_of hW_promised_b2 (j := 22) rfl)
def bW_say_b0 : List Nat := [42, 180, 0, 26, 27, 182, 0, 174, 153, 0, 10, 28, 184, 0, 187, 154, 0, 6, 16, 254, 172, 42, 180, 0, 33, 180, 0, 125, 16, 10, 161, 0, 6, 16, 252, 172, 42, 180]
theorem hW_say_b0 : BL (mcc mW_say) 0 bW_say_b0 := by decide +kernel
theorem dW_say_0 : decode (mcc mW_say) 0 = .ok (.aload_n 0, 1) := o42 (byt_of hW_say_b0 (j := 0) rfl)
theorem dW_say_1 : decode (mcc mW_say) 1 = .ok (.getfield 26, 3) := o180 (a := 0) (b := 26) (byt_of hW_say_b0 (j := 1) rfl) (byt_of hW_say_b0 (j := 2) rfl) (byt_of hW_say_b0 (j := 3) rfl) rfl
theorem dW_say_4 : decode (mcc mW_say) 4 = .ok (.iload_n 1, 1) := o27 (byt_of hW_say_b0 (j := 4) rfl)
theorem dW_say_5 : decode (mcc mW_say) 5 = .ok (.invokevirtual 174, 3) := o182 (a := 0) (b := 174) (byt_of hW_say_b0 (j := 5) rfl) (byt_of hW_say_b0 (j := 6) rfl) (byt_of hW_say_b0 (j := 7) rfl) rfl
theorem dW_say_8 : decode (mcc mW_say) 8 = .ok (.ifCond .eq 10, 3) := o153 (a := 0) (b := 10) (byt_of hW_say_b0 (j := 8) rfl) (byt_of hW_say_b0 (j := 9) rfl) (byt_of hW_say_b0 (j := 10) rfl) rfl
theorem dW_say_11 : decode (mcc mW_say) 11 = .ok (.iload_n 2, 1) := o28 (byt_of hW_say_b0 (j := 11) rfl)
theorem dW_say_12 : decode (mcc mW_say) 12 = .ok (.invokestatic 187, 3) := o184 (a := 0) (b := 187) (byt_of hW_say_b0 (j := 12) rfl) (byt_of hW_say_b0 (j := 13) rfl) (byt_of hW_say_b0 (j := 14) rfl) rfl
theorem dW_say_15 : decode (mcc mW_say) 15 = .ok (.ifCond .ne 6, 3) := o154 (a := 0) (b := 6) (byt_of hW_say_b0 (j := 15) rfl) (byt_of hW_say_b0 (j := 16) rfl) (byt_of hW_say_b0 (j := 17) rfl) rfl
theorem dW_say_18 : decode (mcc mW_say) 18 = .ok (.bipush (-2), 2) := o16 (a := 254) (byt_of hW_say_b0 (j := 18) rfl) (byt_of hW_say_b0 (j := 19) rfl) rfl
theorem dW_say_20 : decode (mcc mW_say) 20 = .ok (.ireturn, 1) := o172 (byt_of hW_say_b0 (j := 20) rfl)
theorem dW_say_21 : decode (mcc mW_say) 21 = .ok (.aload_n 0, 1) := o42 (byt_of hW_say_b0 (j := 21) rfl)
theorem dW_say_22 : decode (mcc mW_say) 22 = .ok (.getfield 33, 3) := o180 (a := 0) (b := 33) (byt_of hW_say_b0 (j := 22) rfl) (byt_of hW_say_b0 (j := 23) rfl) (byt_of hW_say_b0 (j := 24) rfl) rfl
theorem dW_say_25 : decode (mcc mW_say) 25 = .ok (.getfield 125, 3) := o180 (a := 0) (b := 125) (byt_of hW_say_b0 (j := 25) rfl) (byt_of hW_say_b0 (j := 26) rfl) (byt_of hW_say_b0 (j := 27) rfl) rfl
theorem dW_say_28 : decode (mcc mW_say) 28 = .ok (.bipush 10, 2) := o16 (a := 10) (byt_of hW_say_b0 (j := 28) rfl) (byt_of hW_say_b0 (j := 29) rfl) rfl
theorem dW_say_30 : decode (mcc mW_say) 30 = .ok (.if_icmp .lt 6, 3) := o161 (a := 0) (b := 6) (byt_of hW_say_b0 (j := 30) rfl) (byt_of hW_say_b0 (j := 31) rfl) (byt_of hW_say_b0 (j := 32) rfl) rfl
def bW_say_b1 : List Nat := [6, 16, 252, 172, 42, 180, 0, 33, 180, 0, 125, 62, 42, 180, 0, 33, 29, 27, 28, 182, 0, 190, 42, 180, 0, 33, 29, 4, 96, 181, 0, 125, 29, 172]
theorem hW_say_b1 : BL (mcc mW_say) 32 bW_say_b1 := by decide +kernel
theorem dW_say_33 : decode (mcc mW_say) 33 = .ok (.bipush (-4), 2) := o16 (a := 252) (byt_of hW_say_b1 (j := 1) rfl) (byt_of hW_say_b1 (j := 2) rfl) rfl
theorem dW_say_35 : decode (mcc mW_say) 35 = .ok (.ireturn, 1) := o172 (byt_of hW_say_b1 (j := 3) rfl)
theorem dW_say_36 : decode (mcc mW_say) 36 = .ok (.aload_n 0, 1) := o42 (byt_of hW_say_b1 (j := 4) rfl)
theorem dW_say_37 : decode (mcc mW_say) 37 = .ok (.getfield 33, 3) := o180 (a := 0) (b := 33) (byt_of hW_say_b1 (j := 5) rfl) (byt_of hW_say_b1 (j := 6) rfl) (byt_of hW_say_b1 (j := 7) rfl) rfl
theorem dW_say_40 : decode (mcc mW_say) 40 = .ok (.getfield 125, 3) := o180 (a := 0) (b := 125) (byt_of hW_say_b1 (j := 8) rfl) (byt_of hW_say_b1 (j := 9) rfl) (byt_of hW_say_b1 (j := 10) rfl) rfl
theorem dW_say_43 : decode (mcc mW_say) 43 = .ok (.istore_n 3, 1) := o62 (byt_of hW_say_b1 (j := 11) rfl)
theorem dW_say_44 : decode (mcc mW_say) 44 = .ok (.aload_n 0, 1) := o42 (byt_of hW_say_b1 (j := 12) rfl)
theorem dW_say_45 : decode (mcc mW_say) 45 = .ok (.getfield 33, 3) := o180 (a := 0) (b := 33) (byt_of hW_say_b1 (j := 13) rfl) (byt_of hW_say_b1 (j := 14) rfl) (byt_of hW_say_b1 (j := 15) rfl) rfl
theorem dW_say_48 : decode (mcc mW_say) 48 = .ok (.iload_n 3, 1) := o29 (byt_of hW_say_b1 (j := 16) rfl)
theorem dW_say_49 : decode (mcc mW_say) 49 = .ok (.iload_n 1, 1) := o27 (byt_of hW_say_b1 (j := 17) rfl)
theorem dW_say_50 : decode (mcc mW_say) 50 = .ok (.iload_n 2, 1) := o28 (byt_of hW_say_b1 (j := 18) rfl)
theorem dW_say_51 : decode (mcc mW_say) 51 = .ok (.invokevirtual 190, 3) := o182 (a := 0) (b := 190) (byt_of hW_say_b1 (j := 19) rfl) (byt_of hW_say_b1 (j := 20) rfl) (byt_of hW_say_b1 (j := 21) rfl) rfl
theorem dW_say_54 : decode (mcc mW_say) 54 = .ok (.aload_n 0, 1) := o42 (byt_of hW_say_b1 (j := 22) rfl)
theorem dW_say_55 : decode (mcc mW_say) 55 = .ok (.getfield 33, 3) := o180 (a := 0) (b := 33) (byt_of hW_say_b1 (j := 23) rfl) (byt_of hW_say_b1 (j := 24) rfl) (byt_of hW_say_b1 (j := 25) rfl) rfl
theorem dW_say_58 : decode (mcc mW_say) 58 = .ok (.iload_n 3, 1) := o29 (byt_of hW_say_b1 (j := 26) rfl)
theorem dW_say_59 : decode (mcc mW_say) 59 = .ok (.iconst 1, 1) := o4 (byt_of hW_say_b1 (j := 27) rfl)
theorem dW_say_60 : decode (mcc mW_say) 60 = .ok (.iadd, 1) := o96 (byt_of hW_say_b1 (j := 28) rfl)
theorem dW_say_61 : decode (mcc mW_say) 61 = .ok (.putfield 125, 3) := o181 (a := 0) (b := 125) (byt_of hW_say_b1 (j := 29) rfl) (byt_of hW_say_b1 (j := 30) rfl) (byt_of hW_say_b1 (j := 31) rfl) rfl
def bW_say_b2 : List Nat := [29, 172]
theorem hW_say_b2 : BL (mcc mW_say) 64 bW_say_b2 := by decide +kernel
theorem dW_say_64 : decode (mcc mW_say) 64 = .ok (.iload_n 3, 1) := o29 (byt_of hW_say_b2 (j := 0) rfl)
theorem dW_say_65 : decode (mcc mW_say) 65 = .ok (.ireturn, 1) := o172 (byt_of hW_say_b2 (j := 1) rfl)
def bW_unsay_b0 : List Nat := [42, 180, 0, 33, 180, 0, 125, 157, 0, 6, 16, 253, 172, 42, 180, 0, 33, 89, 180, 0, 125, 4, 100, 181, 0, 125, 42, 180, 0, 33, 180, 0, 125, 172]
theorem hW_unsay_b0 : BL (mcc mW_unsay) 0 bW_unsay_b0 := by decide +kernel
theorem dW_unsay_0 : decode (mcc mW_unsay) 0 = .ok (.aload_n 0, 1) := o42 (byt_of hW_unsay_b0 (j := 0) rfl)
theorem dW_unsay_1 : decode (mcc mW_unsay) 1 = .ok (.getfield 33, 3) := o180 (a := 0) (b := 33) (byt_of hW_unsay_b0 (j := 1) rfl) (byt_of hW_unsay_b0 (j := 2) rfl) (byt_of hW_unsay_b0 (j := 3) rfl) rfl
theorem dW_unsay_4 : decode (mcc mW_unsay) 4 = .ok (.getfield 125, 3) := o180 (a := 0) (b := 125) (byt_of hW_unsay_b0 (j := 4) rfl) (byt_of hW_unsay_b0 (j := 5) rfl) (byt_of hW_unsay_b0 (j := 6) rfl) rfl
theorem dW_unsay_7 : decode (mcc mW_unsay) 7 = .ok (.ifCond .gt 6, 3) := o157 (a := 0) (b := 6) (byt_of hW_unsay_b0 (j := 7) rfl) (byt_of hW_unsay_b0 (j := 8) rfl) (byt_of hW_unsay_b0 (j := 9) rfl) rfl
theorem dW_unsay_10 : decode (mcc mW_unsay) 10 = .ok (.bipush (-3), 2) := o16 (a := 253) (byt_of hW_unsay_b0 (j := 10) rfl) (byt_of hW_unsay_b0 (j := 11) rfl) rfl
theorem dW_unsay_12 : decode (mcc mW_unsay) 12 = .ok (.ireturn, 1) := o172 (byt_of hW_unsay_b0 (j := 12) rfl)
theorem dW_unsay_13 : decode (mcc mW_unsay) 13 = .ok (.aload_n 0, 1) := o42 (byt_of hW_unsay_b0 (j := 13) rfl)
theorem dW_unsay_14 : decode (mcc mW_unsay) 14 = .ok (.getfield 33, 3) := o180 (a := 0) (b := 33) (byt_of hW_unsay_b0 (j := 14) rfl) (byt_of hW_unsay_b0 (j := 15) rfl) (byt_of hW_unsay_b0 (j := 16) rfl) rfl
theorem dW_unsay_17 : decode (mcc mW_unsay) 17 = .ok (.dup, 1) := o89 (byt_of hW_unsay_b0 (j := 17) rfl)
theorem dW_unsay_18 : decode (mcc mW_unsay) 18 = .ok (.getfield 125, 3) := o180 (a := 0) (b := 125) (byt_of hW_unsay_b0 (j := 18) rfl) (byt_of hW_unsay_b0 (j := 19) rfl) (byt_of hW_unsay_b0 (j := 20) rfl) rfl
theorem dW_unsay_21 : decode (mcc mW_unsay) 21 = .ok (.iconst 1, 1) := o4 (byt_of hW_unsay_b0 (j := 21) rfl)
theorem dW_unsay_22 : decode (mcc mW_unsay) 22 = .ok (.isub, 1) := o100 (byt_of hW_unsay_b0 (j := 22) rfl)
theorem dW_unsay_23 : decode (mcc mW_unsay) 23 = .ok (.putfield 125, 3) := o181 (a := 0) (b := 125) (byt_of hW_unsay_b0 (j := 23) rfl) (byt_of hW_unsay_b0 (j := 24) rfl) (byt_of hW_unsay_b0 (j := 25) rfl) rfl
theorem dW_unsay_26 : decode (mcc mW_unsay) 26 = .ok (.aload_n 0, 1) := o42 (byt_of hW_unsay_b0 (j := 26) rfl)
theorem dW_unsay_27 : decode (mcc mW_unsay) 27 = .ok (.getfield 33, 3) := o180 (a := 0) (b := 33) (byt_of hW_unsay_b0 (j := 27) rfl) (byt_of hW_unsay_b0 (j := 28) rfl) (byt_of hW_unsay_b0 (j := 29) rfl) rfl
theorem dW_unsay_30 : decode (mcc mW_unsay) 30 = .ok (.getfield 125, 3) := o180 (a := 0) (b := 125) (byt_of hW_unsay_b0 (j := 30) rfl) (byt_of hW_unsay_b0 (j := 31) rfl) (byt_of hW_unsay_b0 (j := 32) rfl) rfl
def bW_unsay_b1 : List Nat := [125, 172]
theorem hW_unsay_b1 : BL (mcc mW_unsay) 32 bW_unsay_b1 := by decide +kernel
theorem dW_unsay_33 : decode (mcc mW_unsay) 33 = .ok (.ireturn, 1) := o172 (byt_of hW_unsay_b1 (j := 1) rfl)
def bW_said_b0 : List Nat := [42, 180, 0, 33, 27, 182, 0, 192, 154, 0, 6, 16, 251, 172, 28, 170, 0, 0, 0, 69, 0, 0, 0, 0, 0, 0, 0, 3, 0, 0, 0, 29, 0, 0, 0, 39, 0, 0]
theorem hW_said_b0 : BL (mcc mW_said) 0 bW_said_b0 := by decide +kernel
theorem dW_said_0 : decode (mcc mW_said) 0 = .ok (.aload_n 0, 1) := o42 (byt_of hW_said_b0 (j := 0) rfl)
theorem dW_said_1 : decode (mcc mW_said) 1 = .ok (.getfield 33, 3) := o180 (a := 0) (b := 33) (byt_of hW_said_b0 (j := 1) rfl) (byt_of hW_said_b0 (j := 2) rfl) (byt_of hW_said_b0 (j := 3) rfl) rfl
theorem dW_said_4 : decode (mcc mW_said) 4 = .ok (.iload_n 1, 1) := o27 (byt_of hW_said_b0 (j := 4) rfl)
theorem dW_said_5 : decode (mcc mW_said) 5 = .ok (.invokevirtual 192, 3) := o182 (a := 0) (b := 192) (byt_of hW_said_b0 (j := 5) rfl) (byt_of hW_said_b0 (j := 6) rfl) (byt_of hW_said_b0 (j := 7) rfl) rfl
theorem dW_said_8 : decode (mcc mW_said) 8 = .ok (.ifCond .ne 6, 3) := o154 (a := 0) (b := 6) (byt_of hW_said_b0 (j := 8) rfl) (byt_of hW_said_b0 (j := 9) rfl) (byt_of hW_said_b0 (j := 10) rfl) rfl
theorem dW_said_11 : decode (mcc mW_said) 11 = .ok (.bipush (-5), 2) := o16 (a := 251) (byt_of hW_said_b0 (j := 11) rfl) (byt_of hW_said_b0 (j := 12) rfl) rfl
theorem dW_said_13 : decode (mcc mW_said) 13 = .ok (.ireturn, 1) := o172 (byt_of hW_said_b0 (j := 13) rfl)
theorem dW_said_14 : decode (mcc mW_said) 14 = .ok (.iload_n 2, 1) := o28 (byt_of hW_said_b0 (j := 14) rfl)
theorem dW_said_15 : decode (mcc mW_said) 15 = .ok (.tableswitch 69 0 3 #[29, 39, 49, 59], 29) := by decide +kernel
def bW_said_b1 : List Nat := [0, 0, 0, 39, 0, 0, 0, 49, 0, 0, 0, 59, 42, 180, 0, 33, 180, 0, 193, 27, 46, 172, 42, 180, 0, 33, 180, 0, 196, 27, 46, 172, 42, 180, 0, 33, 180, 0]
theorem hW_said_b1 : BL (mcc mW_said) 32 bW_said_b1 := by decide +kernel
theorem dW_said_44 : decode (mcc mW_said) 44 = .ok (.aload_n 0, 1) := o42 (byt_of hW_said_b1 (j := 12) rfl)
theorem dW_said_45 : decode (mcc mW_said) 45 = .ok (.getfield 33, 3) := o180 (a := 0) (b := 33) (byt_of hW_said_b1 (j := 13) rfl) (byt_of hW_said_b1 (j := 14) rfl) (byt_of hW_said_b1 (j := 15) rfl) rfl
theorem dW_said_48 : decode (mcc mW_said) 48 = .ok (.getfield 193, 3) := o180 (a := 0) (b := 193) (byt_of hW_said_b1 (j := 16) rfl) (byt_of hW_said_b1 (j := 17) rfl) (byt_of hW_said_b1 (j := 18) rfl) rfl
theorem dW_said_51 : decode (mcc mW_said) 51 = .ok (.iload_n 1, 1) := o27 (byt_of hW_said_b1 (j := 19) rfl)
theorem dW_said_52 : decode (mcc mW_said) 52 = .ok (.iaload, 1) := o46 (byt_of hW_said_b1 (j := 20) rfl)
theorem dW_said_53 : decode (mcc mW_said) 53 = .ok (.ireturn, 1) := o172 (byt_of hW_said_b1 (j := 21) rfl)
theorem dW_said_54 : decode (mcc mW_said) 54 = .ok (.aload_n 0, 1) := o42 (byt_of hW_said_b1 (j := 22) rfl)
theorem dW_said_55 : decode (mcc mW_said) 55 = .ok (.getfield 33, 3) := o180 (a := 0) (b := 33) (byt_of hW_said_b1 (j := 23) rfl) (byt_of hW_said_b1 (j := 24) rfl) (byt_of hW_said_b1 (j := 25) rfl) rfl
theorem dW_said_58 : decode (mcc mW_said) 58 = .ok (.getfield 196, 3) := o180 (a := 0) (b := 196) (byt_of hW_said_b1 (j := 26) rfl) (byt_of hW_said_b1 (j := 27) rfl) (byt_of hW_said_b1 (j := 28) rfl) rfl
theorem dW_said_61 : decode (mcc mW_said) 61 = .ok (.iload_n 1, 1) := o27 (byt_of hW_said_b1 (j := 29) rfl)
theorem dW_said_62 : decode (mcc mW_said) 62 = .ok (.iaload, 1) := o46 (byt_of hW_said_b1 (j := 30) rfl)
theorem dW_said_63 : decode (mcc mW_said) 63 = .ok (.ireturn, 1) := o172 (byt_of hW_said_b1 (j := 31) rfl)
def bW_said_b2 : List Nat := [42, 180, 0, 33, 180, 0, 199, 27, 46, 172, 42, 180, 0, 33, 180, 0, 202, 27, 46, 172, 16, 249, 172]
theorem hW_said_b2 : BL (mcc mW_said) 64 bW_said_b2 := by decide +kernel
theorem dW_said_64 : decode (mcc mW_said) 64 = .ok (.aload_n 0, 1) := o42 (byt_of hW_said_b2 (j := 0) rfl)
theorem dW_said_65 : decode (mcc mW_said) 65 = .ok (.getfield 33, 3) := o180 (a := 0) (b := 33) (byt_of hW_said_b2 (j := 1) rfl) (byt_of hW_said_b2 (j := 2) rfl) (byt_of hW_said_b2 (j := 3) rfl) rfl
theorem dW_said_68 : decode (mcc mW_said) 68 = .ok (.getfield 199, 3) := o180 (a := 0) (b := 199) (byt_of hW_said_b2 (j := 4) rfl) (byt_of hW_said_b2 (j := 5) rfl) (byt_of hW_said_b2 (j := 6) rfl) rfl
theorem dW_said_71 : decode (mcc mW_said) 71 = .ok (.iload_n 1, 1) := o27 (byt_of hW_said_b2 (j := 7) rfl)
theorem dW_said_72 : decode (mcc mW_said) 72 = .ok (.iaload, 1) := o46 (byt_of hW_said_b2 (j := 8) rfl)
theorem dW_said_73 : decode (mcc mW_said) 73 = .ok (.ireturn, 1) := o172 (byt_of hW_said_b2 (j := 9) rfl)
theorem dW_said_74 : decode (mcc mW_said) 74 = .ok (.aload_n 0, 1) := o42 (byt_of hW_said_b2 (j := 10) rfl)
theorem dW_said_75 : decode (mcc mW_said) 75 = .ok (.getfield 33, 3) := o180 (a := 0) (b := 33) (byt_of hW_said_b2 (j := 11) rfl) (byt_of hW_said_b2 (j := 12) rfl) (byt_of hW_said_b2 (j := 13) rfl) rfl
theorem dW_said_78 : decode (mcc mW_said) 78 = .ok (.getfield 202, 3) := o180 (a := 0) (b := 202) (byt_of hW_said_b2 (j := 14) rfl) (byt_of hW_said_b2 (j := 15) rfl) (byt_of hW_said_b2 (j := 16) rfl) rfl
theorem dW_said_81 : decode (mcc mW_said) 81 = .ok (.iload_n 1, 1) := o27 (byt_of hW_said_b2 (j := 17) rfl)
theorem dW_said_82 : decode (mcc mW_said) 82 = .ok (.iaload, 1) := o46 (byt_of hW_said_b2 (j := 18) rfl)
theorem dW_said_83 : decode (mcc mW_said) 83 = .ok (.ireturn, 1) := o172 (byt_of hW_said_b2 (j := 19) rfl)
theorem dW_said_84 : decode (mcc mW_said) 84 = .ok (.bipush (-7), 2) := o16 (a := 249) (byt_of hW_said_b2 (j := 20) rfl) (byt_of hW_said_b2 (j := 21) rfl) rfl
theorem dW_said_86 : decode (mcc mW_said) 86 = .ok (.ireturn, 1) := o172 (byt_of hW_said_b2 (j := 22) rfl)
def bW_hears_b0 : List Nat := [42, 180, 0, 33, 27, 182, 0, 192, 153, 0, 14, 42, 180, 0, 19, 28, 182, 0, 143, 154, 0, 6, 16, 251, 172, 42, 180, 0, 56, 42, 180, 0, 47, 180, 0, 127, 182, 0]
theorem hW_hears_b0 : BL (mcc mW_hears) 0 bW_hears_b0 := by decide +kernel
theorem dW_hears_0 : decode (mcc mW_hears) 0 = .ok (.aload_n 0, 1) := o42 (byt_of hW_hears_b0 (j := 0) rfl)
theorem dW_hears_1 : decode (mcc mW_hears) 1 = .ok (.getfield 33, 3) := o180 (a := 0) (b := 33) (byt_of hW_hears_b0 (j := 1) rfl) (byt_of hW_hears_b0 (j := 2) rfl) (byt_of hW_hears_b0 (j := 3) rfl) rfl
theorem dW_hears_4 : decode (mcc mW_hears) 4 = .ok (.iload_n 1, 1) := o27 (byt_of hW_hears_b0 (j := 4) rfl)
theorem dW_hears_5 : decode (mcc mW_hears) 5 = .ok (.invokevirtual 192, 3) := o182 (a := 0) (b := 192) (byt_of hW_hears_b0 (j := 5) rfl) (byt_of hW_hears_b0 (j := 6) rfl) (byt_of hW_hears_b0 (j := 7) rfl) rfl
theorem dW_hears_8 : decode (mcc mW_hears) 8 = .ok (.ifCond .eq 14, 3) := o153 (a := 0) (b := 14) (byt_of hW_hears_b0 (j := 8) rfl) (byt_of hW_hears_b0 (j := 9) rfl) (byt_of hW_hears_b0 (j := 10) rfl) rfl
theorem dW_hears_11 : decode (mcc mW_hears) 11 = .ok (.aload_n 0, 1) := o42 (byt_of hW_hears_b0 (j := 11) rfl)
theorem dW_hears_12 : decode (mcc mW_hears) 12 = .ok (.getfield 19, 3) := o180 (a := 0) (b := 19) (byt_of hW_hears_b0 (j := 12) rfl) (byt_of hW_hears_b0 (j := 13) rfl) (byt_of hW_hears_b0 (j := 14) rfl) rfl
theorem dW_hears_15 : decode (mcc mW_hears) 15 = .ok (.iload_n 2, 1) := o28 (byt_of hW_hears_b0 (j := 15) rfl)
theorem dW_hears_16 : decode (mcc mW_hears) 16 = .ok (.invokevirtual 143, 3) := o182 (a := 0) (b := 143) (byt_of hW_hears_b0 (j := 16) rfl) (byt_of hW_hears_b0 (j := 17) rfl) (byt_of hW_hears_b0 (j := 18) rfl) rfl
theorem dW_hears_19 : decode (mcc mW_hears) 19 = .ok (.ifCond .ne 6, 3) := o154 (a := 0) (b := 6) (byt_of hW_hears_b0 (j := 19) rfl) (byt_of hW_hears_b0 (j := 20) rfl) (byt_of hW_hears_b0 (j := 21) rfl) rfl
theorem dW_hears_22 : decode (mcc mW_hears) 22 = .ok (.bipush (-5), 2) := o16 (a := 251) (byt_of hW_hears_b0 (j := 22) rfl) (byt_of hW_hears_b0 (j := 23) rfl) rfl
theorem dW_hears_24 : decode (mcc mW_hears) 24 = .ok (.ireturn, 1) := o172 (byt_of hW_hears_b0 (j := 24) rfl)
theorem dW_hears_25 : decode (mcc mW_hears) 25 = .ok (.aload_n 0, 1) := o42 (byt_of hW_hears_b0 (j := 25) rfl)
theorem dW_hears_26 : decode (mcc mW_hears) 26 = .ok (.getfield 56, 3) := o180 (a := 0) (b := 56) (byt_of hW_hears_b0 (j := 26) rfl) (byt_of hW_hears_b0 (j := 27) rfl) (byt_of hW_hears_b0 (j := 28) rfl) rfl
theorem dW_hears_29 : decode (mcc mW_hears) 29 = .ok (.aload_n 0, 1) := o42 (byt_of hW_hears_b0 (j := 29) rfl)
theorem dW_hears_30 : decode (mcc mW_hears) 30 = .ok (.getfield 47, 3) := o180 (a := 0) (b := 47) (byt_of hW_hears_b0 (j := 30) rfl) (byt_of hW_hears_b0 (j := 31) rfl) (byt_of hW_hears_b0 (j := 32) rfl) rfl
def bW_hears_b1 : List Nat := [47, 180, 0, 127, 182, 0, 205, 42, 180, 0, 56, 180, 0, 208, 27, 16, 8, 104, 28, 96, 46, 172]
theorem hW_hears_b1 : BL (mcc mW_hears) 32 bW_hears_b1 := by decide +kernel
theorem dW_hears_33 : decode (mcc mW_hears) 33 = .ok (.getfield 127, 3) := o180 (a := 0) (b := 127) (byt_of hW_hears_b1 (j := 1) rfl) (byt_of hW_hears_b1 (j := 2) rfl) (byt_of hW_hears_b1 (j := 3) rfl) rfl
theorem dW_hears_36 : decode (mcc mW_hears) 36 = .ok (.invokevirtual 205, 3) := o182 (a := 0) (b := 205) (byt_of hW_hears_b1 (j := 4) rfl) (byt_of hW_hears_b1 (j := 5) rfl) (byt_of hW_hears_b1 (j := 6) rfl) rfl
theorem dW_hears_39 : decode (mcc mW_hears) 39 = .ok (.aload_n 0, 1) := o42 (byt_of hW_hears_b1 (j := 7) rfl)
theorem dW_hears_40 : decode (mcc mW_hears) 40 = .ok (.getfield 56, 3) := o180 (a := 0) (b := 56) (byt_of hW_hears_b1 (j := 8) rfl) (byt_of hW_hears_b1 (j := 9) rfl) (byt_of hW_hears_b1 (j := 10) rfl) rfl
theorem dW_hears_43 : decode (mcc mW_hears) 43 = .ok (.getfield 208, 3) := o180 (a := 0) (b := 208) (byt_of hW_hears_b1 (j := 11) rfl) (byt_of hW_hears_b1 (j := 12) rfl) (byt_of hW_hears_b1 (j := 13) rfl) rfl
theorem dW_hears_46 : decode (mcc mW_hears) 46 = .ok (.iload_n 1, 1) := o27 (byt_of hW_hears_b1 (j := 14) rfl)
theorem dW_hears_47 : decode (mcc mW_hears) 47 = .ok (.bipush 8, 2) := o16 (a := 8) (byt_of hW_hears_b1 (j := 15) rfl) (byt_of hW_hears_b1 (j := 16) rfl) rfl
theorem dW_hears_49 : decode (mcc mW_hears) 49 = .ok (.imul, 1) := o104 (byt_of hW_hears_b1 (j := 17) rfl)
theorem dW_hears_50 : decode (mcc mW_hears) 50 = .ok (.iload_n 2, 1) := o28 (byt_of hW_hears_b1 (j := 18) rfl)
theorem dW_hears_51 : decode (mcc mW_hears) 51 = .ok (.iadd, 1) := o96 (byt_of hW_hears_b1 (j := 19) rfl)
theorem dW_hears_52 : decode (mcc mW_hears) 52 = .ok (.iaload, 1) := o46 (byt_of hW_hears_b1 (j := 20) rfl)
theorem dW_hears_53 : decode (mcc mW_hears) 53 = .ok (.ireturn, 1) := o172 (byt_of hW_hears_b1 (j := 21) rfl)
def bW_heard_b0 : List Nat := [42, 180, 0, 33, 27, 182, 0, 192, 154, 0, 6, 16, 251, 172, 42, 180, 0, 56, 42, 180, 0, 47, 180, 0, 127, 182, 0, 205, 42, 180, 0, 56, 180, 0, 211, 27, 46, 172]
theorem hW_heard_b0 : BL (mcc mW_heard) 0 bW_heard_b0 := by decide +kernel
theorem dW_heard_0 : decode (mcc mW_heard) 0 = .ok (.aload_n 0, 1) := o42 (byt_of hW_heard_b0 (j := 0) rfl)
theorem dW_heard_1 : decode (mcc mW_heard) 1 = .ok (.getfield 33, 3) := o180 (a := 0) (b := 33) (byt_of hW_heard_b0 (j := 1) rfl) (byt_of hW_heard_b0 (j := 2) rfl) (byt_of hW_heard_b0 (j := 3) rfl) rfl
theorem dW_heard_4 : decode (mcc mW_heard) 4 = .ok (.iload_n 1, 1) := o27 (byt_of hW_heard_b0 (j := 4) rfl)
theorem dW_heard_5 : decode (mcc mW_heard) 5 = .ok (.invokevirtual 192, 3) := o182 (a := 0) (b := 192) (byt_of hW_heard_b0 (j := 5) rfl) (byt_of hW_heard_b0 (j := 6) rfl) (byt_of hW_heard_b0 (j := 7) rfl) rfl
theorem dW_heard_8 : decode (mcc mW_heard) 8 = .ok (.ifCond .ne 6, 3) := o154 (a := 0) (b := 6) (byt_of hW_heard_b0 (j := 8) rfl) (byt_of hW_heard_b0 (j := 9) rfl) (byt_of hW_heard_b0 (j := 10) rfl) rfl
theorem dW_heard_11 : decode (mcc mW_heard) 11 = .ok (.bipush (-5), 2) := o16 (a := 251) (byt_of hW_heard_b0 (j := 11) rfl) (byt_of hW_heard_b0 (j := 12) rfl) rfl
theorem dW_heard_13 : decode (mcc mW_heard) 13 = .ok (.ireturn, 1) := o172 (byt_of hW_heard_b0 (j := 13) rfl)
theorem dW_heard_14 : decode (mcc mW_heard) 14 = .ok (.aload_n 0, 1) := o42 (byt_of hW_heard_b0 (j := 14) rfl)
theorem dW_heard_15 : decode (mcc mW_heard) 15 = .ok (.getfield 56, 3) := o180 (a := 0) (b := 56) (byt_of hW_heard_b0 (j := 15) rfl) (byt_of hW_heard_b0 (j := 16) rfl) (byt_of hW_heard_b0 (j := 17) rfl) rfl
theorem dW_heard_18 : decode (mcc mW_heard) 18 = .ok (.aload_n 0, 1) := o42 (byt_of hW_heard_b0 (j := 18) rfl)
theorem dW_heard_19 : decode (mcc mW_heard) 19 = .ok (.getfield 47, 3) := o180 (a := 0) (b := 47) (byt_of hW_heard_b0 (j := 19) rfl) (byt_of hW_heard_b0 (j := 20) rfl) (byt_of hW_heard_b0 (j := 21) rfl) rfl
theorem dW_heard_22 : decode (mcc mW_heard) 22 = .ok (.getfield 127, 3) := o180 (a := 0) (b := 127) (byt_of hW_heard_b0 (j := 22) rfl) (byt_of hW_heard_b0 (j := 23) rfl) (byt_of hW_heard_b0 (j := 24) rfl) rfl
theorem dW_heard_25 : decode (mcc mW_heard) 25 = .ok (.invokevirtual 205, 3) := o182 (a := 0) (b := 205) (byt_of hW_heard_b0 (j := 25) rfl) (byt_of hW_heard_b0 (j := 26) rfl) (byt_of hW_heard_b0 (j := 27) rfl) rfl
theorem dW_heard_28 : decode (mcc mW_heard) 28 = .ok (.aload_n 0, 1) := o42 (byt_of hW_heard_b0 (j := 28) rfl)
theorem dW_heard_29 : decode (mcc mW_heard) 29 = .ok (.getfield 56, 3) := o180 (a := 0) (b := 56) (byt_of hW_heard_b0 (j := 29) rfl) (byt_of hW_heard_b0 (j := 30) rfl) (byt_of hW_heard_b0 (j := 31) rfl) rfl
def bW_heard_b1 : List Nat := [180, 0, 211, 27, 46, 172]
theorem hW_heard_b1 : BL (mcc mW_heard) 32 bW_heard_b1 := by decide +kernel
theorem dW_heard_32 : decode (mcc mW_heard) 32 = .ok (.getfield 211, 3) := o180 (a := 0) (b := 211) (byt_of hW_heard_b1 (j := 0) rfl) (byt_of hW_heard_b1 (j := 1) rfl) (byt_of hW_heard_b1 (j := 2) rfl) rfl
theorem dW_heard_35 : decode (mcc mW_heard) 35 = .ok (.iload_n 1, 1) := o27 (byt_of hW_heard_b1 (j := 3) rfl)
theorem dW_heard_36 : decode (mcc mW_heard) 36 = .ok (.iaload, 1) := o46 (byt_of hW_heard_b1 (j := 4) rfl)
theorem dW_heard_37 : decode (mcc mW_heard) 37 = .ok (.ireturn, 1) := o172 (byt_of hW_heard_b1 (j := 5) rfl)
def bW_nobody_b0 : List Nat := [42, 180, 0, 56, 42, 180, 0, 47, 180, 0, 127, 182, 0, 205, 3, 60, 3, 61, 28, 42, 180, 0, 33, 180, 0, 125, 162, 0, 27, 42, 180, 0, 56, 180, 0, 211, 28, 46]
theorem hW_nobody_b0 : BL (mcc mW_nobody) 0 bW_nobody_b0 := by decide +kernel
theorem dW_nobody_0 : decode (mcc mW_nobody) 0 = .ok (.aload_n 0, 1) := o42 (byt_of hW_nobody_b0 (j := 0) rfl)
theorem dW_nobody_1 : decode (mcc mW_nobody) 1 = .ok (.getfield 56, 3) := o180 (a := 0) (b := 56) (byt_of hW_nobody_b0 (j := 1) rfl) (byt_of hW_nobody_b0 (j := 2) rfl) (byt_of hW_nobody_b0 (j := 3) rfl) rfl
theorem dW_nobody_4 : decode (mcc mW_nobody) 4 = .ok (.aload_n 0, 1) := o42 (byt_of hW_nobody_b0 (j := 4) rfl)
theorem dW_nobody_5 : decode (mcc mW_nobody) 5 = .ok (.getfield 47, 3) := o180 (a := 0) (b := 47) (byt_of hW_nobody_b0 (j := 5) rfl) (byt_of hW_nobody_b0 (j := 6) rfl) (byt_of hW_nobody_b0 (j := 7) rfl) rfl
theorem dW_nobody_8 : decode (mcc mW_nobody) 8 = .ok (.getfield 127, 3) := o180 (a := 0) (b := 127) (byt_of hW_nobody_b0 (j := 8) rfl) (byt_of hW_nobody_b0 (j := 9) rfl) (byt_of hW_nobody_b0 (j := 10) rfl) rfl
theorem dW_nobody_11 : decode (mcc mW_nobody) 11 = .ok (.invokevirtual 205, 3) := o182 (a := 0) (b := 205) (byt_of hW_nobody_b0 (j := 11) rfl) (byt_of hW_nobody_b0 (j := 12) rfl) (byt_of hW_nobody_b0 (j := 13) rfl) rfl
theorem dW_nobody_14 : decode (mcc mW_nobody) 14 = .ok (.iconst 0, 1) := o3 (byt_of hW_nobody_b0 (j := 14) rfl)
theorem dW_nobody_15 : decode (mcc mW_nobody) 15 = .ok (.istore_n 1, 1) := o60 (byt_of hW_nobody_b0 (j := 15) rfl)
theorem dW_nobody_16 : decode (mcc mW_nobody) 16 = .ok (.iconst 0, 1) := o3 (byt_of hW_nobody_b0 (j := 16) rfl)
theorem dW_nobody_17 : decode (mcc mW_nobody) 17 = .ok (.istore_n 2, 1) := o61 (byt_of hW_nobody_b0 (j := 17) rfl)
theorem dW_nobody_18 : decode (mcc mW_nobody) 18 = .ok (.iload_n 2, 1) := o28 (byt_of hW_nobody_b0 (j := 18) rfl)
theorem dW_nobody_19 : decode (mcc mW_nobody) 19 = .ok (.aload_n 0, 1) := o42 (byt_of hW_nobody_b0 (j := 19) rfl)
theorem dW_nobody_20 : decode (mcc mW_nobody) 20 = .ok (.getfield 33, 3) := o180 (a := 0) (b := 33) (byt_of hW_nobody_b0 (j := 20) rfl) (byt_of hW_nobody_b0 (j := 21) rfl) (byt_of hW_nobody_b0 (j := 22) rfl) rfl
theorem dW_nobody_23 : decode (mcc mW_nobody) 23 = .ok (.getfield 125, 3) := o180 (a := 0) (b := 125) (byt_of hW_nobody_b0 (j := 23) rfl) (byt_of hW_nobody_b0 (j := 24) rfl) (byt_of hW_nobody_b0 (j := 25) rfl) rfl
theorem dW_nobody_26 : decode (mcc mW_nobody) 26 = .ok (.if_icmp .ge 27, 3) := o162 (a := 0) (b := 27) (byt_of hW_nobody_b0 (j := 26) rfl) (byt_of hW_nobody_b0 (j := 27) rfl) (byt_of hW_nobody_b0 (j := 28) rfl) rfl
theorem dW_nobody_29 : decode (mcc mW_nobody) 29 = .ok (.aload_n 0, 1) := o42 (byt_of hW_nobody_b0 (j := 29) rfl)
theorem dW_nobody_30 : decode (mcc mW_nobody) 30 = .ok (.getfield 56, 3) := o180 (a := 0) (b := 56) (byt_of hW_nobody_b0 (j := 30) rfl) (byt_of hW_nobody_b0 (j := 31) rfl) (byt_of hW_nobody_b0 (j := 32) rfl) rfl
def bW_nobody_b1 : List Nat := [56, 180, 0, 211, 28, 46, 154, 0, 9, 27, 4, 28, 120, 128, 60, 132, 2, 1, 167, 255, 224, 27, 172]
theorem hW_nobody_b1 : BL (mcc mW_nobody) 32 bW_nobody_b1 := by decide +kernel
theorem dW_nobody_33 : decode (mcc mW_nobody) 33 = .ok (.getfield 211, 3) := o180 (a := 0) (b := 211) (byt_of hW_nobody_b1 (j := 1) rfl) (byt_of hW_nobody_b1 (j := 2) rfl) (byt_of hW_nobody_b1 (j := 3) rfl) rfl
theorem dW_nobody_36 : decode (mcc mW_nobody) 36 = .ok (.iload_n 2, 1) := o28 (byt_of hW_nobody_b1 (j := 4) rfl)
theorem dW_nobody_37 : decode (mcc mW_nobody) 37 = .ok (.iaload, 1) := o46 (byt_of hW_nobody_b1 (j := 5) rfl)
theorem dW_nobody_38 : decode (mcc mW_nobody) 38 = .ok (.ifCond .ne 9, 3) := o154 (a := 0) (b := 9) (byt_of hW_nobody_b1 (j := 6) rfl) (byt_of hW_nobody_b1 (j := 7) rfl) (byt_of hW_nobody_b1 (j := 8) rfl) rfl
theorem dW_nobody_41 : decode (mcc mW_nobody) 41 = .ok (.iload_n 1, 1) := o27 (byt_of hW_nobody_b1 (j := 9) rfl)
theorem dW_nobody_42 : decode (mcc mW_nobody) 42 = .ok (.iconst 1, 1) := o4 (byt_of hW_nobody_b1 (j := 10) rfl)
theorem dW_nobody_43 : decode (mcc mW_nobody) 43 = .ok (.iload_n 2, 1) := o28 (byt_of hW_nobody_b1 (j := 11) rfl)
theorem dW_nobody_44 : decode (mcc mW_nobody) 44 = .ok (.ishl, 1) := o120 (byt_of hW_nobody_b1 (j := 12) rfl)
theorem dW_nobody_45 : decode (mcc mW_nobody) 45 = .ok (.ior, 1) := o128 (byt_of hW_nobody_b1 (j := 13) rfl)
theorem dW_nobody_46 : decode (mcc mW_nobody) 46 = .ok (.istore_n 1, 1) := o60 (byt_of hW_nobody_b1 (j := 14) rfl)
theorem dW_nobody_47 : decode (mcc mW_nobody) 47 = .ok (.iinc 2 1, 3) := o132 (a := 2) (b := 1) (byt_of hW_nobody_b1 (j := 15) rfl) (byt_of hW_nobody_b1 (j := 16) rfl) (byt_of hW_nobody_b1 (j := 17) rfl) rfl
theorem dW_nobody_50 : decode (mcc mW_nobody) 50 = .ok (.goto (-32), 3) := o167 (a := 255) (b := 224) (byt_of hW_nobody_b1 (j := 18) rfl) (byt_of hW_nobody_b1 (j := 19) rfl) (byt_of hW_nobody_b1 (j := 20) rfl) rfl
theorem dW_nobody_53 : decode (mcc mW_nobody) 53 = .ok (.iload_n 1, 1) := o27 (byt_of hW_nobody_b1 (j := 21) rfl)
theorem dW_nobody_54 : decode (mcc mW_nobody) 54 = .ok (.ireturn, 1) := o172 (byt_of hW_nobody_b1 (j := 22) rfl)
def bW_owe_b0 : List Nat := [42, 180, 0, 19, 27, 182, 0, 143, 153, 0, 14, 42, 180, 0, 26, 28, 182, 0, 174, 154, 0, 6, 16, 251, 172, 42, 180, 0, 56, 42, 180, 0, 47, 180, 0, 127, 182, 0]
theorem hW_owe_b0 : BL (mcc mW_owe) 0 bW_owe_b0 := by decide +kernel
theorem dW_owe_0 : decode (mcc mW_owe) 0 = .ok (.aload_n 0, 1) := o42 (byt_of hW_owe_b0 (j := 0) rfl)
theorem dW_owe_1 : decode (mcc mW_owe) 1 = .ok (.getfield 19, 3) := o180 (a := 0) (b := 19) (byt_of hW_owe_b0 (j := 1) rfl) (byt_of hW_owe_b0 (j := 2) rfl) (byt_of hW_owe_b0 (j := 3) rfl) rfl
theorem dW_owe_4 : decode (mcc mW_owe) 4 = .ok (.iload_n 1, 1) := o27 (byt_of hW_owe_b0 (j := 4) rfl)
theorem dW_owe_5 : decode (mcc mW_owe) 5 = .ok (.invokevirtual 143, 3) := o182 (a := 0) (b := 143) (byt_of hW_owe_b0 (j := 5) rfl) (byt_of hW_owe_b0 (j := 6) rfl) (byt_of hW_owe_b0 (j := 7) rfl) rfl
theorem dW_owe_8 : decode (mcc mW_owe) 8 = .ok (.ifCond .eq 14, 3) := o153 (a := 0) (b := 14) (byt_of hW_owe_b0 (j := 8) rfl) (byt_of hW_owe_b0 (j := 9) rfl) (byt_of hW_owe_b0 (j := 10) rfl) rfl
theorem dW_owe_11 : decode (mcc mW_owe) 11 = .ok (.aload_n 0, 1) := o42 (byt_of hW_owe_b0 (j := 11) rfl)
theorem dW_owe_12 : decode (mcc mW_owe) 12 = .ok (.getfield 26, 3) := o180 (a := 0) (b := 26) (byt_of hW_owe_b0 (j := 12) rfl) (byt_of hW_owe_b0 (j := 13) rfl) (byt_of hW_owe_b0 (j := 14) rfl) rfl
theorem dW_owe_15 : decode (mcc mW_owe) 15 = .ok (.iload_n 2, 1) := o28 (byt_of hW_owe_b0 (j := 15) rfl)
theorem dW_owe_16 : decode (mcc mW_owe) 16 = .ok (.invokevirtual 174, 3) := o182 (a := 0) (b := 174) (byt_of hW_owe_b0 (j := 16) rfl) (byt_of hW_owe_b0 (j := 17) rfl) (byt_of hW_owe_b0 (j := 18) rfl) rfl
theorem dW_owe_19 : decode (mcc mW_owe) 19 = .ok (.ifCond .ne 6, 3) := o154 (a := 0) (b := 6) (byt_of hW_owe_b0 (j := 19) rfl) (byt_of hW_owe_b0 (j := 20) rfl) (byt_of hW_owe_b0 (j := 21) rfl) rfl
theorem dW_owe_22 : decode (mcc mW_owe) 22 = .ok (.bipush (-5), 2) := o16 (a := 251) (byt_of hW_owe_b0 (j := 22) rfl) (byt_of hW_owe_b0 (j := 23) rfl) rfl
theorem dW_owe_24 : decode (mcc mW_owe) 24 = .ok (.ireturn, 1) := o172 (byt_of hW_owe_b0 (j := 24) rfl)
theorem dW_owe_25 : decode (mcc mW_owe) 25 = .ok (.aload_n 0, 1) := o42 (byt_of hW_owe_b0 (j := 25) rfl)
theorem dW_owe_26 : decode (mcc mW_owe) 26 = .ok (.getfield 56, 3) := o180 (a := 0) (b := 56) (byt_of hW_owe_b0 (j := 26) rfl) (byt_of hW_owe_b0 (j := 27) rfl) (byt_of hW_owe_b0 (j := 28) rfl) rfl
theorem dW_owe_29 : decode (mcc mW_owe) 29 = .ok (.aload_n 0, 1) := o42 (byt_of hW_owe_b0 (j := 29) rfl)
theorem dW_owe_30 : decode (mcc mW_owe) 30 = .ok (.getfield 47, 3) := o180 (a := 0) (b := 47) (byt_of hW_owe_b0 (j := 30) rfl) (byt_of hW_owe_b0 (j := 31) rfl) (byt_of hW_owe_b0 (j := 32) rfl) rfl
def bW_owe_b1 : List Nat := [47, 180, 0, 127, 182, 0, 213, 42, 180, 0, 56, 180, 0, 216, 27, 16, 8, 104, 28, 96, 46, 172]
theorem hW_owe_b1 : BL (mcc mW_owe) 32 bW_owe_b1 := by decide +kernel
theorem dW_owe_33 : decode (mcc mW_owe) 33 = .ok (.getfield 127, 3) := o180 (a := 0) (b := 127) (byt_of hW_owe_b1 (j := 1) rfl) (byt_of hW_owe_b1 (j := 2) rfl) (byt_of hW_owe_b1 (j := 3) rfl) rfl
theorem dW_owe_36 : decode (mcc mW_owe) 36 = .ok (.invokevirtual 213, 3) := o182 (a := 0) (b := 213) (byt_of hW_owe_b1 (j := 4) rfl) (byt_of hW_owe_b1 (j := 5) rfl) (byt_of hW_owe_b1 (j := 6) rfl) rfl
theorem dW_owe_39 : decode (mcc mW_owe) 39 = .ok (.aload_n 0, 1) := o42 (byt_of hW_owe_b1 (j := 7) rfl)
theorem dW_owe_40 : decode (mcc mW_owe) 40 = .ok (.getfield 56, 3) := o180 (a := 0) (b := 56) (byt_of hW_owe_b1 (j := 8) rfl) (byt_of hW_owe_b1 (j := 9) rfl) (byt_of hW_owe_b1 (j := 10) rfl) rfl
theorem dW_owe_43 : decode (mcc mW_owe) 43 = .ok (.getfield 216, 3) := o180 (a := 0) (b := 216) (byt_of hW_owe_b1 (j := 11) rfl) (byt_of hW_owe_b1 (j := 12) rfl) (byt_of hW_owe_b1 (j := 13) rfl) rfl
theorem dW_owe_46 : decode (mcc mW_owe) 46 = .ok (.iload_n 1, 1) := o27 (byt_of hW_owe_b1 (j := 14) rfl)
theorem dW_owe_47 : decode (mcc mW_owe) 47 = .ok (.bipush 8, 2) := o16 (a := 8) (byt_of hW_owe_b1 (j := 15) rfl) (byt_of hW_owe_b1 (j := 16) rfl) rfl
theorem dW_owe_49 : decode (mcc mW_owe) 49 = .ok (.imul, 1) := o104 (byt_of hW_owe_b1 (j := 17) rfl)
theorem dW_owe_50 : decode (mcc mW_owe) 50 = .ok (.iload_n 2, 1) := o28 (byt_of hW_owe_b1 (j := 18) rfl)
theorem dW_owe_51 : decode (mcc mW_owe) 51 = .ok (.iadd, 1) := o96 (byt_of hW_owe_b1 (j := 19) rfl)
theorem dW_owe_52 : decode (mcc mW_owe) 52 = .ok (.iaload, 1) := o46 (byt_of hW_owe_b1 (j := 20) rfl)
theorem dW_owe_53 : decode (mcc mW_owe) 53 = .ok (.ireturn, 1) := o172 (byt_of hW_owe_b1 (j := 21) rfl)
def bW_load_b0 : List Nat := [42, 180, 0, 19, 27, 182, 0, 143, 154, 0, 6, 16, 251, 172, 28, 3, 7, 184, 0, 101, 154, 0, 6, 16, 249, 172, 42, 180, 0, 56, 42, 180, 0, 47, 180, 0, 127, 182]
theorem hW_load_b0 : BL (mcc mW_load) 0 bW_load_b0 := by decide +kernel
theorem dW_load_0 : decode (mcc mW_load) 0 = .ok (.aload_n 0, 1) := o42 (byt_of hW_load_b0 (j := 0) rfl)
theorem dW_load_1 : decode (mcc mW_load) 1 = .ok (.getfield 19, 3) := o180 (a := 0) (b := 19) (byt_of hW_load_b0 (j := 1) rfl) (byt_of hW_load_b0 (j := 2) rfl) (byt_of hW_load_b0 (j := 3) rfl) rfl
theorem dW_load_4 : decode (mcc mW_load) 4 = .ok (.iload_n 1, 1) := o27 (byt_of hW_load_b0 (j := 4) rfl)
theorem dW_load_5 : decode (mcc mW_load) 5 = .ok (.invokevirtual 143, 3) := o182 (a := 0) (b := 143) (byt_of hW_load_b0 (j := 5) rfl) (byt_of hW_load_b0 (j := 6) rfl) (byt_of hW_load_b0 (j := 7) rfl) rfl
theorem dW_load_8 : decode (mcc mW_load) 8 = .ok (.ifCond .ne 6, 3) := o154 (a := 0) (b := 6) (byt_of hW_load_b0 (j := 8) rfl) (byt_of hW_load_b0 (j := 9) rfl) (byt_of hW_load_b0 (j := 10) rfl) rfl
theorem dW_load_11 : decode (mcc mW_load) 11 = .ok (.bipush (-5), 2) := o16 (a := 251) (byt_of hW_load_b0 (j := 11) rfl) (byt_of hW_load_b0 (j := 12) rfl) rfl
theorem dW_load_13 : decode (mcc mW_load) 13 = .ok (.ireturn, 1) := o172 (byt_of hW_load_b0 (j := 13) rfl)
theorem dW_load_14 : decode (mcc mW_load) 14 = .ok (.iload_n 2, 1) := o28 (byt_of hW_load_b0 (j := 14) rfl)
theorem dW_load_15 : decode (mcc mW_load) 15 = .ok (.iconst 0, 1) := o3 (byt_of hW_load_b0 (j := 15) rfl)
theorem dW_load_16 : decode (mcc mW_load) 16 = .ok (.iconst 4, 1) := o7 (byt_of hW_load_b0 (j := 16) rfl)
theorem dW_load_17 : decode (mcc mW_load) 17 = .ok (.invokestatic 101, 3) := o184 (a := 0) (b := 101) (byt_of hW_load_b0 (j := 17) rfl) (byt_of hW_load_b0 (j := 18) rfl) (byt_of hW_load_b0 (j := 19) rfl) rfl
theorem dW_load_20 : decode (mcc mW_load) 20 = .ok (.ifCond .ne 6, 3) := o154 (a := 0) (b := 6) (byt_of hW_load_b0 (j := 20) rfl) (byt_of hW_load_b0 (j := 21) rfl) (byt_of hW_load_b0 (j := 22) rfl) rfl
theorem dW_load_23 : decode (mcc mW_load) 23 = .ok (.bipush (-7), 2) := o16 (a := 249) (byt_of hW_load_b0 (j := 23) rfl) (byt_of hW_load_b0 (j := 24) rfl) rfl
theorem dW_load_25 : decode (mcc mW_load) 25 = .ok (.ireturn, 1) := o172 (byt_of hW_load_b0 (j := 25) rfl)
theorem dW_load_26 : decode (mcc mW_load) 26 = .ok (.aload_n 0, 1) := o42 (byt_of hW_load_b0 (j := 26) rfl)
theorem dW_load_27 : decode (mcc mW_load) 27 = .ok (.getfield 56, 3) := o180 (a := 0) (b := 56) (byt_of hW_load_b0 (j := 27) rfl) (byt_of hW_load_b0 (j := 28) rfl) (byt_of hW_load_b0 (j := 29) rfl) rfl
theorem dW_load_30 : decode (mcc mW_load) 30 = .ok (.aload_n 0, 1) := o42 (byt_of hW_load_b0 (j := 30) rfl)
theorem dW_load_31 : decode (mcc mW_load) 31 = .ok (.getfield 47, 3) := o180 (a := 0) (b := 47) (byt_of hW_load_b0 (j := 31) rfl) (byt_of hW_load_b0 (j := 32) rfl) (byt_of hW_load_b0 (j := 33) rfl) rfl
def bW_load_b1 : List Nat := [0, 47, 180, 0, 127, 182, 0, 213, 28, 170, 0, 0, 0, 0, 0, 70, 0, 0, 0, 0, 0, 0, 0, 3, 0, 0, 0, 31, 0, 0, 0, 41, 0, 0, 0, 51, 0, 0]
theorem hW_load_b1 : BL (mcc mW_load) 32 bW_load_b1 := by decide +kernel
theorem dW_load_34 : decode (mcc mW_load) 34 = .ok (.getfield 127, 3) := o180 (a := 0) (b := 127) (byt_of hW_load_b1 (j := 2) rfl) (byt_of hW_load_b1 (j := 3) rfl) (byt_of hW_load_b1 (j := 4) rfl) rfl
theorem dW_load_37 : decode (mcc mW_load) 37 = .ok (.invokevirtual 213, 3) := o182 (a := 0) (b := 213) (byt_of hW_load_b1 (j := 5) rfl) (byt_of hW_load_b1 (j := 6) rfl) (byt_of hW_load_b1 (j := 7) rfl) rfl
theorem dW_load_40 : decode (mcc mW_load) 40 = .ok (.iload_n 2, 1) := o28 (byt_of hW_load_b1 (j := 8) rfl)
theorem dW_load_41 : decode (mcc mW_load) 41 = .ok (.tableswitch 70 0 3 #[31, 41, 51, 61], 31) := by decide +kernel
def bW_load_b2 : List Nat := [0, 0, 0, 51, 0, 0, 0, 61, 42, 180, 0, 56, 180, 0, 219, 27, 46, 172, 42, 180, 0, 56, 180, 0, 222, 27, 46, 172, 42, 180, 0, 56, 180, 0, 225, 27, 46, 172]
theorem hW_load_b2 : BL (mcc mW_load) 64 bW_load_b2 := by decide +kernel
theorem dW_load_72 : decode (mcc mW_load) 72 = .ok (.aload_n 0, 1) := o42 (byt_of hW_load_b2 (j := 8) rfl)
theorem dW_load_73 : decode (mcc mW_load) 73 = .ok (.getfield 56, 3) := o180 (a := 0) (b := 56) (byt_of hW_load_b2 (j := 9) rfl) (byt_of hW_load_b2 (j := 10) rfl) (byt_of hW_load_b2 (j := 11) rfl) rfl
theorem dW_load_76 : decode (mcc mW_load) 76 = .ok (.getfield 219, 3) := o180 (a := 0) (b := 219) (byt_of hW_load_b2 (j := 12) rfl) (byt_of hW_load_b2 (j := 13) rfl) (byt_of hW_load_b2 (j := 14) rfl) rfl
theorem dW_load_79 : decode (mcc mW_load) 79 = .ok (.iload_n 1, 1) := o27 (byt_of hW_load_b2 (j := 15) rfl)
theorem dW_load_80 : decode (mcc mW_load) 80 = .ok (.iaload, 1) := o46 (byt_of hW_load_b2 (j := 16) rfl)
theorem dW_load_81 : decode (mcc mW_load) 81 = .ok (.ireturn, 1) := o172 (byt_of hW_load_b2 (j := 17) rfl)
theorem dW_load_82 : decode (mcc mW_load) 82 = .ok (.aload_n 0, 1) := o42 (byt_of hW_load_b2 (j := 18) rfl)
theorem dW_load_83 : decode (mcc mW_load) 83 = .ok (.getfield 56, 3) := o180 (a := 0) (b := 56) (byt_of hW_load_b2 (j := 19) rfl) (byt_of hW_load_b2 (j := 20) rfl) (byt_of hW_load_b2 (j := 21) rfl) rfl
theorem dW_load_86 : decode (mcc mW_load) 86 = .ok (.getfield 222, 3) := o180 (a := 0) (b := 222) (byt_of hW_load_b2 (j := 22) rfl) (byt_of hW_load_b2 (j := 23) rfl) (byt_of hW_load_b2 (j := 24) rfl) rfl
theorem dW_load_89 : decode (mcc mW_load) 89 = .ok (.iload_n 1, 1) := o27 (byt_of hW_load_b2 (j := 25) rfl)
theorem dW_load_90 : decode (mcc mW_load) 90 = .ok (.iaload, 1) := o46 (byt_of hW_load_b2 (j := 26) rfl)
theorem dW_load_91 : decode (mcc mW_load) 91 = .ok (.ireturn, 1) := o172 (byt_of hW_load_b2 (j := 27) rfl)
theorem dW_load_92 : decode (mcc mW_load) 92 = .ok (.aload_n 0, 1) := o42 (byt_of hW_load_b2 (j := 28) rfl)
theorem dW_load_93 : decode (mcc mW_load) 93 = .ok (.getfield 56, 3) := o180 (a := 0) (b := 56) (byt_of hW_load_b2 (j := 29) rfl) (byt_of hW_load_b2 (j := 30) rfl) (byt_of hW_load_b2 (j := 31) rfl) rfl
def bW_load_b3 : List Nat := [180, 0, 225, 27, 46, 172, 42, 180, 0, 56, 27, 182, 0, 228, 172, 42, 180, 0, 19, 180, 0, 167, 27, 46, 42, 180, 0, 56, 180, 0, 219, 27, 46, 100, 172]
theorem hW_load_b3 : BL (mcc mW_load) 96 bW_load_b3 := by decide +kernel
theorem dW_load_96 : decode (mcc mW_load) 96 = .ok (.getfield 225, 3) := o180 (a := 0) (b := 225) (byt_of hW_load_b3 (j := 0) rfl) (byt_of hW_load_b3 (j := 1) rfl) (byt_of hW_load_b3 (j := 2) rfl) rfl
theorem dW_load_99 : decode (mcc mW_load) 99 = .ok (.iload_n 1, 1) := o27 (byt_of hW_load_b3 (j := 3) rfl)
theorem dW_load_100 : decode (mcc mW_load) 100 = .ok (.iaload, 1) := o46 (byt_of hW_load_b3 (j := 4) rfl)
theorem dW_load_101 : decode (mcc mW_load) 101 = .ok (.ireturn, 1) := o172 (byt_of hW_load_b3 (j := 5) rfl)
theorem dW_load_102 : decode (mcc mW_load) 102 = .ok (.aload_n 0, 1) := o42 (byt_of hW_load_b3 (j := 6) rfl)
theorem dW_load_103 : decode (mcc mW_load) 103 = .ok (.getfield 56, 3) := o180 (a := 0) (b := 56) (byt_of hW_load_b3 (j := 7) rfl) (byt_of hW_load_b3 (j := 8) rfl) (byt_of hW_load_b3 (j := 9) rfl) rfl
theorem dW_load_106 : decode (mcc mW_load) 106 = .ok (.iload_n 1, 1) := o27 (byt_of hW_load_b3 (j := 10) rfl)
theorem dW_load_107 : decode (mcc mW_load) 107 = .ok (.invokevirtual 228, 3) := o182 (a := 0) (b := 228) (byt_of hW_load_b3 (j := 11) rfl) (byt_of hW_load_b3 (j := 12) rfl) (byt_of hW_load_b3 (j := 13) rfl) rfl
theorem dW_load_110 : decode (mcc mW_load) 110 = .ok (.ireturn, 1) := o172 (byt_of hW_load_b3 (j := 14) rfl)
theorem dW_load_111 : decode (mcc mW_load) 111 = .ok (.aload_n 0, 1) := o42 (byt_of hW_load_b3 (j := 15) rfl)
theorem dW_load_112 : decode (mcc mW_load) 112 = .ok (.getfield 19, 3) := o180 (a := 0) (b := 19) (byt_of hW_load_b3 (j := 16) rfl) (byt_of hW_load_b3 (j := 17) rfl) (byt_of hW_load_b3 (j := 18) rfl) rfl
theorem dW_load_115 : decode (mcc mW_load) 115 = .ok (.getfield 167, 3) := o180 (a := 0) (b := 167) (byt_of hW_load_b3 (j := 19) rfl) (byt_of hW_load_b3 (j := 20) rfl) (byt_of hW_load_b3 (j := 21) rfl) rfl
theorem dW_load_118 : decode (mcc mW_load) 118 = .ok (.iload_n 1, 1) := o27 (byt_of hW_load_b3 (j := 22) rfl)
theorem dW_load_119 : decode (mcc mW_load) 119 = .ok (.iaload, 1) := o46 (byt_of hW_load_b3 (j := 23) rfl)
theorem dW_load_120 : decode (mcc mW_load) 120 = .ok (.aload_n 0, 1) := o42 (byt_of hW_load_b3 (j := 24) rfl)
theorem dW_load_121 : decode (mcc mW_load) 121 = .ok (.getfield 56, 3) := o180 (a := 0) (b := 56) (byt_of hW_load_b3 (j := 25) rfl) (byt_of hW_load_b3 (j := 26) rfl) (byt_of hW_load_b3 (j := 27) rfl) rfl
theorem dW_load_124 : decode (mcc mW_load) 124 = .ok (.getfield 219, 3) := o180 (a := 0) (b := 219) (byt_of hW_load_b3 (j := 28) rfl) (byt_of hW_load_b3 (j := 29) rfl) (byt_of hW_load_b3 (j := 30) rfl) rfl
theorem dW_load_127 : decode (mcc mW_load) 127 = .ok (.iload_n 1, 1) := o27 (byt_of hW_load_b3 (j := 31) rfl)
def bW_load_b4 : List Nat := [46, 100, 172]
theorem hW_load_b4 : BL (mcc mW_load) 128 bW_load_b4 := by decide +kernel
theorem dW_load_128 : decode (mcc mW_load) 128 = .ok (.iaload, 1) := o46 (byt_of hW_load_b4 (j := 0) rfl)
theorem dW_load_129 : decode (mcc mW_load) 129 = .ok (.isub, 1) := o100 (byt_of hW_load_b4 (j := 1) rfl)
theorem dW_load_130 : decode (mcc mW_load) 130 = .ok (.ireturn, 1) := o172 (byt_of hW_load_b4 (j := 2) rfl)
def bW_done_b0 : List Nat := [42, 180, 0, 26, 27, 182, 0, 174, 154, 0, 6, 16, 251, 172, 42, 180, 0, 56, 42, 180, 0, 47, 180, 0, 127, 182, 0, 213, 42, 180, 0, 56, 27, 182, 0, 232, 172]
theorem hW_done_b0 : BL (mcc mW_done) 0 bW_done_b0 := by decide +kernel
theorem dW_done_0 : decode (mcc mW_done) 0 = .ok (.aload_n 0, 1) := o42 (byt_of hW_done_b0 (j := 0) rfl)
theorem dW_done_1 : decode (mcc mW_done) 1 = .ok (.getfield 26, 3) := o180 (a := 0) (b := 26) (byt_of hW_done_b0 (j := 1) rfl) (byt_of hW_done_b0 (j := 2) rfl) (byt_of hW_done_b0 (j := 3) rfl) rfl
theorem dW_done_4 : decode (mcc mW_done) 4 = .ok (.iload_n 1, 1) := o27 (byt_of hW_done_b0 (j := 4) rfl)
theorem dW_done_5 : decode (mcc mW_done) 5 = .ok (.invokevirtual 174, 3) := o182 (a := 0) (b := 174) (byt_of hW_done_b0 (j := 5) rfl) (byt_of hW_done_b0 (j := 6) rfl) (byt_of hW_done_b0 (j := 7) rfl) rfl
theorem dW_done_8 : decode (mcc mW_done) 8 = .ok (.ifCond .ne 6, 3) := o154 (a := 0) (b := 6) (byt_of hW_done_b0 (j := 8) rfl) (byt_of hW_done_b0 (j := 9) rfl) (byt_of hW_done_b0 (j := 10) rfl) rfl
theorem dW_done_11 : decode (mcc mW_done) 11 = .ok (.bipush (-5), 2) := o16 (a := 251) (byt_of hW_done_b0 (j := 11) rfl) (byt_of hW_done_b0 (j := 12) rfl) rfl
theorem dW_done_13 : decode (mcc mW_done) 13 = .ok (.ireturn, 1) := o172 (byt_of hW_done_b0 (j := 13) rfl)
theorem dW_done_14 : decode (mcc mW_done) 14 = .ok (.aload_n 0, 1) := o42 (byt_of hW_done_b0 (j := 14) rfl)
theorem dW_done_15 : decode (mcc mW_done) 15 = .ok (.getfield 56, 3) := o180 (a := 0) (b := 56) (byt_of hW_done_b0 (j := 15) rfl) (byt_of hW_done_b0 (j := 16) rfl) (byt_of hW_done_b0 (j := 17) rfl) rfl
theorem dW_done_18 : decode (mcc mW_done) 18 = .ok (.aload_n 0, 1) := o42 (byt_of hW_done_b0 (j := 18) rfl)
theorem dW_done_19 : decode (mcc mW_done) 19 = .ok (.getfield 47, 3) := o180 (a := 0) (b := 47) (byt_of hW_done_b0 (j := 19) rfl) (byt_of hW_done_b0 (j := 20) rfl) (byt_of hW_done_b0 (j := 21) rfl) rfl
theorem dW_done_22 : decode (mcc mW_done) 22 = .ok (.getfield 127, 3) := o180 (a := 0) (b := 127) (byt_of hW_done_b0 (j := 22) rfl) (byt_of hW_done_b0 (j := 23) rfl) (byt_of hW_done_b0 (j := 24) rfl) rfl
theorem dW_done_25 : decode (mcc mW_done) 25 = .ok (.invokevirtual 213, 3) := o182 (a := 0) (b := 213) (byt_of hW_done_b0 (j := 25) rfl) (byt_of hW_done_b0 (j := 26) rfl) (byt_of hW_done_b0 (j := 27) rfl) rfl
theorem dW_done_28 : decode (mcc mW_done) 28 = .ok (.aload_n 0, 1) := o42 (byt_of hW_done_b0 (j := 28) rfl)
theorem dW_done_29 : decode (mcc mW_done) 29 = .ok (.getfield 56, 3) := o180 (a := 0) (b := 56) (byt_of hW_done_b0 (j := 29) rfl) (byt_of hW_done_b0 (j := 30) rfl) (byt_of hW_done_b0 (j := 31) rfl) rfl
def bW_done_b1 : List Nat := [27, 182, 0, 232, 172]
theorem hW_done_b1 : BL (mcc mW_done) 32 bW_done_b1 := by decide +kernel
theorem dW_done_32 : decode (mcc mW_done) 32 = .ok (.iload_n 1, 1) := o27 (byt_of hW_done_b1 (j := 0) rfl)
theorem dW_done_33 : decode (mcc mW_done) 33 = .ok (.invokevirtual 232, 3) := o182 (a := 0) (b := 232) (byt_of hW_done_b1 (j := 1) rfl) (byt_of hW_done_b1 (j := 2) rfl) (byt_of hW_done_b1 (j := 3) rfl) rfl
theorem dW_done_36 : decode (mcc mW_done) 36 = .ok (.ireturn, 1) := o172 (byt_of hW_done_b1 (j := 4) rfl)
def bW_sum_b0 : List Nat := [27, 3, 6, 184, 0, 101, 154, 0, 6, 16, 254, 172, 42, 180, 0, 56, 42, 180, 0, 47, 180, 0, 127, 182, 0, 213, 27, 6, 160, 0, 13, 42, 180, 0, 56, 182, 0, 235]
theorem hW_sum_b0 : BL (mcc mW_sum) 0 bW_sum_b0 := by decide +kernel
theorem dW_sum_0 : decode (mcc mW_sum) 0 = .ok (.iload_n 1, 1) := o27 (byt_of hW_sum_b0 (j := 0) rfl)
theorem dW_sum_1 : decode (mcc mW_sum) 1 = .ok (.iconst 0, 1) := o3 (byt_of hW_sum_b0 (j := 1) rfl)
theorem dW_sum_2 : decode (mcc mW_sum) 2 = .ok (.iconst 3, 1) := o6 (byt_of hW_sum_b0 (j := 2) rfl)
theorem dW_sum_3 : decode (mcc mW_sum) 3 = .ok (.invokestatic 101, 3) := o184 (a := 0) (b := 101) (byt_of hW_sum_b0 (j := 3) rfl) (byt_of hW_sum_b0 (j := 4) rfl) (byt_of hW_sum_b0 (j := 5) rfl) rfl
theorem dW_sum_6 : decode (mcc mW_sum) 6 = .ok (.ifCond .ne 6, 3) := o154 (a := 0) (b := 6) (byt_of hW_sum_b0 (j := 6) rfl) (byt_of hW_sum_b0 (j := 7) rfl) (byt_of hW_sum_b0 (j := 8) rfl) rfl
theorem dW_sum_9 : decode (mcc mW_sum) 9 = .ok (.bipush (-2), 2) := o16 (a := 254) (byt_of hW_sum_b0 (j := 9) rfl) (byt_of hW_sum_b0 (j := 10) rfl) rfl
theorem dW_sum_11 : decode (mcc mW_sum) 11 = .ok (.ireturn, 1) := o172 (byt_of hW_sum_b0 (j := 11) rfl)
theorem dW_sum_12 : decode (mcc mW_sum) 12 = .ok (.aload_n 0, 1) := o42 (byt_of hW_sum_b0 (j := 12) rfl)
theorem dW_sum_13 : decode (mcc mW_sum) 13 = .ok (.getfield 56, 3) := o180 (a := 0) (b := 56) (byt_of hW_sum_b0 (j := 13) rfl) (byt_of hW_sum_b0 (j := 14) rfl) (byt_of hW_sum_b0 (j := 15) rfl) rfl
theorem dW_sum_16 : decode (mcc mW_sum) 16 = .ok (.aload_n 0, 1) := o42 (byt_of hW_sum_b0 (j := 16) rfl)
theorem dW_sum_17 : decode (mcc mW_sum) 17 = .ok (.getfield 47, 3) := o180 (a := 0) (b := 47) (byt_of hW_sum_b0 (j := 17) rfl) (byt_of hW_sum_b0 (j := 18) rfl) (byt_of hW_sum_b0 (j := 19) rfl) rfl
theorem dW_sum_20 : decode (mcc mW_sum) 20 = .ok (.getfield 127, 3) := o180 (a := 0) (b := 127) (byt_of hW_sum_b0 (j := 20) rfl) (byt_of hW_sum_b0 (j := 21) rfl) (byt_of hW_sum_b0 (j := 22) rfl) rfl
theorem dW_sum_23 : decode (mcc mW_sum) 23 = .ok (.invokevirtual 213, 3) := o182 (a := 0) (b := 213) (byt_of hW_sum_b0 (j := 23) rfl) (byt_of hW_sum_b0 (j := 24) rfl) (byt_of hW_sum_b0 (j := 25) rfl) rfl
theorem dW_sum_26 : decode (mcc mW_sum) 26 = .ok (.iload_n 1, 1) := o27 (byt_of hW_sum_b0 (j := 26) rfl)
theorem dW_sum_27 : decode (mcc mW_sum) 27 = .ok (.iconst 3, 1) := o6 (byt_of hW_sum_b0 (j := 27) rfl)
theorem dW_sum_28 : decode (mcc mW_sum) 28 = .ok (.if_icmp .ne 13, 3) := o160 (a := 0) (b := 13) (byt_of hW_sum_b0 (j := 28) rfl) (byt_of hW_sum_b0 (j := 29) rfl) (byt_of hW_sum_b0 (j := 30) rfl) rfl
theorem dW_sum_31 : decode (mcc mW_sum) 31 = .ok (.aload_n 0, 1) := o42 (byt_of hW_sum_b0 (j := 31) rfl)
def bW_sum_b1 : List Nat := [180, 0, 56, 182, 0, 235, 167, 0, 11, 42, 180, 0, 56, 27, 182, 0, 238, 172]
theorem hW_sum_b1 : BL (mcc mW_sum) 32 bW_sum_b1 := by decide +kernel
theorem dW_sum_32 : decode (mcc mW_sum) 32 = .ok (.getfield 56, 3) := o180 (a := 0) (b := 56) (byt_of hW_sum_b1 (j := 0) rfl) (byt_of hW_sum_b1 (j := 1) rfl) (byt_of hW_sum_b1 (j := 2) rfl) rfl
theorem dW_sum_35 : decode (mcc mW_sum) 35 = .ok (.invokevirtual 235, 3) := o182 (a := 0) (b := 235) (byt_of hW_sum_b1 (j := 3) rfl) (byt_of hW_sum_b1 (j := 4) rfl) (byt_of hW_sum_b1 (j := 5) rfl) rfl
theorem dW_sum_38 : decode (mcc mW_sum) 38 = .ok (.goto 11, 3) := o167 (a := 0) (b := 11) (byt_of hW_sum_b1 (j := 6) rfl) (byt_of hW_sum_b1 (j := 7) rfl) (byt_of hW_sum_b1 (j := 8) rfl) rfl
theorem dW_sum_41 : decode (mcc mW_sum) 41 = .ok (.aload_n 0, 1) := o42 (byt_of hW_sum_b1 (j := 9) rfl)
theorem dW_sum_42 : decode (mcc mW_sum) 42 = .ok (.getfield 56, 3) := o180 (a := 0) (b := 56) (byt_of hW_sum_b1 (j := 10) rfl) (byt_of hW_sum_b1 (j := 11) rfl) (byt_of hW_sum_b1 (j := 12) rfl) rfl
theorem dW_sum_45 : decode (mcc mW_sum) 45 = .ok (.iload_n 1, 1) := o27 (byt_of hW_sum_b1 (j := 13) rfl)
theorem dW_sum_46 : decode (mcc mW_sum) 46 = .ok (.invokevirtual 238, 3) := o182 (a := 0) (b := 238) (byt_of hW_sum_b1 (j := 14) rfl) (byt_of hW_sum_b1 (j := 15) rfl) (byt_of hW_sum_b1 (j := 16) rfl) rfl
theorem dW_sum_49 : decode (mcc mW_sum) 49 = .ok (.ireturn, 1) := o172 (byt_of hW_sum_b1 (j := 17) rfl)
def bW_judge_b0 : List Nat := [4, 60, 27, 42, 180, 0, 33, 180, 0, 125, 162, 0, 54, 42, 180, 0, 33, 180, 0, 199, 27, 46, 42, 180, 0, 33, 180, 0, 199, 27, 4, 100, 46, 100, 61, 28, 155, 0]
theorem hW_judge_b0 : BL (mcc mW_judge) 0 bW_judge_b0 := by decide +kernel
theorem dW_judge_0 : decode (mcc mW_judge) 0 = .ok (.iconst 1, 1) := o4 (byt_of hW_judge_b0 (j := 0) rfl)
theorem dW_judge_1 : decode (mcc mW_judge) 1 = .ok (.istore_n 1, 1) := o60 (byt_of hW_judge_b0 (j := 1) rfl)
theorem dW_judge_2 : decode (mcc mW_judge) 2 = .ok (.iload_n 1, 1) := o27 (byt_of hW_judge_b0 (j := 2) rfl)
theorem dW_judge_3 : decode (mcc mW_judge) 3 = .ok (.aload_n 0, 1) := o42 (byt_of hW_judge_b0 (j := 3) rfl)
theorem dW_judge_4 : decode (mcc mW_judge) 4 = .ok (.getfield 33, 3) := o180 (a := 0) (b := 33) (byt_of hW_judge_b0 (j := 4) rfl) (byt_of hW_judge_b0 (j := 5) rfl) (byt_of hW_judge_b0 (j := 6) rfl) rfl
theorem dW_judge_7 : decode (mcc mW_judge) 7 = .ok (.getfield 125, 3) := o180 (a := 0) (b := 125) (byt_of hW_judge_b0 (j := 7) rfl) (byt_of hW_judge_b0 (j := 8) rfl) (byt_of hW_judge_b0 (j := 9) rfl) rfl
theorem dW_judge_10 : decode (mcc mW_judge) 10 = .ok (.if_icmp .ge 54, 3) := o162 (a := 0) (b := 54) (byt_of hW_judge_b0 (j := 10) rfl) (byt_of hW_judge_b0 (j := 11) rfl) (byt_of hW_judge_b0 (j := 12) rfl) rfl
theorem dW_judge_13 : decode (mcc mW_judge) 13 = .ok (.aload_n 0, 1) := o42 (byt_of hW_judge_b0 (j := 13) rfl)
theorem dW_judge_14 : decode (mcc mW_judge) 14 = .ok (.getfield 33, 3) := o180 (a := 0) (b := 33) (byt_of hW_judge_b0 (j := 14) rfl) (byt_of hW_judge_b0 (j := 15) rfl) (byt_of hW_judge_b0 (j := 16) rfl) rfl
theorem dW_judge_17 : decode (mcc mW_judge) 17 = .ok (.getfield 199, 3) := o180 (a := 0) (b := 199) (byt_of hW_judge_b0 (j := 17) rfl) (byt_of hW_judge_b0 (j := 18) rfl) (byt_of hW_judge_b0 (j := 19) rfl) rfl
theorem dW_judge_20 : decode (mcc mW_judge) 20 = .ok (.iload_n 1, 1) := o27 (byt_of hW_judge_b0 (j := 20) rfl)
theorem dW_judge_21 : decode (mcc mW_judge) 21 = .ok (.iaload, 1) := o46 (byt_of hW_judge_b0 (j := 21) rfl)
theorem dW_judge_22 : decode (mcc mW_judge) 22 = .ok (.aload_n 0, 1) := o42 (byt_of hW_judge_b0 (j := 22) rfl)
theorem dW_judge_23 : decode (mcc mW_judge) 23 = .ok (.getfield 33, 3) := o180 (a := 0) (b := 33) (byt_of hW_judge_b0 (j := 23) rfl) (byt_of hW_judge_b0 (j := 24) rfl) (byt_of hW_judge_b0 (j := 25) rfl) rfl
theorem dW_judge_26 : decode (mcc mW_judge) 26 = .ok (.getfield 199, 3) := o180 (a := 0) (b := 199) (byt_of hW_judge_b0 (j := 26) rfl) (byt_of hW_judge_b0 (j := 27) rfl) (byt_of hW_judge_b0 (j := 28) rfl) rfl
theorem dW_judge_29 : decode (mcc mW_judge) 29 = .ok (.iload_n 1, 1) := o27 (byt_of hW_judge_b0 (j := 29) rfl)
theorem dW_judge_30 : decode (mcc mW_judge) 30 = .ok (.iconst 1, 1) := o4 (byt_of hW_judge_b0 (j := 30) rfl)
theorem dW_judge_31 : decode (mcc mW_judge) 31 = .ok (.isub, 1) := o100 (byt_of hW_judge_b0 (j := 31) rfl)
def bW_judge_b1 : List Nat := [46, 100, 61, 28, 155, 0, 20, 42, 27, 182, 0, 241, 42, 180, 0, 12, 180, 0, 117, 28, 104, 164, 0, 5, 27, 172, 132, 1, 1, 167, 255, 197, 2, 172]
theorem hW_judge_b1 : BL (mcc mW_judge) 32 bW_judge_b1 := by decide +kernel
theorem dW_judge_32 : decode (mcc mW_judge) 32 = .ok (.iaload, 1) := o46 (byt_of hW_judge_b1 (j := 0) rfl)
theorem dW_judge_33 : decode (mcc mW_judge) 33 = .ok (.isub, 1) := o100 (byt_of hW_judge_b1 (j := 1) rfl)
theorem dW_judge_34 : decode (mcc mW_judge) 34 = .ok (.istore_n 2, 1) := o61 (byt_of hW_judge_b1 (j := 2) rfl)
theorem dW_judge_35 : decode (mcc mW_judge) 35 = .ok (.iload_n 2, 1) := o28 (byt_of hW_judge_b1 (j := 3) rfl)
theorem dW_judge_36 : decode (mcc mW_judge) 36 = .ok (.ifCond .lt 20, 3) := o155 (a := 0) (b := 20) (byt_of hW_judge_b1 (j := 4) rfl) (byt_of hW_judge_b1 (j := 5) rfl) (byt_of hW_judge_b1 (j := 6) rfl) rfl
theorem dW_judge_39 : decode (mcc mW_judge) 39 = .ok (.aload_n 0, 1) := o42 (byt_of hW_judge_b1 (j := 7) rfl)
theorem dW_judge_40 : decode (mcc mW_judge) 40 = .ok (.iload_n 1, 1) := o27 (byt_of hW_judge_b1 (j := 8) rfl)
theorem dW_judge_41 : decode (mcc mW_judge) 41 = .ok (.invokevirtual 241, 3) := o182 (a := 0) (b := 241) (byt_of hW_judge_b1 (j := 9) rfl) (byt_of hW_judge_b1 (j := 10) rfl) (byt_of hW_judge_b1 (j := 11) rfl) rfl
theorem dW_judge_44 : decode (mcc mW_judge) 44 = .ok (.aload_n 0, 1) := o42 (byt_of hW_judge_b1 (j := 12) rfl)
theorem dW_judge_45 : decode (mcc mW_judge) 45 = .ok (.getfield 12, 3) := o180 (a := 0) (b := 12) (byt_of hW_judge_b1 (j := 13) rfl) (byt_of hW_judge_b1 (j := 14) rfl) (byt_of hW_judge_b1 (j := 15) rfl) rfl
theorem dW_judge_48 : decode (mcc mW_judge) 48 = .ok (.getfield 117, 3) := o180 (a := 0) (b := 117) (byt_of hW_judge_b1 (j := 16) rfl) (byt_of hW_judge_b1 (j := 17) rfl) (byt_of hW_judge_b1 (j := 18) rfl) rfl
theorem dW_judge_51 : decode (mcc mW_judge) 51 = .ok (.iload_n 2, 1) := o28 (byt_of hW_judge_b1 (j := 19) rfl)
theorem dW_judge_52 : decode (mcc mW_judge) 52 = .ok (.imul, 1) := o104 (byt_of hW_judge_b1 (j := 20) rfl)
theorem dW_judge_53 : decode (mcc mW_judge) 53 = .ok (.if_icmp .le 5, 3) := o164 (a := 0) (b := 5) (byt_of hW_judge_b1 (j := 21) rfl) (byt_of hW_judge_b1 (j := 22) rfl) (byt_of hW_judge_b1 (j := 23) rfl) rfl
theorem dW_judge_56 : decode (mcc mW_judge) 56 = .ok (.iload_n 1, 1) := o27 (byt_of hW_judge_b1 (j := 24) rfl)
theorem dW_judge_57 : decode (mcc mW_judge) 57 = .ok (.ireturn, 1) := o172 (byt_of hW_judge_b1 (j := 25) rfl)
theorem dW_judge_58 : decode (mcc mW_judge) 58 = .ok (.iinc 1 1, 3) := o132 (a := 1) (b := 1) (byt_of hW_judge_b1 (j := 26) rfl) (byt_of hW_judge_b1 (j := 27) rfl) (byt_of hW_judge_b1 (j := 28) rfl) rfl
theorem dW_judge_61 : decode (mcc mW_judge) 61 = .ok (.goto (-59), 3) := o167 (a := 255) (b := 197) (byt_of hW_judge_b1 (j := 29) rfl) (byt_of hW_judge_b1 (j := 30) rfl) (byt_of hW_judge_b1 (j := 31) rfl) rfl
def bW_judge_b2 : List Nat := [2, 172]
theorem hW_judge_b2 : BL (mcc mW_judge) 64 bW_judge_b2 := by decide +kernel
theorem dW_judge_64 : decode (mcc mW_judge) 64 = .ok (.iconst (-1), 1) := o2 (byt_of hW_judge_b2 (j := 0) rfl)
theorem dW_judge_65 : decode (mcc mW_judge) 65 = .ok (.ireturn, 1) := o172 (byt_of hW_judge_b2 (j := 1) rfl)
def bW_walk_b0 : List Nat := [3, 60, 4, 61, 28, 42, 180, 0, 33, 180, 0, 125, 162, 0, 17, 27, 42, 28, 182, 0, 241, 96, 60, 132, 2, 1, 167, 255, 234, 27, 172]
theorem hW_walk_b0 : BL (mcc mW_walk) 0 bW_walk_b0 := by decide +kernel
theorem dW_walk_0 : decode (mcc mW_walk) 0 = .ok (.iconst 0, 1) := o3 (byt_of hW_walk_b0 (j := 0) rfl)
theorem dW_walk_1 : decode (mcc mW_walk) 1 = .ok (.istore_n 1, 1) := o60 (byt_of hW_walk_b0 (j := 1) rfl)
theorem dW_walk_2 : decode (mcc mW_walk) 2 = .ok (.iconst 1, 1) := o4 (byt_of hW_walk_b0 (j := 2) rfl)
theorem dW_walk_3 : decode (mcc mW_walk) 3 = .ok (.istore_n 2, 1) := o61 (byt_of hW_walk_b0 (j := 3) rfl)
theorem dW_walk_4 : decode (mcc mW_walk) 4 = .ok (.iload_n 2, 1) := o28 (byt_of hW_walk_b0 (j := 4) rfl)
theorem dW_walk_5 : decode (mcc mW_walk) 5 = .ok (.aload_n 0, 1) := o42 (byt_of hW_walk_b0 (j := 5) rfl)
theorem dW_walk_6 : decode (mcc mW_walk) 6 = .ok (.getfield 33, 3) := o180 (a := 0) (b := 33) (byt_of hW_walk_b0 (j := 6) rfl) (byt_of hW_walk_b0 (j := 7) rfl) (byt_of hW_walk_b0 (j := 8) rfl) rfl
theorem dW_walk_9 : decode (mcc mW_walk) 9 = .ok (.getfield 125, 3) := o180 (a := 0) (b := 125) (byt_of hW_walk_b0 (j := 9) rfl) (byt_of hW_walk_b0 (j := 10) rfl) (byt_of hW_walk_b0 (j := 11) rfl) rfl
theorem dW_walk_12 : decode (mcc mW_walk) 12 = .ok (.if_icmp .ge 17, 3) := o162 (a := 0) (b := 17) (byt_of hW_walk_b0 (j := 12) rfl) (byt_of hW_walk_b0 (j := 13) rfl) (byt_of hW_walk_b0 (j := 14) rfl) rfl
theorem dW_walk_15 : decode (mcc mW_walk) 15 = .ok (.iload_n 1, 1) := o27 (byt_of hW_walk_b0 (j := 15) rfl)
theorem dW_walk_16 : decode (mcc mW_walk) 16 = .ok (.aload_n 0, 1) := o42 (byt_of hW_walk_b0 (j := 16) rfl)
theorem dW_walk_17 : decode (mcc mW_walk) 17 = .ok (.iload_n 2, 1) := o28 (byt_of hW_walk_b0 (j := 17) rfl)
theorem dW_walk_18 : decode (mcc mW_walk) 18 = .ok (.invokevirtual 241, 3) := o182 (a := 0) (b := 241) (byt_of hW_walk_b0 (j := 18) rfl) (byt_of hW_walk_b0 (j := 19) rfl) (byt_of hW_walk_b0 (j := 20) rfl) rfl
theorem dW_walk_21 : decode (mcc mW_walk) 21 = .ok (.iadd, 1) := o96 (byt_of hW_walk_b0 (j := 21) rfl)
theorem dW_walk_22 : decode (mcc mW_walk) 22 = .ok (.istore_n 1, 1) := o60 (byt_of hW_walk_b0 (j := 22) rfl)
theorem dW_walk_23 : decode (mcc mW_walk) 23 = .ok (.iinc 2 1, 3) := o132 (a := 2) (b := 1) (byt_of hW_walk_b0 (j := 23) rfl) (byt_of hW_walk_b0 (j := 24) rfl) (byt_of hW_walk_b0 (j := 25) rfl) rfl
theorem dW_walk_26 : decode (mcc mW_walk) 26 = .ok (.goto (-22), 3) := o167 (a := 255) (b := 234) (byt_of hW_walk_b0 (j := 26) rfl) (byt_of hW_walk_b0 (j := 27) rfl) (byt_of hW_walk_b0 (j := 28) rfl) rfl
theorem dW_walk_29 : decode (mcc mW_walk) 29 = .ok (.iload_n 1, 1) := o27 (byt_of hW_walk_b0 (j := 29) rfl)
theorem dW_walk_30 : decode (mcc mW_walk) 30 = .ok (.ireturn, 1) := o172 (byt_of hW_walk_b0 (j := 30) rfl)
def bW_best_b0 : List Nat := [42, 180, 0, 26, 27, 182, 0, 174, 154, 0, 6, 16, 251, 172, 28, 3, 4, 184, 0, 101, 154, 0, 6, 16, 249, 172, 42, 180, 0, 56, 42, 180, 0, 47, 180, 0, 127, 182]
theorem hW_best_b0 : BL (mcc mW_best) 0 bW_best_b0 := by decide +kernel
theorem dW_best_0 : decode (mcc mW_best) 0 = .ok (.aload_n 0, 1) := o42 (byt_of hW_best_b0 (j := 0) rfl)
theorem dW_best_1 : decode (mcc mW_best) 1 = .ok (.getfield 26, 3) := o180 (a := 0) (b := 26) (byt_of hW_best_b0 (j := 1) rfl) (byt_of hW_best_b0 (j := 2) rfl) (byt_of hW_best_b0 (j := 3) rfl) rfl
theorem dW_best_4 : decode (mcc mW_best) 4 = .ok (.iload_n 1, 1) := o27 (byt_of hW_best_b0 (j := 4) rfl)
theorem dW_best_5 : decode (mcc mW_best) 5 = .ok (.invokevirtual 174, 3) := o182 (a := 0) (b := 174) (byt_of hW_best_b0 (j := 5) rfl) (byt_of hW_best_b0 (j := 6) rfl) (byt_of hW_best_b0 (j := 7) rfl) rfl
theorem dW_best_8 : decode (mcc mW_best) 8 = .ok (.ifCond .ne 6, 3) := o154 (a := 0) (b := 6) (byt_of hW_best_b0 (j := 8) rfl) (byt_of hW_best_b0 (j := 9) rfl) (byt_of hW_best_b0 (j := 10) rfl) rfl
theorem dW_best_11 : decode (mcc mW_best) 11 = .ok (.bipush (-5), 2) := o16 (a := 251) (byt_of hW_best_b0 (j := 11) rfl) (byt_of hW_best_b0 (j := 12) rfl) rfl
theorem dW_best_13 : decode (mcc mW_best) 13 = .ok (.ireturn, 1) := o172 (byt_of hW_best_b0 (j := 13) rfl)
theorem dW_best_14 : decode (mcc mW_best) 14 = .ok (.iload_n 2, 1) := o28 (byt_of hW_best_b0 (j := 14) rfl)
theorem dW_best_15 : decode (mcc mW_best) 15 = .ok (.iconst 0, 1) := o3 (byt_of hW_best_b0 (j := 15) rfl)
theorem dW_best_16 : decode (mcc mW_best) 16 = .ok (.iconst 1, 1) := o4 (byt_of hW_best_b0 (j := 16) rfl)
theorem dW_best_17 : decode (mcc mW_best) 17 = .ok (.invokestatic 101, 3) := o184 (a := 0) (b := 101) (byt_of hW_best_b0 (j := 17) rfl) (byt_of hW_best_b0 (j := 18) rfl) (byt_of hW_best_b0 (j := 19) rfl) rfl
theorem dW_best_20 : decode (mcc mW_best) 20 = .ok (.ifCond .ne 6, 3) := o154 (a := 0) (b := 6) (byt_of hW_best_b0 (j := 20) rfl) (byt_of hW_best_b0 (j := 21) rfl) (byt_of hW_best_b0 (j := 22) rfl) rfl
theorem dW_best_23 : decode (mcc mW_best) 23 = .ok (.bipush (-7), 2) := o16 (a := 249) (byt_of hW_best_b0 (j := 23) rfl) (byt_of hW_best_b0 (j := 24) rfl) rfl
theorem dW_best_25 : decode (mcc mW_best) 25 = .ok (.ireturn, 1) := o172 (byt_of hW_best_b0 (j := 25) rfl)
theorem dW_best_26 : decode (mcc mW_best) 26 = .ok (.aload_n 0, 1) := o42 (byt_of hW_best_b0 (j := 26) rfl)
theorem dW_best_27 : decode (mcc mW_best) 27 = .ok (.getfield 56, 3) := o180 (a := 0) (b := 56) (byt_of hW_best_b0 (j := 27) rfl) (byt_of hW_best_b0 (j := 28) rfl) (byt_of hW_best_b0 (j := 29) rfl) rfl
theorem dW_best_30 : decode (mcc mW_best) 30 = .ok (.aload_n 0, 1) := o42 (byt_of hW_best_b0 (j := 30) rfl)
theorem dW_best_31 : decode (mcc mW_best) 31 = .ok (.getfield 47, 3) := o180 (a := 0) (b := 47) (byt_of hW_best_b0 (j := 31) rfl) (byt_of hW_best_b0 (j := 32) rfl) (byt_of hW_best_b0 (j := 33) rfl) rfl
def bW_best_b1 : List Nat := [0, 47, 180, 0, 127, 182, 0, 213, 2, 62, 2, 54, 4, 3, 54, 5, 21, 5, 17, 2, 88, 162, 0, 72, 21, 5, 184, 0, 187, 154, 0, 6, 167, 0, 55, 42, 180, 0]
theorem hW_best_b1 : BL (mcc mW_best) 32 bW_best_b1 := by decide +kernel
theorem dW_best_34 : decode (mcc mW_best) 34 = .ok (.getfield 127, 3) := o180 (a := 0) (b := 127) (byt_of hW_best_b1 (j := 2) rfl) (byt_of hW_best_b1 (j := 3) rfl) (byt_of hW_best_b1 (j := 4) rfl) rfl
theorem dW_best_37 : decode (mcc mW_best) 37 = .ok (.invokevirtual 213, 3) := o182 (a := 0) (b := 213) (byt_of hW_best_b1 (j := 5) rfl) (byt_of hW_best_b1 (j := 6) rfl) (byt_of hW_best_b1 (j := 7) rfl) rfl
theorem dW_best_40 : decode (mcc mW_best) 40 = .ok (.iconst (-1), 1) := o2 (byt_of hW_best_b1 (j := 8) rfl)
theorem dW_best_41 : decode (mcc mW_best) 41 = .ok (.istore_n 3, 1) := o62 (byt_of hW_best_b1 (j := 9) rfl)
theorem dW_best_42 : decode (mcc mW_best) 42 = .ok (.iconst (-1), 1) := o2 (byt_of hW_best_b1 (j := 10) rfl)
theorem dW_best_43 : decode (mcc mW_best) 43 = .ok (.istore 4, 2) := o54 (a := 4) (byt_of hW_best_b1 (j := 11) rfl) (byt_of hW_best_b1 (j := 12) rfl)
theorem dW_best_45 : decode (mcc mW_best) 45 = .ok (.iconst 0, 1) := o3 (byt_of hW_best_b1 (j := 13) rfl)
theorem dW_best_46 : decode (mcc mW_best) 46 = .ok (.istore 5, 2) := o54 (a := 5) (byt_of hW_best_b1 (j := 14) rfl) (byt_of hW_best_b1 (j := 15) rfl)
theorem dW_best_48 : decode (mcc mW_best) 48 = .ok (.iload 5, 2) := o21 (a := 5) (byt_of hW_best_b1 (j := 16) rfl) (byt_of hW_best_b1 (j := 17) rfl)
theorem dW_best_50 : decode (mcc mW_best) 50 = .ok (.sipush 600, 3) := o17 (a := 2) (b := 88) (byt_of hW_best_b1 (j := 18) rfl) (byt_of hW_best_b1 (j := 19) rfl) (byt_of hW_best_b1 (j := 20) rfl) rfl
theorem dW_best_53 : decode (mcc mW_best) 53 = .ok (.if_icmp .ge 72, 3) := o162 (a := 0) (b := 72) (byt_of hW_best_b1 (j := 21) rfl) (byt_of hW_best_b1 (j := 22) rfl) (byt_of hW_best_b1 (j := 23) rfl) rfl
theorem dW_best_56 : decode (mcc mW_best) 56 = .ok (.iload 5, 2) := o21 (a := 5) (byt_of hW_best_b1 (j := 24) rfl) (byt_of hW_best_b1 (j := 25) rfl)
theorem dW_best_58 : decode (mcc mW_best) 58 = .ok (.invokestatic 187, 3) := o184 (a := 0) (b := 187) (byt_of hW_best_b1 (j := 26) rfl) (byt_of hW_best_b1 (j := 27) rfl) (byt_of hW_best_b1 (j := 28) rfl) rfl
theorem dW_best_61 : decode (mcc mW_best) 61 = .ok (.ifCond .ne 6, 3) := o154 (a := 0) (b := 6) (byt_of hW_best_b1 (j := 29) rfl) (byt_of hW_best_b1 (j := 30) rfl) (byt_of hW_best_b1 (j := 31) rfl) rfl
def bW_best_b2 : List Nat := [167, 0, 55, 42, 180, 0, 56, 27, 21, 5, 182, 0, 244, 42, 180, 0, 56, 27, 182, 0, 248, 154, 0, 6, 167, 0, 31, 42, 180, 0, 56, 182, 0, 251, 54, 6, 21, 4]
theorem hW_best_b2 : BL (mcc mW_best) 64 bW_best_b2 := by decide +kernel
theorem dW_best_64 : decode (mcc mW_best) 64 = .ok (.goto 55, 3) := o167 (a := 0) (b := 55) (byt_of hW_best_b2 (j := 0) rfl) (byt_of hW_best_b2 (j := 1) rfl) (byt_of hW_best_b2 (j := 2) rfl) rfl
theorem dW_best_67 : decode (mcc mW_best) 67 = .ok (.aload_n 0, 1) := o42 (byt_of hW_best_b2 (j := 3) rfl)
theorem dW_best_68 : decode (mcc mW_best) 68 = .ok (.getfield 56, 3) := o180 (a := 0) (b := 56) (byt_of hW_best_b2 (j := 4) rfl) (byt_of hW_best_b2 (j := 5) rfl) (byt_of hW_best_b2 (j := 6) rfl) rfl
theorem dW_best_71 : decode (mcc mW_best) 71 = .ok (.iload_n 1, 1) := o27 (byt_of hW_best_b2 (j := 7) rfl)
theorem dW_best_72 : decode (mcc mW_best) 72 = .ok (.iload 5, 2) := o21 (a := 5) (byt_of hW_best_b2 (j := 8) rfl) (byt_of hW_best_b2 (j := 9) rfl)
theorem dW_best_74 : decode (mcc mW_best) 74 = .ok (.invokevirtual 244, 3) := o182 (a := 0) (b := 244) (byt_of hW_best_b2 (j := 10) rfl) (byt_of hW_best_b2 (j := 11) rfl) (byt_of hW_best_b2 (j := 12) rfl) rfl
theorem dW_best_77 : decode (mcc mW_best) 77 = .ok (.aload_n 0, 1) := o42 (byt_of hW_best_b2 (j := 13) rfl)
theorem dW_best_78 : decode (mcc mW_best) 78 = .ok (.getfield 56, 3) := o180 (a := 0) (b := 56) (byt_of hW_best_b2 (j := 14) rfl) (byt_of hW_best_b2 (j := 15) rfl) (byt_of hW_best_b2 (j := 16) rfl) rfl
theorem dW_best_81 : decode (mcc mW_best) 81 = .ok (.iload_n 1, 1) := o27 (byt_of hW_best_b2 (j := 17) rfl)
theorem dW_best_82 : decode (mcc mW_best) 82 = .ok (.invokevirtual 248, 3) := o182 (a := 0) (b := 248) (byt_of hW_best_b2 (j := 18) rfl) (byt_of hW_best_b2 (j := 19) rfl) (byt_of hW_best_b2 (j := 20) rfl) rfl
theorem dW_best_85 : decode (mcc mW_best) 85 = .ok (.ifCond .ne 6, 3) := o154 (a := 0) (b := 6) (byt_of hW_best_b2 (j := 21) rfl) (byt_of hW_best_b2 (j := 22) rfl) (byt_of hW_best_b2 (j := 23) rfl) rfl
theorem dW_best_88 : decode (mcc mW_best) 88 = .ok (.goto 31, 3) := o167 (a := 0) (b := 31) (byt_of hW_best_b2 (j := 24) rfl) (byt_of hW_best_b2 (j := 25) rfl) (byt_of hW_best_b2 (j := 26) rfl) rfl
theorem dW_best_91 : decode (mcc mW_best) 91 = .ok (.aload_n 0, 1) := o42 (byt_of hW_best_b2 (j := 27) rfl)
theorem dW_best_92 : decode (mcc mW_best) 92 = .ok (.getfield 56, 3) := o180 (a := 0) (b := 56) (byt_of hW_best_b2 (j := 28) rfl) (byt_of hW_best_b2 (j := 29) rfl) (byt_of hW_best_b2 (j := 30) rfl) rfl
theorem dW_best_95 : decode (mcc mW_best) 95 = .ok (.invokevirtual 251, 3) := o182 (a := 0) (b := 251) (byt_of hW_best_b2 (j := 31) rfl) (byt_of hW_best_b2 (j := 32) rfl) (byt_of hW_best_b2 (j := 33) rfl) rfl
def bW_best_b3 : List Nat := [0, 251, 54, 6, 21, 4, 2, 159, 0, 9, 21, 6, 29, 162, 0, 10, 21, 5, 54, 4, 21, 6, 62, 132, 5, 1, 167, 255, 182, 28, 154, 0, 8, 21, 4, 167, 0, 4]
theorem hW_best_b3 : BL (mcc mW_best) 96 bW_best_b3 := by decide +kernel
theorem dW_best_98 : decode (mcc mW_best) 98 = .ok (.istore 6, 2) := o54 (a := 6) (byt_of hW_best_b3 (j := 2) rfl) (byt_of hW_best_b3 (j := 3) rfl)
theorem dW_best_100 : decode (mcc mW_best) 100 = .ok (.iload 4, 2) := o21 (a := 4) (byt_of hW_best_b3 (j := 4) rfl) (byt_of hW_best_b3 (j := 5) rfl)
theorem dW_best_102 : decode (mcc mW_best) 102 = .ok (.iconst (-1), 1) := o2 (byt_of hW_best_b3 (j := 6) rfl)
theorem dW_best_103 : decode (mcc mW_best) 103 = .ok (.if_icmp .eq 9, 3) := o159 (a := 0) (b := 9) (byt_of hW_best_b3 (j := 7) rfl) (byt_of hW_best_b3 (j := 8) rfl) (byt_of hW_best_b3 (j := 9) rfl) rfl
theorem dW_best_106 : decode (mcc mW_best) 106 = .ok (.iload 6, 2) := o21 (a := 6) (byt_of hW_best_b3 (j := 10) rfl) (byt_of hW_best_b3 (j := 11) rfl)
theorem dW_best_108 : decode (mcc mW_best) 108 = .ok (.iload_n 3, 1) := o29 (byt_of hW_best_b3 (j := 12) rfl)
theorem dW_best_109 : decode (mcc mW_best) 109 = .ok (.if_icmp .ge 10, 3) := o162 (a := 0) (b := 10) (byt_of hW_best_b3 (j := 13) rfl) (byt_of hW_best_b3 (j := 14) rfl) (byt_of hW_best_b3 (j := 15) rfl) rfl
theorem dW_best_112 : decode (mcc mW_best) 112 = .ok (.iload 5, 2) := o21 (a := 5) (byt_of hW_best_b3 (j := 16) rfl) (byt_of hW_best_b3 (j := 17) rfl)
theorem dW_best_114 : decode (mcc mW_best) 114 = .ok (.istore 4, 2) := o54 (a := 4) (byt_of hW_best_b3 (j := 18) rfl) (byt_of hW_best_b3 (j := 19) rfl)
theorem dW_best_116 : decode (mcc mW_best) 116 = .ok (.iload 6, 2) := o21 (a := 6) (byt_of hW_best_b3 (j := 20) rfl) (byt_of hW_best_b3 (j := 21) rfl)
theorem dW_best_118 : decode (mcc mW_best) 118 = .ok (.istore_n 3, 1) := o62 (byt_of hW_best_b3 (j := 22) rfl)
theorem dW_best_119 : decode (mcc mW_best) 119 = .ok (.iinc 5 1, 3) := o132 (a := 5) (b := 1) (byt_of hW_best_b3 (j := 23) rfl) (byt_of hW_best_b3 (j := 24) rfl) (byt_of hW_best_b3 (j := 25) rfl) rfl
theorem dW_best_122 : decode (mcc mW_best) 122 = .ok (.goto (-74), 3) := o167 (a := 255) (b := 182) (byt_of hW_best_b3 (j := 26) rfl) (byt_of hW_best_b3 (j := 27) rfl) (byt_of hW_best_b3 (j := 28) rfl) rfl
theorem dW_best_125 : decode (mcc mW_best) 125 = .ok (.iload_n 2, 1) := o28 (byt_of hW_best_b3 (j := 29) rfl)
theorem dW_best_126 : decode (mcc mW_best) 126 = .ok (.ifCond .ne 8, 3) := o154 (a := 0) (b := 8) (byt_of hW_best_b3 (j := 30) rfl) (byt_of hW_best_b3 (j := 31) rfl) (byt_of hW_best_b3 (j := 32) rfl) rfl
def bW_best_b4 : List Nat := [8, 21, 4, 167, 0, 4, 29, 172]
theorem hW_best_b4 : BL (mcc mW_best) 128 bW_best_b4 := by decide +kernel
theorem dW_best_129 : decode (mcc mW_best) 129 = .ok (.iload 4, 2) := o21 (a := 4) (byt_of hW_best_b4 (j := 1) rfl) (byt_of hW_best_b4 (j := 2) rfl)
theorem dW_best_131 : decode (mcc mW_best) 131 = .ok (.goto 4, 3) := o167 (a := 0) (b := 4) (byt_of hW_best_b4 (j := 3) rfl) (byt_of hW_best_b4 (j := 4) rfl) (byt_of hW_best_b4 (j := 5) rfl) rfl
theorem dW_best_134 : decode (mcc mW_best) 134 = .ok (.iload_n 3, 1) := o29 (byt_of hW_best_b4 (j := 6) rfl)
theorem dW_best_135 : decode (mcc mW_best) 135 = .ok (.ireturn, 1) := o172 (byt_of hW_best_b4 (j := 7) rfl)
def bW_foe_b0 : List Nat := [42, 180, 0, 19, 27, 182, 0, 143, 153, 0, 14, 42, 180, 0, 26, 28, 182, 0, 174, 154, 0, 6, 16, 251, 172, 29, 3, 4, 184, 0, 101, 154, 0, 6, 16, 249, 172, 42]
theorem hW_foe_b0 : BL (mcc mW_foe) 0 bW_foe_b0 := by decide +kernel
theorem dW_foe_0 : decode (mcc mW_foe) 0 = .ok (.aload_n 0, 1) := o42 (byt_of hW_foe_b0 (j := 0) rfl)
theorem dW_foe_1 : decode (mcc mW_foe) 1 = .ok (.getfield 19, 3) := o180 (a := 0) (b := 19) (byt_of hW_foe_b0 (j := 1) rfl) (byt_of hW_foe_b0 (j := 2) rfl) (byt_of hW_foe_b0 (j := 3) rfl) rfl
theorem dW_foe_4 : decode (mcc mW_foe) 4 = .ok (.iload_n 1, 1) := o27 (byt_of hW_foe_b0 (j := 4) rfl)
theorem dW_foe_5 : decode (mcc mW_foe) 5 = .ok (.invokevirtual 143, 3) := o182 (a := 0) (b := 143) (byt_of hW_foe_b0 (j := 5) rfl) (byt_of hW_foe_b0 (j := 6) rfl) (byt_of hW_foe_b0 (j := 7) rfl) rfl
theorem dW_foe_8 : decode (mcc mW_foe) 8 = .ok (.ifCond .eq 14, 3) := o153 (a := 0) (b := 14) (byt_of hW_foe_b0 (j := 8) rfl) (byt_of hW_foe_b0 (j := 9) rfl) (byt_of hW_foe_b0 (j := 10) rfl) rfl
theorem dW_foe_11 : decode (mcc mW_foe) 11 = .ok (.aload_n 0, 1) := o42 (byt_of hW_foe_b0 (j := 11) rfl)
theorem dW_foe_12 : decode (mcc mW_foe) 12 = .ok (.getfield 26, 3) := o180 (a := 0) (b := 26) (byt_of hW_foe_b0 (j := 12) rfl) (byt_of hW_foe_b0 (j := 13) rfl) (byt_of hW_foe_b0 (j := 14) rfl) rfl
theorem dW_foe_15 : decode (mcc mW_foe) 15 = .ok (.iload_n 2, 1) := o28 (byt_of hW_foe_b0 (j := 15) rfl)
theorem dW_foe_16 : decode (mcc mW_foe) 16 = .ok (.invokevirtual 174, 3) := o182 (a := 0) (b := 174) (byt_of hW_foe_b0 (j := 16) rfl) (byt_of hW_foe_b0 (j := 17) rfl) (byt_of hW_foe_b0 (j := 18) rfl) rfl
theorem dW_foe_19 : decode (mcc mW_foe) 19 = .ok (.ifCond .ne 6, 3) := o154 (a := 0) (b := 6) (byt_of hW_foe_b0 (j := 19) rfl) (byt_of hW_foe_b0 (j := 20) rfl) (byt_of hW_foe_b0 (j := 21) rfl) rfl
theorem dW_foe_22 : decode (mcc mW_foe) 22 = .ok (.bipush (-5), 2) := o16 (a := 251) (byt_of hW_foe_b0 (j := 22) rfl) (byt_of hW_foe_b0 (j := 23) rfl) rfl
theorem dW_foe_24 : decode (mcc mW_foe) 24 = .ok (.ireturn, 1) := o172 (byt_of hW_foe_b0 (j := 24) rfl)
theorem dW_foe_25 : decode (mcc mW_foe) 25 = .ok (.iload_n 3, 1) := o29 (byt_of hW_foe_b0 (j := 25) rfl)
theorem dW_foe_26 : decode (mcc mW_foe) 26 = .ok (.iconst 0, 1) := o3 (byt_of hW_foe_b0 (j := 26) rfl)
theorem dW_foe_27 : decode (mcc mW_foe) 27 = .ok (.iconst 1, 1) := o4 (byt_of hW_foe_b0 (j := 27) rfl)
theorem dW_foe_28 : decode (mcc mW_foe) 28 = .ok (.invokestatic 101, 3) := o184 (a := 0) (b := 101) (byt_of hW_foe_b0 (j := 28) rfl) (byt_of hW_foe_b0 (j := 29) rfl) (byt_of hW_foe_b0 (j := 30) rfl) rfl
theorem dW_foe_31 : decode (mcc mW_foe) 31 = .ok (.ifCond .ne 6, 3) := o154 (a := 0) (b := 6) (byt_of hW_foe_b0 (j := 31) rfl) (byt_of hW_foe_b0 (j := 32) rfl) (byt_of hW_foe_b0 (j := 33) rfl) rfl
def bW_foe_b1 : List Nat := [0, 6, 16, 249, 172, 42, 180, 0, 56, 42, 180, 0, 47, 180, 0, 127, 182, 0, 213, 2, 54, 4, 2, 54, 5, 3, 54, 6, 21, 6, 17, 2, 88, 162, 0, 59, 21, 6]
theorem hW_foe_b1 : BL (mcc mW_foe) 32 bW_foe_b1 := by decide +kernel
theorem dW_foe_34 : decode (mcc mW_foe) 34 = .ok (.bipush (-7), 2) := o16 (a := 249) (byt_of hW_foe_b1 (j := 2) rfl) (byt_of hW_foe_b1 (j := 3) rfl) rfl
theorem dW_foe_36 : decode (mcc mW_foe) 36 = .ok (.ireturn, 1) := o172 (byt_of hW_foe_b1 (j := 4) rfl)
theorem dW_foe_37 : decode (mcc mW_foe) 37 = .ok (.aload_n 0, 1) := o42 (byt_of hW_foe_b1 (j := 5) rfl)
theorem dW_foe_38 : decode (mcc mW_foe) 38 = .ok (.getfield 56, 3) := o180 (a := 0) (b := 56) (byt_of hW_foe_b1 (j := 6) rfl) (byt_of hW_foe_b1 (j := 7) rfl) (byt_of hW_foe_b1 (j := 8) rfl) rfl
theorem dW_foe_41 : decode (mcc mW_foe) 41 = .ok (.aload_n 0, 1) := o42 (byt_of hW_foe_b1 (j := 9) rfl)
theorem dW_foe_42 : decode (mcc mW_foe) 42 = .ok (.getfield 47, 3) := o180 (a := 0) (b := 47) (byt_of hW_foe_b1 (j := 10) rfl) (byt_of hW_foe_b1 (j := 11) rfl) (byt_of hW_foe_b1 (j := 12) rfl) rfl
theorem dW_foe_45 : decode (mcc mW_foe) 45 = .ok (.getfield 127, 3) := o180 (a := 0) (b := 127) (byt_of hW_foe_b1 (j := 13) rfl) (byt_of hW_foe_b1 (j := 14) rfl) (byt_of hW_foe_b1 (j := 15) rfl) rfl
theorem dW_foe_48 : decode (mcc mW_foe) 48 = .ok (.invokevirtual 213, 3) := o182 (a := 0) (b := 213) (byt_of hW_foe_b1 (j := 16) rfl) (byt_of hW_foe_b1 (j := 17) rfl) (byt_of hW_foe_b1 (j := 18) rfl) rfl
theorem dW_foe_51 : decode (mcc mW_foe) 51 = .ok (.iconst (-1), 1) := o2 (byt_of hW_foe_b1 (j := 19) rfl)
theorem dW_foe_52 : decode (mcc mW_foe) 52 = .ok (.istore 4, 2) := o54 (a := 4) (byt_of hW_foe_b1 (j := 20) rfl) (byt_of hW_foe_b1 (j := 21) rfl)
theorem dW_foe_54 : decode (mcc mW_foe) 54 = .ok (.iconst (-1), 1) := o2 (byt_of hW_foe_b1 (j := 22) rfl)
theorem dW_foe_55 : decode (mcc mW_foe) 55 = .ok (.istore 5, 2) := o54 (a := 5) (byt_of hW_foe_b1 (j := 23) rfl) (byt_of hW_foe_b1 (j := 24) rfl)
theorem dW_foe_57 : decode (mcc mW_foe) 57 = .ok (.iconst 0, 1) := o3 (byt_of hW_foe_b1 (j := 25) rfl)
theorem dW_foe_58 : decode (mcc mW_foe) 58 = .ok (.istore 6, 2) := o54 (a := 6) (byt_of hW_foe_b1 (j := 26) rfl) (byt_of hW_foe_b1 (j := 27) rfl)
theorem dW_foe_60 : decode (mcc mW_foe) 60 = .ok (.iload 6, 2) := o21 (a := 6) (byt_of hW_foe_b1 (j := 28) rfl) (byt_of hW_foe_b1 (j := 29) rfl)
theorem dW_foe_62 : decode (mcc mW_foe) 62 = .ok (.sipush 600, 3) := o17 (a := 2) (b := 88) (byt_of hW_foe_b1 (j := 30) rfl) (byt_of hW_foe_b1 (j := 31) rfl) (byt_of hW_foe_b1 (j := 32) rfl) rfl
def bW_foe_b2 : List Nat := [88, 162, 0, 59, 21, 6, 184, 0, 187, 154, 0, 6, 167, 0, 42, 42, 180, 0, 56, 28, 21, 6, 182, 0, 244, 42, 180, 0, 56, 180, 0, 219, 27, 46, 21, 4, 164, 0]
theorem hW_foe_b2 : BL (mcc mW_foe) 64 bW_foe_b2 := by decide +kernel
theorem dW_foe_65 : decode (mcc mW_foe) 65 = .ok (.if_icmp .ge 59, 3) := o162 (a := 0) (b := 59) (byt_of hW_foe_b2 (j := 1) rfl) (byt_of hW_foe_b2 (j := 2) rfl) (byt_of hW_foe_b2 (j := 3) rfl) rfl
theorem dW_foe_68 : decode (mcc mW_foe) 68 = .ok (.iload 6, 2) := o21 (a := 6) (byt_of hW_foe_b2 (j := 4) rfl) (byt_of hW_foe_b2 (j := 5) rfl)
theorem dW_foe_70 : decode (mcc mW_foe) 70 = .ok (.invokestatic 187, 3) := o184 (a := 0) (b := 187) (byt_of hW_foe_b2 (j := 6) rfl) (byt_of hW_foe_b2 (j := 7) rfl) (byt_of hW_foe_b2 (j := 8) rfl) rfl
theorem dW_foe_73 : decode (mcc mW_foe) 73 = .ok (.ifCond .ne 6, 3) := o154 (a := 0) (b := 6) (byt_of hW_foe_b2 (j := 9) rfl) (byt_of hW_foe_b2 (j := 10) rfl) (byt_of hW_foe_b2 (j := 11) rfl) rfl
theorem dW_foe_76 : decode (mcc mW_foe) 76 = .ok (.goto 42, 3) := o167 (a := 0) (b := 42) (byt_of hW_foe_b2 (j := 12) rfl) (byt_of hW_foe_b2 (j := 13) rfl) (byt_of hW_foe_b2 (j := 14) rfl) rfl
theorem dW_foe_79 : decode (mcc mW_foe) 79 = .ok (.aload_n 0, 1) := o42 (byt_of hW_foe_b2 (j := 15) rfl)
theorem dW_foe_80 : decode (mcc mW_foe) 80 = .ok (.getfield 56, 3) := o180 (a := 0) (b := 56) (byt_of hW_foe_b2 (j := 16) rfl) (byt_of hW_foe_b2 (j := 17) rfl) (byt_of hW_foe_b2 (j := 18) rfl) rfl
theorem dW_foe_83 : decode (mcc mW_foe) 83 = .ok (.iload_n 2, 1) := o28 (byt_of hW_foe_b2 (j := 19) rfl)
theorem dW_foe_84 : decode (mcc mW_foe) 84 = .ok (.iload 6, 2) := o21 (a := 6) (byt_of hW_foe_b2 (j := 20) rfl) (byt_of hW_foe_b2 (j := 21) rfl)
theorem dW_foe_86 : decode (mcc mW_foe) 86 = .ok (.invokevirtual 244, 3) := o182 (a := 0) (b := 244) (byt_of hW_foe_b2 (j := 22) rfl) (byt_of hW_foe_b2 (j := 23) rfl) (byt_of hW_foe_b2 (j := 24) rfl) rfl
theorem dW_foe_89 : decode (mcc mW_foe) 89 = .ok (.aload_n 0, 1) := o42 (byt_of hW_foe_b2 (j := 25) rfl)
theorem dW_foe_90 : decode (mcc mW_foe) 90 = .ok (.getfield 56, 3) := o180 (a := 0) (b := 56) (byt_of hW_foe_b2 (j := 26) rfl) (byt_of hW_foe_b2 (j := 27) rfl) (byt_of hW_foe_b2 (j := 28) rfl) rfl
theorem dW_foe_93 : decode (mcc mW_foe) 93 = .ok (.getfield 219, 3) := o180 (a := 0) (b := 219) (byt_of hW_foe_b2 (j := 29) rfl) (byt_of hW_foe_b2 (j := 30) rfl) (byt_of hW_foe_b2 (j := 31) rfl) rfl
def bW_foe_b3 : List Nat := [27, 46, 21, 4, 164, 0, 18, 21, 6, 54, 5, 42, 180, 0, 56, 180, 0, 219, 27, 46, 54, 4, 132, 6, 1, 167, 255, 195, 29, 154, 0, 8, 21, 5, 167, 0, 5, 21]
theorem hW_foe_b3 : BL (mcc mW_foe) 96 bW_foe_b3 := by decide +kernel
theorem dW_foe_96 : decode (mcc mW_foe) 96 = .ok (.iload_n 1, 1) := o27 (byt_of hW_foe_b3 (j := 0) rfl)
theorem dW_foe_97 : decode (mcc mW_foe) 97 = .ok (.iaload, 1) := o46 (byt_of hW_foe_b3 (j := 1) rfl)
theorem dW_foe_98 : decode (mcc mW_foe) 98 = .ok (.iload 4, 2) := o21 (a := 4) (byt_of hW_foe_b3 (j := 2) rfl) (byt_of hW_foe_b3 (j := 3) rfl)
theorem dW_foe_100 : decode (mcc mW_foe) 100 = .ok (.if_icmp .le 18, 3) := o164 (a := 0) (b := 18) (byt_of hW_foe_b3 (j := 4) rfl) (byt_of hW_foe_b3 (j := 5) rfl) (byt_of hW_foe_b3 (j := 6) rfl) rfl
theorem dW_foe_103 : decode (mcc mW_foe) 103 = .ok (.iload 6, 2) := o21 (a := 6) (byt_of hW_foe_b3 (j := 7) rfl) (byt_of hW_foe_b3 (j := 8) rfl)
theorem dW_foe_105 : decode (mcc mW_foe) 105 = .ok (.istore 5, 2) := o54 (a := 5) (byt_of hW_foe_b3 (j := 9) rfl) (byt_of hW_foe_b3 (j := 10) rfl)
theorem dW_foe_107 : decode (mcc mW_foe) 107 = .ok (.aload_n 0, 1) := o42 (byt_of hW_foe_b3 (j := 11) rfl)
theorem dW_foe_108 : decode (mcc mW_foe) 108 = .ok (.getfield 56, 3) := o180 (a := 0) (b := 56) (byt_of hW_foe_b3 (j := 12) rfl) (byt_of hW_foe_b3 (j := 13) rfl) (byt_of hW_foe_b3 (j := 14) rfl) rfl
theorem dW_foe_111 : decode (mcc mW_foe) 111 = .ok (.getfield 219, 3) := o180 (a := 0) (b := 219) (byt_of hW_foe_b3 (j := 15) rfl) (byt_of hW_foe_b3 (j := 16) rfl) (byt_of hW_foe_b3 (j := 17) rfl) rfl
theorem dW_foe_114 : decode (mcc mW_foe) 114 = .ok (.iload_n 1, 1) := o27 (byt_of hW_foe_b3 (j := 18) rfl)
theorem dW_foe_115 : decode (mcc mW_foe) 115 = .ok (.iaload, 1) := o46 (byt_of hW_foe_b3 (j := 19) rfl)
theorem dW_foe_116 : decode (mcc mW_foe) 116 = .ok (.istore 4, 2) := o54 (a := 4) (byt_of hW_foe_b3 (j := 20) rfl) (byt_of hW_foe_b3 (j := 21) rfl)
theorem dW_foe_118 : decode (mcc mW_foe) 118 = .ok (.iinc 6 1, 3) := o132 (a := 6) (b := 1) (byt_of hW_foe_b3 (j := 22) rfl) (byt_of hW_foe_b3 (j := 23) rfl) (byt_of hW_foe_b3 (j := 24) rfl) rfl
theorem dW_foe_121 : decode (mcc mW_foe) 121 = .ok (.goto (-61), 3) := o167 (a := 255) (b := 195) (byt_of hW_foe_b3 (j := 25) rfl) (byt_of hW_foe_b3 (j := 26) rfl) (byt_of hW_foe_b3 (j := 27) rfl) rfl
theorem dW_foe_124 : decode (mcc mW_foe) 124 = .ok (.iload_n 3, 1) := o29 (byt_of hW_foe_b3 (j := 28) rfl)
theorem dW_foe_125 : decode (mcc mW_foe) 125 = .ok (.ifCond .ne 8, 3) := o154 (a := 0) (b := 8) (byt_of hW_foe_b3 (j := 29) rfl) (byt_of hW_foe_b3 (j := 30) rfl) (byt_of hW_foe_b3 (j := 31) rfl) rfl
def bW_foe_b4 : List Nat := [21, 5, 167, 0, 5, 21, 4, 172]
theorem hW_foe_b4 : BL (mcc mW_foe) 128 bW_foe_b4 := by decide +kernel
theorem dW_foe_128 : decode (mcc mW_foe) 128 = .ok (.iload 5, 2) := o21 (a := 5) (byt_of hW_foe_b4 (j := 0) rfl) (byt_of hW_foe_b4 (j := 1) rfl)
theorem dW_foe_130 : decode (mcc mW_foe) 130 = .ok (.goto 5, 3) := o167 (a := 0) (b := 5) (byt_of hW_foe_b4 (j := 2) rfl) (byt_of hW_foe_b4 (j := 3) rfl) (byt_of hW_foe_b4 (j := 4) rfl) rfl
theorem dW_foe_133 : decode (mcc mW_foe) 133 = .ok (.iload 4, 2) := o21 (a := 4) (byt_of hW_foe_b4 (j := 5) rfl) (byt_of hW_foe_b4 (j := 6) rfl)
theorem dW_foe_135 : decode (mcc mW_foe) 135 = .ok (.ireturn, 1) := o172 (byt_of hW_foe_b4 (j := 7) rfl)
def bW_loud_b0 : List Nat := [42, 180, 0, 26, 27, 182, 0, 174, 154, 0, 6, 16, 251, 172, 28, 3, 8, 184, 0, 101, 153, 0, 12, 29, 3, 8, 184, 0, 101, 154, 0, 6, 16, 249, 172, 42, 180, 0]
theorem hW_loud_b0 : BL (mcc mW_loud) 0 bW_loud_b0 := by decide +kernel
theorem dW_loud_0 : decode (mcc mW_loud) 0 = .ok (.aload_n 0, 1) := o42 (byt_of hW_loud_b0 (j := 0) rfl)
theorem dW_loud_1 : decode (mcc mW_loud) 1 = .ok (.getfield 26, 3) := o180 (a := 0) (b := 26) (byt_of hW_loud_b0 (j := 1) rfl) (byt_of hW_loud_b0 (j := 2) rfl) (byt_of hW_loud_b0 (j := 3) rfl) rfl
theorem dW_loud_4 : decode (mcc mW_loud) 4 = .ok (.iload_n 1, 1) := o27 (byt_of hW_loud_b0 (j := 4) rfl)
theorem dW_loud_5 : decode (mcc mW_loud) 5 = .ok (.invokevirtual 174, 3) := o182 (a := 0) (b := 174) (byt_of hW_loud_b0 (j := 5) rfl) (byt_of hW_loud_b0 (j := 6) rfl) (byt_of hW_loud_b0 (j := 7) rfl) rfl
theorem dW_loud_8 : decode (mcc mW_loud) 8 = .ok (.ifCond .ne 6, 3) := o154 (a := 0) (b := 6) (byt_of hW_loud_b0 (j := 8) rfl) (byt_of hW_loud_b0 (j := 9) rfl) (byt_of hW_loud_b0 (j := 10) rfl) rfl
theorem dW_loud_11 : decode (mcc mW_loud) 11 = .ok (.bipush (-5), 2) := o16 (a := 251) (byt_of hW_loud_b0 (j := 11) rfl) (byt_of hW_loud_b0 (j := 12) rfl) rfl
theorem dW_loud_13 : decode (mcc mW_loud) 13 = .ok (.ireturn, 1) := o172 (byt_of hW_loud_b0 (j := 13) rfl)
theorem dW_loud_14 : decode (mcc mW_loud) 14 = .ok (.iload_n 2, 1) := o28 (byt_of hW_loud_b0 (j := 14) rfl)
theorem dW_loud_15 : decode (mcc mW_loud) 15 = .ok (.iconst 0, 1) := o3 (byt_of hW_loud_b0 (j := 15) rfl)
theorem dW_loud_16 : decode (mcc mW_loud) 16 = .ok (.iconst 5, 1) := o8 (byt_of hW_loud_b0 (j := 16) rfl)
theorem dW_loud_17 : decode (mcc mW_loud) 17 = .ok (.invokestatic 101, 3) := o184 (a := 0) (b := 101) (byt_of hW_loud_b0 (j := 17) rfl) (byt_of hW_loud_b0 (j := 18) rfl) (byt_of hW_loud_b0 (j := 19) rfl) rfl
theorem dW_loud_20 : decode (mcc mW_loud) 20 = .ok (.ifCond .eq 12, 3) := o153 (a := 0) (b := 12) (byt_of hW_loud_b0 (j := 20) rfl) (byt_of hW_loud_b0 (j := 21) rfl) (byt_of hW_loud_b0 (j := 22) rfl) rfl
theorem dW_loud_23 : decode (mcc mW_loud) 23 = .ok (.iload_n 3, 1) := o29 (byt_of hW_loud_b0 (j := 23) rfl)
theorem dW_loud_24 : decode (mcc mW_loud) 24 = .ok (.iconst 0, 1) := o3 (byt_of hW_loud_b0 (j := 24) rfl)
theorem dW_loud_25 : decode (mcc mW_loud) 25 = .ok (.iconst 5, 1) := o8 (byt_of hW_loud_b0 (j := 25) rfl)
theorem dW_loud_26 : decode (mcc mW_loud) 26 = .ok (.invokestatic 101, 3) := o184 (a := 0) (b := 101) (byt_of hW_loud_b0 (j := 26) rfl) (byt_of hW_loud_b0 (j := 27) rfl) (byt_of hW_loud_b0 (j := 28) rfl) rfl
theorem dW_loud_29 : decode (mcc mW_loud) 29 = .ok (.ifCond .ne 6, 3) := o154 (a := 0) (b := 6) (byt_of hW_loud_b0 (j := 29) rfl) (byt_of hW_loud_b0 (j := 30) rfl) (byt_of hW_loud_b0 (j := 31) rfl) rfl
def bW_loud_b1 : List Nat := [16, 249, 172, 42, 180, 0, 56, 42, 180, 0, 47, 180, 0, 127, 182, 0, 213, 4, 54, 4, 21, 4, 16, 9, 163, 0, 43, 42, 180, 0, 56, 27, 16, 100, 28, 104, 16, 10]
theorem hW_loud_b1 : BL (mcc mW_loud) 32 bW_loud_b1 := by decide +kernel
theorem dW_loud_32 : decode (mcc mW_loud) 32 = .ok (.bipush (-7), 2) := o16 (a := 249) (byt_of hW_loud_b1 (j := 0) rfl) (byt_of hW_loud_b1 (j := 1) rfl) rfl
theorem dW_loud_34 : decode (mcc mW_loud) 34 = .ok (.ireturn, 1) := o172 (byt_of hW_loud_b1 (j := 2) rfl)
theorem dW_loud_35 : decode (mcc mW_loud) 35 = .ok (.aload_n 0, 1) := o42 (byt_of hW_loud_b1 (j := 3) rfl)
theorem dW_loud_36 : decode (mcc mW_loud) 36 = .ok (.getfield 56, 3) := o180 (a := 0) (b := 56) (byt_of hW_loud_b1 (j := 4) rfl) (byt_of hW_loud_b1 (j := 5) rfl) (byt_of hW_loud_b1 (j := 6) rfl) rfl
theorem dW_loud_39 : decode (mcc mW_loud) 39 = .ok (.aload_n 0, 1) := o42 (byt_of hW_loud_b1 (j := 7) rfl)
theorem dW_loud_40 : decode (mcc mW_loud) 40 = .ok (.getfield 47, 3) := o180 (a := 0) (b := 47) (byt_of hW_loud_b1 (j := 8) rfl) (byt_of hW_loud_b1 (j := 9) rfl) (byt_of hW_loud_b1 (j := 10) rfl) rfl
theorem dW_loud_43 : decode (mcc mW_loud) 43 = .ok (.getfield 127, 3) := o180 (a := 0) (b := 127) (byt_of hW_loud_b1 (j := 11) rfl) (byt_of hW_loud_b1 (j := 12) rfl) (byt_of hW_loud_b1 (j := 13) rfl) rfl
theorem dW_loud_46 : decode (mcc mW_loud) 46 = .ok (.invokevirtual 213, 3) := o182 (a := 0) (b := 213) (byt_of hW_loud_b1 (j := 14) rfl) (byt_of hW_loud_b1 (j := 15) rfl) (byt_of hW_loud_b1 (j := 16) rfl) rfl
theorem dW_loud_49 : decode (mcc mW_loud) 49 = .ok (.iconst 1, 1) := o4 (byt_of hW_loud_b1 (j := 17) rfl)
theorem dW_loud_50 : decode (mcc mW_loud) 50 = .ok (.istore 4, 2) := o54 (a := 4) (byt_of hW_loud_b1 (j := 18) rfl) (byt_of hW_loud_b1 (j := 19) rfl)
theorem dW_loud_52 : decode (mcc mW_loud) 52 = .ok (.iload 4, 2) := o21 (a := 4) (byt_of hW_loud_b1 (j := 20) rfl) (byt_of hW_loud_b1 (j := 21) rfl)
theorem dW_loud_54 : decode (mcc mW_loud) 54 = .ok (.bipush 9, 2) := o16 (a := 9) (byt_of hW_loud_b1 (j := 22) rfl) (byt_of hW_loud_b1 (j := 23) rfl) rfl
theorem dW_loud_56 : decode (mcc mW_loud) 56 = .ok (.if_icmp .gt 43, 3) := o163 (a := 0) (b := 43) (byt_of hW_loud_b1 (j := 24) rfl) (byt_of hW_loud_b1 (j := 25) rfl) (byt_of hW_loud_b1 (j := 26) rfl) rfl
theorem dW_loud_59 : decode (mcc mW_loud) 59 = .ok (.aload_n 0, 1) := o42 (byt_of hW_loud_b1 (j := 27) rfl)
theorem dW_loud_60 : decode (mcc mW_loud) 60 = .ok (.getfield 56, 3) := o180 (a := 0) (b := 56) (byt_of hW_loud_b1 (j := 28) rfl) (byt_of hW_loud_b1 (j := 29) rfl) (byt_of hW_loud_b1 (j := 30) rfl) rfl
theorem dW_loud_63 : decode (mcc mW_loud) 63 = .ok (.iload_n 1, 1) := o27 (byt_of hW_loud_b1 (j := 31) rfl)
def bW_loud_b2 : List Nat := [16, 100, 28, 104, 16, 10, 29, 104, 96, 21, 4, 96, 182, 0, 244, 42, 180, 0, 56, 27, 182, 0, 248, 153, 0, 6, 21, 4, 172, 132, 4, 1, 167, 255, 212, 2, 172]
theorem hW_loud_b2 : BL (mcc mW_loud) 64 bW_loud_b2 := by decide +kernel
theorem dW_loud_64 : decode (mcc mW_loud) 64 = .ok (.bipush 100, 2) := o16 (a := 100) (byt_of hW_loud_b2 (j := 0) rfl) (byt_of hW_loud_b2 (j := 1) rfl) rfl
theorem dW_loud_66 : decode (mcc mW_loud) 66 = .ok (.iload_n 2, 1) := o28 (byt_of hW_loud_b2 (j := 2) rfl)
theorem dW_loud_67 : decode (mcc mW_loud) 67 = .ok (.imul, 1) := o104 (byt_of hW_loud_b2 (j := 3) rfl)
theorem dW_loud_68 : decode (mcc mW_loud) 68 = .ok (.bipush 10, 2) := o16 (a := 10) (byt_of hW_loud_b2 (j := 4) rfl) (byt_of hW_loud_b2 (j := 5) rfl) rfl
theorem dW_loud_70 : decode (mcc mW_loud) 70 = .ok (.iload_n 3, 1) := o29 (byt_of hW_loud_b2 (j := 6) rfl)
theorem dW_loud_71 : decode (mcc mW_loud) 71 = .ok (.imul, 1) := o104 (byt_of hW_loud_b2 (j := 7) rfl)
theorem dW_loud_72 : decode (mcc mW_loud) 72 = .ok (.iadd, 1) := o96 (byt_of hW_loud_b2 (j := 8) rfl)
theorem dW_loud_73 : decode (mcc mW_loud) 73 = .ok (.iload 4, 2) := o21 (a := 4) (byt_of hW_loud_b2 (j := 9) rfl) (byt_of hW_loud_b2 (j := 10) rfl)
theorem dW_loud_75 : decode (mcc mW_loud) 75 = .ok (.iadd, 1) := o96 (byt_of hW_loud_b2 (j := 11) rfl)
theorem dW_loud_76 : decode (mcc mW_loud) 76 = .ok (.invokevirtual 244, 3) := o182 (a := 0) (b := 244) (byt_of hW_loud_b2 (j := 12) rfl) (byt_of hW_loud_b2 (j := 13) rfl) (byt_of hW_loud_b2 (j := 14) rfl) rfl
theorem dW_loud_79 : decode (mcc mW_loud) 79 = .ok (.aload_n 0, 1) := o42 (byt_of hW_loud_b2 (j := 15) rfl)
theorem dW_loud_80 : decode (mcc mW_loud) 80 = .ok (.getfield 56, 3) := o180 (a := 0) (b := 56) (byt_of hW_loud_b2 (j := 16) rfl) (byt_of hW_loud_b2 (j := 17) rfl) (byt_of hW_loud_b2 (j := 18) rfl) rfl
theorem dW_loud_83 : decode (mcc mW_loud) 83 = .ok (.iload_n 1, 1) := o27 (byt_of hW_loud_b2 (j := 19) rfl)
theorem dW_loud_84 : decode (mcc mW_loud) 84 = .ok (.invokevirtual 248, 3) := o182 (a := 0) (b := 248) (byt_of hW_loud_b2 (j := 20) rfl) (byt_of hW_loud_b2 (j := 21) rfl) (byt_of hW_loud_b2 (j := 22) rfl) rfl
theorem dW_loud_87 : decode (mcc mW_loud) 87 = .ok (.ifCond .eq 6, 3) := o153 (a := 0) (b := 6) (byt_of hW_loud_b2 (j := 23) rfl) (byt_of hW_loud_b2 (j := 24) rfl) (byt_of hW_loud_b2 (j := 25) rfl) rfl
theorem dW_loud_90 : decode (mcc mW_loud) 90 = .ok (.iload 4, 2) := o21 (a := 4) (byt_of hW_loud_b2 (j := 26) rfl) (byt_of hW_loud_b2 (j := 27) rfl)
theorem dW_loud_92 : decode (mcc mW_loud) 92 = .ok (.ireturn, 1) := o172 (byt_of hW_loud_b2 (j := 28) rfl)
theorem dW_loud_93 : decode (mcc mW_loud) 93 = .ok (.iinc 4 1, 3) := o132 (a := 4) (b := 1) (byt_of hW_loud_b2 (j := 29) rfl) (byt_of hW_loud_b2 (j := 30) rfl) (byt_of hW_loud_b2 (j := 31) rfl) rfl
def bW_loud_b3 : List Nat := [167, 255, 212, 2, 172]
theorem hW_loud_b3 : BL (mcc mW_loud) 96 bW_loud_b3 := by decide +kernel
theorem dW_loud_96 : decode (mcc mW_loud) 96 = .ok (.goto (-44), 3) := o167 (a := 255) (b := 212) (byt_of hW_loud_b3 (j := 0) rfl) (byt_of hW_loud_b3 (j := 1) rfl) (byt_of hW_loud_b3 (j := 2) rfl) rfl
theorem dW_loud_99 : decode (mcc mW_loud) 99 = .ok (.iconst (-1), 1) := o2 (byt_of hW_loud_b3 (j := 3) rfl)
theorem dW_loud_100 : decode (mcc mW_loud) 100 = .ok (.ireturn, 1) := o172 (byt_of hW_loud_b3 (j := 4) rfl)
def bW_spare_b0 : List Nat := [42, 180, 0, 56, 42, 180, 0, 47, 180, 0, 127, 182, 0, 213, 42, 180, 0, 56, 182, 0, 254, 60, 3, 61, 3, 62, 29, 42, 180, 0, 33, 180, 0, 125, 162, 0, 44, 42]
theorem hW_spare_b0 : BL (mcc mW_spare) 0 bW_spare_b0 := by decide +kernel
theorem dW_spare_0 : decode (mcc mW_spare) 0 = .ok (.aload_n 0, 1) := o42 (byt_of hW_spare_b0 (j := 0) rfl)
theorem dW_spare_1 : decode (mcc mW_spare) 1 = .ok (.getfield 56, 3) := o180 (a := 0) (b := 56) (byt_of hW_spare_b0 (j := 1) rfl) (byt_of hW_spare_b0 (j := 2) rfl) (byt_of hW_spare_b0 (j := 3) rfl) rfl
theorem dW_spare_4 : decode (mcc mW_spare) 4 = .ok (.aload_n 0, 1) := o42 (byt_of hW_spare_b0 (j := 4) rfl)
theorem dW_spare_5 : decode (mcc mW_spare) 5 = .ok (.getfield 47, 3) := o180 (a := 0) (b := 47) (byt_of hW_spare_b0 (j := 5) rfl) (byt_of hW_spare_b0 (j := 6) rfl) (byt_of hW_spare_b0 (j := 7) rfl) rfl
theorem dW_spare_8 : decode (mcc mW_spare) 8 = .ok (.getfield 127, 3) := o180 (a := 0) (b := 127) (byt_of hW_spare_b0 (j := 8) rfl) (byt_of hW_spare_b0 (j := 9) rfl) (byt_of hW_spare_b0 (j := 10) rfl) rfl
theorem dW_spare_11 : decode (mcc mW_spare) 11 = .ok (.invokevirtual 213, 3) := o182 (a := 0) (b := 213) (byt_of hW_spare_b0 (j := 11) rfl) (byt_of hW_spare_b0 (j := 12) rfl) (byt_of hW_spare_b0 (j := 13) rfl) rfl
theorem dW_spare_14 : decode (mcc mW_spare) 14 = .ok (.aload_n 0, 1) := o42 (byt_of hW_spare_b0 (j := 14) rfl)
theorem dW_spare_15 : decode (mcc mW_spare) 15 = .ok (.getfield 56, 3) := o180 (a := 0) (b := 56) (byt_of hW_spare_b0 (j := 15) rfl) (byt_of hW_spare_b0 (j := 16) rfl) (byt_of hW_spare_b0 (j := 17) rfl) rfl
theorem dW_spare_18 : decode (mcc mW_spare) 18 = .ok (.invokevirtual 254, 3) := o182 (a := 0) (b := 254) (byt_of hW_spare_b0 (j := 18) rfl) (byt_of hW_spare_b0 (j := 19) rfl) (byt_of hW_spare_b0 (j := 20) rfl) rfl
theorem dW_spare_21 : decode (mcc mW_spare) 21 = .ok (.istore_n 1, 1) := o60 (byt_of hW_spare_b0 (j := 21) rfl)
theorem dW_spare_22 : decode (mcc mW_spare) 22 = .ok (.iconst 0, 1) := o3 (byt_of hW_spare_b0 (j := 22) rfl)
theorem dW_spare_23 : decode (mcc mW_spare) 23 = .ok (.istore_n 2, 1) := o61 (byt_of hW_spare_b0 (j := 23) rfl)
theorem dW_spare_24 : decode (mcc mW_spare) 24 = .ok (.iconst 0, 1) := o3 (byt_of hW_spare_b0 (j := 24) rfl)
theorem dW_spare_25 : decode (mcc mW_spare) 25 = .ok (.istore_n 3, 1) := o62 (byt_of hW_spare_b0 (j := 25) rfl)
theorem dW_spare_26 : decode (mcc mW_spare) 26 = .ok (.iload_n 3, 1) := o29 (byt_of hW_spare_b0 (j := 26) rfl)
theorem dW_spare_27 : decode (mcc mW_spare) 27 = .ok (.aload_n 0, 1) := o42 (byt_of hW_spare_b0 (j := 27) rfl)
theorem dW_spare_28 : decode (mcc mW_spare) 28 = .ok (.getfield 33, 3) := o180 (a := 0) (b := 33) (byt_of hW_spare_b0 (j := 28) rfl) (byt_of hW_spare_b0 (j := 29) rfl) (byt_of hW_spare_b0 (j := 30) rfl) rfl
theorem dW_spare_31 : decode (mcc mW_spare) 31 = .ok (.getfield 125, 3) := o180 (a := 0) (b := 125) (byt_of hW_spare_b0 (j := 31) rfl) (byt_of hW_spare_b0 (j := 32) rfl) (byt_of hW_spare_b0 (j := 33) rfl) rfl
def bW_spare_b1 : List Nat := [0, 125, 162, 0, 44, 42, 180, 0, 56, 42, 180, 0, 33, 180, 0, 125, 29, 182, 1, 1, 27, 42, 180, 0, 56, 182, 0, 254, 2, 130, 126, 154, 0, 9, 28, 4, 29, 120]
theorem hW_spare_b1 : BL (mcc mW_spare) 32 bW_spare_b1 := by decide +kernel
theorem dW_spare_34 : decode (mcc mW_spare) 34 = .ok (.if_icmp .ge 44, 3) := o162 (a := 0) (b := 44) (byt_of hW_spare_b1 (j := 2) rfl) (byt_of hW_spare_b1 (j := 3) rfl) (byt_of hW_spare_b1 (j := 4) rfl) rfl
theorem dW_spare_37 : decode (mcc mW_spare) 37 = .ok (.aload_n 0, 1) := o42 (byt_of hW_spare_b1 (j := 5) rfl)
theorem dW_spare_38 : decode (mcc mW_spare) 38 = .ok (.getfield 56, 3) := o180 (a := 0) (b := 56) (byt_of hW_spare_b1 (j := 6) rfl) (byt_of hW_spare_b1 (j := 7) rfl) (byt_of hW_spare_b1 (j := 8) rfl) rfl
theorem dW_spare_41 : decode (mcc mW_spare) 41 = .ok (.aload_n 0, 1) := o42 (byt_of hW_spare_b1 (j := 9) rfl)
theorem dW_spare_42 : decode (mcc mW_spare) 42 = .ok (.getfield 33, 3) := o180 (a := 0) (b := 33) (byt_of hW_spare_b1 (j := 10) rfl) (byt_of hW_spare_b1 (j := 11) rfl) (byt_of hW_spare_b1 (j := 12) rfl) rfl
theorem dW_spare_45 : decode (mcc mW_spare) 45 = .ok (.getfield 125, 3) := o180 (a := 0) (b := 125) (byt_of hW_spare_b1 (j := 13) rfl) (byt_of hW_spare_b1 (j := 14) rfl) (byt_of hW_spare_b1 (j := 15) rfl) rfl
theorem dW_spare_48 : decode (mcc mW_spare) 48 = .ok (.iload_n 3, 1) := o29 (byt_of hW_spare_b1 (j := 16) rfl)
theorem dW_spare_49 : decode (mcc mW_spare) 49 = .ok (.invokevirtual 257, 3) := o182 (a := 1) (b := 1) (byt_of hW_spare_b1 (j := 17) rfl) (byt_of hW_spare_b1 (j := 18) rfl) (byt_of hW_spare_b1 (j := 19) rfl) rfl
theorem dW_spare_52 : decode (mcc mW_spare) 52 = .ok (.iload_n 1, 1) := o27 (byt_of hW_spare_b1 (j := 20) rfl)
theorem dW_spare_53 : decode (mcc mW_spare) 53 = .ok (.aload_n 0, 1) := o42 (byt_of hW_spare_b1 (j := 21) rfl)
theorem dW_spare_54 : decode (mcc mW_spare) 54 = .ok (.getfield 56, 3) := o180 (a := 0) (b := 56) (byt_of hW_spare_b1 (j := 22) rfl) (byt_of hW_spare_b1 (j := 23) rfl) (byt_of hW_spare_b1 (j := 24) rfl) rfl
theorem dW_spare_57 : decode (mcc mW_spare) 57 = .ok (.invokevirtual 254, 3) := o182 (a := 0) (b := 254) (byt_of hW_spare_b1 (j := 25) rfl) (byt_of hW_spare_b1 (j := 26) rfl) (byt_of hW_spare_b1 (j := 27) rfl) rfl
theorem dW_spare_60 : decode (mcc mW_spare) 60 = .ok (.iconst (-1), 1) := o2 (byt_of hW_spare_b1 (j := 28) rfl)
theorem dW_spare_61 : decode (mcc mW_spare) 61 = .ok (.ixor, 1) := o130 (byt_of hW_spare_b1 (j := 29) rfl)
theorem dW_spare_62 : decode (mcc mW_spare) 62 = .ok (.iand, 1) := o126 (byt_of hW_spare_b1 (j := 30) rfl)
theorem dW_spare_63 : decode (mcc mW_spare) 63 = .ok (.ifCond .ne 9, 3) := o154 (a := 0) (b := 9) (byt_of hW_spare_b1 (j := 31) rfl) (byt_of hW_spare_b1 (j := 32) rfl) (byt_of hW_spare_b1 (j := 33) rfl) rfl
def bW_spare_b2 : List Nat := [0, 9, 28, 4, 29, 120, 128, 61, 132, 3, 1, 167, 255, 207, 28, 172]
theorem hW_spare_b2 : BL (mcc mW_spare) 64 bW_spare_b2 := by decide +kernel
theorem dW_spare_66 : decode (mcc mW_spare) 66 = .ok (.iload_n 2, 1) := o28 (byt_of hW_spare_b2 (j := 2) rfl)
theorem dW_spare_67 : decode (mcc mW_spare) 67 = .ok (.iconst 1, 1) := o4 (byt_of hW_spare_b2 (j := 3) rfl)
theorem dW_spare_68 : decode (mcc mW_spare) 68 = .ok (.iload_n 3, 1) := o29 (byt_of hW_spare_b2 (j := 4) rfl)
theorem dW_spare_69 : decode (mcc mW_spare) 69 = .ok (.ishl, 1) := o120 (byt_of hW_spare_b2 (j := 5) rfl)
theorem dW_spare_70 : decode (mcc mW_spare) 70 = .ok (.ior, 1) := o128 (byt_of hW_spare_b2 (j := 6) rfl)
theorem dW_spare_71 : decode (mcc mW_spare) 71 = .ok (.istore_n 2, 1) := o61 (byt_of hW_spare_b2 (j := 7) rfl)
theorem dW_spare_72 : decode (mcc mW_spare) 72 = .ok (.iinc 3 1, 3) := o132 (a := 3) (b := 1) (byt_of hW_spare_b2 (j := 8) rfl) (byt_of hW_spare_b2 (j := 9) rfl) (byt_of hW_spare_b2 (j := 10) rfl) rfl
theorem dW_spare_75 : decode (mcc mW_spare) 75 = .ok (.goto (-49), 3) := o167 (a := 255) (b := 207) (byt_of hW_spare_b2 (j := 11) rfl) (byt_of hW_spare_b2 (j := 12) rfl) (byt_of hW_spare_b2 (j := 13) rfl) rfl
theorem dW_spare_78 : decode (mcc mW_spare) 78 = .ok (.iload_n 2, 1) := o28 (byt_of hW_spare_b2 (j := 14) rfl)
theorem dW_spare_79 : decode (mcc mW_spare) 79 = .ok (.ireturn, 1) := o172 (byt_of hW_spare_b2 (j := 15) rfl)
def bW_even_b0 : List Nat := [42, 180, 0, 26, 27, 182, 0, 174, 153, 0, 14, 42, 180, 0, 19, 28, 182, 0, 143, 154, 0, 6, 16, 251, 172, 42, 180, 0, 56, 42, 180, 0, 47, 180, 0, 127, 182, 0]
theorem hW_even_b0 : BL (mcc mW_even) 0 bW_even_b0 := by decide +kernel
theorem dW_even_0 : decode (mcc mW_even) 0 = .ok (.aload_n 0, 1) := o42 (byt_of hW_even_b0 (j := 0) rfl)
theorem dW_even_1 : decode (mcc mW_even) 1 = .ok (.getfield 26, 3) := o180 (a := 0) (b := 26) (byt_of hW_even_b0 (j := 1) rfl) (byt_of hW_even_b0 (j := 2) rfl) (byt_of hW_even_b0 (j := 3) rfl) rfl
theorem dW_even_4 : decode (mcc mW_even) 4 = .ok (.iload_n 1, 1) := o27 (byt_of hW_even_b0 (j := 4) rfl)
theorem dW_even_5 : decode (mcc mW_even) 5 = .ok (.invokevirtual 174, 3) := o182 (a := 0) (b := 174) (byt_of hW_even_b0 (j := 5) rfl) (byt_of hW_even_b0 (j := 6) rfl) (byt_of hW_even_b0 (j := 7) rfl) rfl
theorem dW_even_8 : decode (mcc mW_even) 8 = .ok (.ifCond .eq 14, 3) := o153 (a := 0) (b := 14) (byt_of hW_even_b0 (j := 8) rfl) (byt_of hW_even_b0 (j := 9) rfl) (byt_of hW_even_b0 (j := 10) rfl) rfl
theorem dW_even_11 : decode (mcc mW_even) 11 = .ok (.aload_n 0, 1) := o42 (byt_of hW_even_b0 (j := 11) rfl)
theorem dW_even_12 : decode (mcc mW_even) 12 = .ok (.getfield 19, 3) := o180 (a := 0) (b := 19) (byt_of hW_even_b0 (j := 12) rfl) (byt_of hW_even_b0 (j := 13) rfl) (byt_of hW_even_b0 (j := 14) rfl) rfl
theorem dW_even_15 : decode (mcc mW_even) 15 = .ok (.iload_n 2, 1) := o28 (byt_of hW_even_b0 (j := 15) rfl)
theorem dW_even_16 : decode (mcc mW_even) 16 = .ok (.invokevirtual 143, 3) := o182 (a := 0) (b := 143) (byt_of hW_even_b0 (j := 16) rfl) (byt_of hW_even_b0 (j := 17) rfl) (byt_of hW_even_b0 (j := 18) rfl) rfl
theorem dW_even_19 : decode (mcc mW_even) 19 = .ok (.ifCond .ne 6, 3) := o154 (a := 0) (b := 6) (byt_of hW_even_b0 (j := 19) rfl) (byt_of hW_even_b0 (j := 20) rfl) (byt_of hW_even_b0 (j := 21) rfl) rfl
theorem dW_even_22 : decode (mcc mW_even) 22 = .ok (.bipush (-5), 2) := o16 (a := 251) (byt_of hW_even_b0 (j := 22) rfl) (byt_of hW_even_b0 (j := 23) rfl) rfl
theorem dW_even_24 : decode (mcc mW_even) 24 = .ok (.ireturn, 1) := o172 (byt_of hW_even_b0 (j := 24) rfl)
theorem dW_even_25 : decode (mcc mW_even) 25 = .ok (.aload_n 0, 1) := o42 (byt_of hW_even_b0 (j := 25) rfl)
theorem dW_even_26 : decode (mcc mW_even) 26 = .ok (.getfield 56, 3) := o180 (a := 0) (b := 56) (byt_of hW_even_b0 (j := 26) rfl) (byt_of hW_even_b0 (j := 27) rfl) (byt_of hW_even_b0 (j := 28) rfl) rfl
theorem dW_even_29 : decode (mcc mW_even) 29 = .ok (.aload_n 0, 1) := o42 (byt_of hW_even_b0 (j := 29) rfl)
theorem dW_even_30 : decode (mcc mW_even) 30 = .ok (.getfield 47, 3) := o180 (a := 0) (b := 47) (byt_of hW_even_b0 (j := 30) rfl) (byt_of hW_even_b0 (j := 31) rfl) (byt_of hW_even_b0 (j := 32) rfl) rfl
def bW_even_b1 : List Nat := [47, 180, 0, 127, 182, 0, 205, 42, 180, 0, 56, 27, 182, 1, 4, 153, 0, 15, 42, 180, 0, 56, 180, 1, 7, 28, 46, 167, 0, 5, 16, 253, 172]
theorem hW_even_b1 : BL (mcc mW_even) 32 bW_even_b1 := by decide +kernel
theorem dW_even_33 : decode (mcc mW_even) 33 = .ok (.getfield 127, 3) := o180 (a := 0) (b := 127) (byt_of hW_even_b1 (j := 1) rfl) (byt_of hW_even_b1 (j := 2) rfl) (byt_of hW_even_b1 (j := 3) rfl) rfl
theorem dW_even_36 : decode (mcc mW_even) 36 = .ok (.invokevirtual 205, 3) := o182 (a := 0) (b := 205) (byt_of hW_even_b1 (j := 4) rfl) (byt_of hW_even_b1 (j := 5) rfl) (byt_of hW_even_b1 (j := 6) rfl) rfl
theorem dW_even_39 : decode (mcc mW_even) 39 = .ok (.aload_n 0, 1) := o42 (byt_of hW_even_b1 (j := 7) rfl)
theorem dW_even_40 : decode (mcc mW_even) 40 = .ok (.getfield 56, 3) := o180 (a := 0) (b := 56) (byt_of hW_even_b1 (j := 8) rfl) (byt_of hW_even_b1 (j := 9) rfl) (byt_of hW_even_b1 (j := 10) rfl) rfl
theorem dW_even_43 : decode (mcc mW_even) 43 = .ok (.iload_n 1, 1) := o27 (byt_of hW_even_b1 (j := 11) rfl)
theorem dW_even_44 : decode (mcc mW_even) 44 = .ok (.invokevirtual 260, 3) := o182 (a := 1) (b := 4) (byt_of hW_even_b1 (j := 12) rfl) (byt_of hW_even_b1 (j := 13) rfl) (byt_of hW_even_b1 (j := 14) rfl) rfl
theorem dW_even_47 : decode (mcc mW_even) 47 = .ok (.ifCond .eq 15, 3) := o153 (a := 0) (b := 15) (byt_of hW_even_b1 (j := 15) rfl) (byt_of hW_even_b1 (j := 16) rfl) (byt_of hW_even_b1 (j := 17) rfl) rfl
theorem dW_even_50 : decode (mcc mW_even) 50 = .ok (.aload_n 0, 1) := o42 (byt_of hW_even_b1 (j := 18) rfl)
theorem dW_even_51 : decode (mcc mW_even) 51 = .ok (.getfield 56, 3) := o180 (a := 0) (b := 56) (byt_of hW_even_b1 (j := 19) rfl) (byt_of hW_even_b1 (j := 20) rfl) (byt_of hW_even_b1 (j := 21) rfl) rfl
theorem dW_even_54 : decode (mcc mW_even) 54 = .ok (.getfield 263, 3) := o180 (a := 1) (b := 7) (byt_of hW_even_b1 (j := 22) rfl) (byt_of hW_even_b1 (j := 23) rfl) (byt_of hW_even_b1 (j := 24) rfl) rfl
theorem dW_even_57 : decode (mcc mW_even) 57 = .ok (.iload_n 2, 1) := o28 (byt_of hW_even_b1 (j := 25) rfl)
theorem dW_even_58 : decode (mcc mW_even) 58 = .ok (.iaload, 1) := o46 (byt_of hW_even_b1 (j := 26) rfl)
theorem dW_even_59 : decode (mcc mW_even) 59 = .ok (.goto 5, 3) := o167 (a := 0) (b := 5) (byt_of hW_even_b1 (j := 27) rfl) (byt_of hW_even_b1 (j := 28) rfl) (byt_of hW_even_b1 (j := 29) rfl) rfl
theorem dW_even_62 : decode (mcc mW_even) 62 = .ok (.bipush (-3), 2) := o16 (a := 253) (byt_of hW_even_b1 (j := 30) rfl) (byt_of hW_even_b1 (j := 31) rfl) rfl
def bW_even_b2 : List Nat := [172]
theorem hW_even_b2 : BL (mcc mW_even) 64 bW_even_b2 := by decide +kernel
theorem dW_even_64 : decode (mcc mW_even) 64 = .ok (.ireturn, 1) := o172 (byt_of hW_even_b2 (j := 0) rfl)
def bW_hardest_b0 : List Nat := [42, 180, 0, 26, 27, 182, 0, 174, 154, 0, 6, 16, 251, 172, 42, 180, 0, 56, 42, 180, 0, 47, 180, 0, 127, 182, 0, 205, 42, 180, 0, 56, 27, 182, 1, 4, 154, 0]
theorem hW_hardest_b0 : BL (mcc mW_hardest) 0 bW_hardest_b0 := by decide +kernel
theorem dW_hardest_0 : decode (mcc mW_hardest) 0 = .ok (.aload_n 0, 1) := o42 (byt_of hW_hardest_b0 (j := 0) rfl)
theorem dW_hardest_1 : decode (mcc mW_hardest) 1 = .ok (.getfield 26, 3) := o180 (a := 0) (b := 26) (byt_of hW_hardest_b0 (j := 1) rfl) (byt_of hW_hardest_b0 (j := 2) rfl) (byt_of hW_hardest_b0 (j := 3) rfl) rfl
theorem dW_hardest_4 : decode (mcc mW_hardest) 4 = .ok (.iload_n 1, 1) := o27 (byt_of hW_hardest_b0 (j := 4) rfl)
theorem dW_hardest_5 : decode (mcc mW_hardest) 5 = .ok (.invokevirtual 174, 3) := o182 (a := 0) (b := 174) (byt_of hW_hardest_b0 (j := 5) rfl) (byt_of hW_hardest_b0 (j := 6) rfl) (byt_of hW_hardest_b0 (j := 7) rfl) rfl
theorem dW_hardest_8 : decode (mcc mW_hardest) 8 = .ok (.ifCond .ne 6, 3) := o154 (a := 0) (b := 6) (byt_of hW_hardest_b0 (j := 8) rfl) (byt_of hW_hardest_b0 (j := 9) rfl) (byt_of hW_hardest_b0 (j := 10) rfl) rfl
theorem dW_hardest_11 : decode (mcc mW_hardest) 11 = .ok (.bipush (-5), 2) := o16 (a := 251) (byt_of hW_hardest_b0 (j := 11) rfl) (byt_of hW_hardest_b0 (j := 12) rfl) rfl
theorem dW_hardest_13 : decode (mcc mW_hardest) 13 = .ok (.ireturn, 1) := o172 (byt_of hW_hardest_b0 (j := 13) rfl)
theorem dW_hardest_14 : decode (mcc mW_hardest) 14 = .ok (.aload_n 0, 1) := o42 (byt_of hW_hardest_b0 (j := 14) rfl)
theorem dW_hardest_15 : decode (mcc mW_hardest) 15 = .ok (.getfield 56, 3) := o180 (a := 0) (b := 56) (byt_of hW_hardest_b0 (j := 15) rfl) (byt_of hW_hardest_b0 (j := 16) rfl) (byt_of hW_hardest_b0 (j := 17) rfl) rfl
theorem dW_hardest_18 : decode (mcc mW_hardest) 18 = .ok (.aload_n 0, 1) := o42 (byt_of hW_hardest_b0 (j := 18) rfl)
theorem dW_hardest_19 : decode (mcc mW_hardest) 19 = .ok (.getfield 47, 3) := o180 (a := 0) (b := 47) (byt_of hW_hardest_b0 (j := 19) rfl) (byt_of hW_hardest_b0 (j := 20) rfl) (byt_of hW_hardest_b0 (j := 21) rfl) rfl
theorem dW_hardest_22 : decode (mcc mW_hardest) 22 = .ok (.getfield 127, 3) := o180 (a := 0) (b := 127) (byt_of hW_hardest_b0 (j := 22) rfl) (byt_of hW_hardest_b0 (j := 23) rfl) (byt_of hW_hardest_b0 (j := 24) rfl) rfl
theorem dW_hardest_25 : decode (mcc mW_hardest) 25 = .ok (.invokevirtual 205, 3) := o182 (a := 0) (b := 205) (byt_of hW_hardest_b0 (j := 25) rfl) (byt_of hW_hardest_b0 (j := 26) rfl) (byt_of hW_hardest_b0 (j := 27) rfl) rfl
theorem dW_hardest_28 : decode (mcc mW_hardest) 28 = .ok (.aload_n 0, 1) := o42 (byt_of hW_hardest_b0 (j := 28) rfl)
theorem dW_hardest_29 : decode (mcc mW_hardest) 29 = .ok (.getfield 56, 3) := o180 (a := 0) (b := 56) (byt_of hW_hardest_b0 (j := 29) rfl) (byt_of hW_hardest_b0 (j := 30) rfl) (byt_of hW_hardest_b0 (j := 31) rfl) rfl
def bW_hardest_b1 : List Nat := [27, 182, 1, 4, 154, 0, 5, 2, 172, 3, 61, 3, 62, 29, 42, 180, 0, 19, 180, 0, 121, 162, 0, 33, 28, 42, 180, 0, 19, 180, 0, 164, 29, 46, 42, 180, 0, 56]
theorem hW_hardest_b1 : BL (mcc mW_hardest) 32 bW_hardest_b1 := by decide +kernel
theorem dW_hardest_32 : decode (mcc mW_hardest) 32 = .ok (.iload_n 1, 1) := o27 (byt_of hW_hardest_b1 (j := 0) rfl)
theorem dW_hardest_33 : decode (mcc mW_hardest) 33 = .ok (.invokevirtual 260, 3) := o182 (a := 1) (b := 4) (byt_of hW_hardest_b1 (j := 1) rfl) (byt_of hW_hardest_b1 (j := 2) rfl) (byt_of hW_hardest_b1 (j := 3) rfl) rfl
theorem dW_hardest_36 : decode (mcc mW_hardest) 36 = .ok (.ifCond .ne 5, 3) := o154 (a := 0) (b := 5) (byt_of hW_hardest_b1 (j := 4) rfl) (byt_of hW_hardest_b1 (j := 5) rfl) (byt_of hW_hardest_b1 (j := 6) rfl) rfl
theorem dW_hardest_39 : decode (mcc mW_hardest) 39 = .ok (.iconst (-1), 1) := o2 (byt_of hW_hardest_b1 (j := 7) rfl)
theorem dW_hardest_40 : decode (mcc mW_hardest) 40 = .ok (.ireturn, 1) := o172 (byt_of hW_hardest_b1 (j := 8) rfl)
theorem dW_hardest_41 : decode (mcc mW_hardest) 41 = .ok (.iconst 0, 1) := o3 (byt_of hW_hardest_b1 (j := 9) rfl)
theorem dW_hardest_42 : decode (mcc mW_hardest) 42 = .ok (.istore_n 2, 1) := o61 (byt_of hW_hardest_b1 (j := 10) rfl)
theorem dW_hardest_43 : decode (mcc mW_hardest) 43 = .ok (.iconst 0, 1) := o3 (byt_of hW_hardest_b1 (j := 11) rfl)
theorem dW_hardest_44 : decode (mcc mW_hardest) 44 = .ok (.istore_n 3, 1) := o62 (byt_of hW_hardest_b1 (j := 12) rfl)
theorem dW_hardest_45 : decode (mcc mW_hardest) 45 = .ok (.iload_n 3, 1) := o29 (byt_of hW_hardest_b1 (j := 13) rfl)
theorem dW_hardest_46 : decode (mcc mW_hardest) 46 = .ok (.aload_n 0, 1) := o42 (byt_of hW_hardest_b1 (j := 14) rfl)
theorem dW_hardest_47 : decode (mcc mW_hardest) 47 = .ok (.getfield 19, 3) := o180 (a := 0) (b := 19) (byt_of hW_hardest_b1 (j := 15) rfl) (byt_of hW_hardest_b1 (j := 16) rfl) (byt_of hW_hardest_b1 (j := 17) rfl) rfl
theorem dW_hardest_50 : decode (mcc mW_hardest) 50 = .ok (.getfield 121, 3) := o180 (a := 0) (b := 121) (byt_of hW_hardest_b1 (j := 18) rfl) (byt_of hW_hardest_b1 (j := 19) rfl) (byt_of hW_hardest_b1 (j := 20) rfl) rfl
theorem dW_hardest_53 : decode (mcc mW_hardest) 53 = .ok (.if_icmp .ge 33, 3) := o162 (a := 0) (b := 33) (byt_of hW_hardest_b1 (j := 21) rfl) (byt_of hW_hardest_b1 (j := 22) rfl) (byt_of hW_hardest_b1 (j := 23) rfl) rfl
theorem dW_hardest_56 : decode (mcc mW_hardest) 56 = .ok (.iload_n 2, 1) := o28 (byt_of hW_hardest_b1 (j := 24) rfl)
theorem dW_hardest_57 : decode (mcc mW_hardest) 57 = .ok (.aload_n 0, 1) := o42 (byt_of hW_hardest_b1 (j := 25) rfl)
theorem dW_hardest_58 : decode (mcc mW_hardest) 58 = .ok (.getfield 19, 3) := o180 (a := 0) (b := 19) (byt_of hW_hardest_b1 (j := 26) rfl) (byt_of hW_hardest_b1 (j := 27) rfl) (byt_of hW_hardest_b1 (j := 28) rfl) rfl
theorem dW_hardest_61 : decode (mcc mW_hardest) 61 = .ok (.getfield 164, 3) := o180 (a := 0) (b := 164) (byt_of hW_hardest_b1 (j := 29) rfl) (byt_of hW_hardest_b1 (j := 30) rfl) (byt_of hW_hardest_b1 (j := 31) rfl) rfl
def bW_hardest_b2 : List Nat := [29, 46, 42, 180, 0, 56, 180, 1, 7, 29, 46, 104, 184, 1, 10, 61, 132, 3, 1, 167, 255, 218, 28, 172]
theorem hW_hardest_b2 : BL (mcc mW_hardest) 64 bW_hardest_b2 := by decide +kernel
theorem dW_hardest_64 : decode (mcc mW_hardest) 64 = .ok (.iload_n 3, 1) := o29 (byt_of hW_hardest_b2 (j := 0) rfl)
theorem dW_hardest_65 : decode (mcc mW_hardest) 65 = .ok (.iaload, 1) := o46 (byt_of hW_hardest_b2 (j := 1) rfl)
theorem dW_hardest_66 : decode (mcc mW_hardest) 66 = .ok (.aload_n 0, 1) := o42 (byt_of hW_hardest_b2 (j := 2) rfl)
theorem dW_hardest_67 : decode (mcc mW_hardest) 67 = .ok (.getfield 56, 3) := o180 (a := 0) (b := 56) (byt_of hW_hardest_b2 (j := 3) rfl) (byt_of hW_hardest_b2 (j := 4) rfl) (byt_of hW_hardest_b2 (j := 5) rfl) rfl
theorem dW_hardest_70 : decode (mcc mW_hardest) 70 = .ok (.getfield 263, 3) := o180 (a := 1) (b := 7) (byt_of hW_hardest_b2 (j := 6) rfl) (byt_of hW_hardest_b2 (j := 7) rfl) (byt_of hW_hardest_b2 (j := 8) rfl) rfl
theorem dW_hardest_73 : decode (mcc mW_hardest) 73 = .ok (.iload_n 3, 1) := o29 (byt_of hW_hardest_b2 (j := 9) rfl)
theorem dW_hardest_74 : decode (mcc mW_hardest) 74 = .ok (.iaload, 1) := o46 (byt_of hW_hardest_b2 (j := 10) rfl)
theorem dW_hardest_75 : decode (mcc mW_hardest) 75 = .ok (.imul, 1) := o104 (byt_of hW_hardest_b2 (j := 11) rfl)
theorem dW_hardest_76 : decode (mcc mW_hardest) 76 = .ok (.invokestatic 266, 3) := o184 (a := 1) (b := 10) (byt_of hW_hardest_b2 (j := 12) rfl) (byt_of hW_hardest_b2 (j := 13) rfl) (byt_of hW_hardest_b2 (j := 14) rfl) rfl
theorem dW_hardest_79 : decode (mcc mW_hardest) 79 = .ok (.istore_n 2, 1) := o61 (byt_of hW_hardest_b2 (j := 15) rfl)
theorem dW_hardest_80 : decode (mcc mW_hardest) 80 = .ok (.iinc 3 1, 3) := o132 (a := 3) (b := 1) (byt_of hW_hardest_b2 (j := 16) rfl) (byt_of hW_hardest_b2 (j := 17) rfl) (byt_of hW_hardest_b2 (j := 18) rfl) rfl
theorem dW_hardest_83 : decode (mcc mW_hardest) 83 = .ok (.goto (-38), 3) := o167 (a := 255) (b := 218) (byt_of hW_hardest_b2 (j := 19) rfl) (byt_of hW_hardest_b2 (j := 20) rfl) (byt_of hW_hardest_b2 (j := 21) rfl) rfl
theorem dW_hardest_86 : decode (mcc mW_hardest) 86 = .ok (.iload_n 2, 1) := o28 (byt_of hW_hardest_b2 (j := 22) rfl)
theorem dW_hardest_87 : decode (mcc mW_hardest) 87 = .ok (.ireturn, 1) := o172 (byt_of hW_hardest_b2 (j := 23) rfl)
def bW_flee_b0 : List Nat := [42, 180, 0, 19, 27, 182, 0, 143, 154, 0, 6, 16, 251, 172, 28, 3, 4, 184, 0, 101, 154, 0, 6, 16, 249, 172, 42, 180, 0, 56, 42, 180, 0, 47, 180, 0, 127, 182]
theorem hW_flee_b0 : BL (mcc mW_flee) 0 bW_flee_b0 := by decide +kernel
theorem dW_flee_0 : decode (mcc mW_flee) 0 = .ok (.aload_n 0, 1) := o42 (byt_of hW_flee_b0 (j := 0) rfl)
theorem dW_flee_1 : decode (mcc mW_flee) 1 = .ok (.getfield 19, 3) := o180 (a := 0) (b := 19) (byt_of hW_flee_b0 (j := 1) rfl) (byt_of hW_flee_b0 (j := 2) rfl) (byt_of hW_flee_b0 (j := 3) rfl) rfl
theorem dW_flee_4 : decode (mcc mW_flee) 4 = .ok (.iload_n 1, 1) := o27 (byt_of hW_flee_b0 (j := 4) rfl)
theorem dW_flee_5 : decode (mcc mW_flee) 5 = .ok (.invokevirtual 143, 3) := o182 (a := 0) (b := 143) (byt_of hW_flee_b0 (j := 5) rfl) (byt_of hW_flee_b0 (j := 6) rfl) (byt_of hW_flee_b0 (j := 7) rfl) rfl
theorem dW_flee_8 : decode (mcc mW_flee) 8 = .ok (.ifCond .ne 6, 3) := o154 (a := 0) (b := 6) (byt_of hW_flee_b0 (j := 8) rfl) (byt_of hW_flee_b0 (j := 9) rfl) (byt_of hW_flee_b0 (j := 10) rfl) rfl
theorem dW_flee_11 : decode (mcc mW_flee) 11 = .ok (.bipush (-5), 2) := o16 (a := 251) (byt_of hW_flee_b0 (j := 11) rfl) (byt_of hW_flee_b0 (j := 12) rfl) rfl
theorem dW_flee_13 : decode (mcc mW_flee) 13 = .ok (.ireturn, 1) := o172 (byt_of hW_flee_b0 (j := 13) rfl)
theorem dW_flee_14 : decode (mcc mW_flee) 14 = .ok (.iload_n 2, 1) := o28 (byt_of hW_flee_b0 (j := 14) rfl)
theorem dW_flee_15 : decode (mcc mW_flee) 15 = .ok (.iconst 0, 1) := o3 (byt_of hW_flee_b0 (j := 15) rfl)
theorem dW_flee_16 : decode (mcc mW_flee) 16 = .ok (.iconst 1, 1) := o4 (byt_of hW_flee_b0 (j := 16) rfl)
theorem dW_flee_17 : decode (mcc mW_flee) 17 = .ok (.invokestatic 101, 3) := o184 (a := 0) (b := 101) (byt_of hW_flee_b0 (j := 17) rfl) (byt_of hW_flee_b0 (j := 18) rfl) (byt_of hW_flee_b0 (j := 19) rfl) rfl
theorem dW_flee_20 : decode (mcc mW_flee) 20 = .ok (.ifCond .ne 6, 3) := o154 (a := 0) (b := 6) (byt_of hW_flee_b0 (j := 20) rfl) (byt_of hW_flee_b0 (j := 21) rfl) (byt_of hW_flee_b0 (j := 22) rfl) rfl
theorem dW_flee_23 : decode (mcc mW_flee) 23 = .ok (.bipush (-7), 2) := o16 (a := 249) (byt_of hW_flee_b0 (j := 23) rfl) (byt_of hW_flee_b0 (j := 24) rfl) rfl
theorem dW_flee_25 : decode (mcc mW_flee) 25 = .ok (.ireturn, 1) := o172 (byt_of hW_flee_b0 (j := 25) rfl)
theorem dW_flee_26 : decode (mcc mW_flee) 26 = .ok (.aload_n 0, 1) := o42 (byt_of hW_flee_b0 (j := 26) rfl)
theorem dW_flee_27 : decode (mcc mW_flee) 27 = .ok (.getfield 56, 3) := o180 (a := 0) (b := 56) (byt_of hW_flee_b0 (j := 27) rfl) (byt_of hW_flee_b0 (j := 28) rfl) (byt_of hW_flee_b0 (j := 29) rfl) rfl
theorem dW_flee_30 : decode (mcc mW_flee) 30 = .ok (.aload_n 0, 1) := o42 (byt_of hW_flee_b0 (j := 30) rfl)
theorem dW_flee_31 : decode (mcc mW_flee) 31 = .ok (.getfield 47, 3) := o180 (a := 0) (b := 47) (byt_of hW_flee_b0 (j := 31) rfl) (byt_of hW_flee_b0 (j := 32) rfl) (byt_of hW_flee_b0 (j := 33) rfl) rfl
def bW_flee_b1 : List Nat := [0, 47, 180, 0, 127, 182, 0, 205, 42, 180, 0, 56, 27, 182, 1, 15, 42, 180, 0, 56, 180, 1, 18, 184, 1, 21, 62, 28, 154, 0, 7, 29, 167, 0, 12, 42, 180, 0]
theorem hW_flee_b1 : BL (mcc mW_flee) 32 bW_flee_b1 := by decide +kernel
theorem dW_flee_34 : decode (mcc mW_flee) 34 = .ok (.getfield 127, 3) := o180 (a := 0) (b := 127) (byt_of hW_flee_b1 (j := 2) rfl) (byt_of hW_flee_b1 (j := 3) rfl) (byt_of hW_flee_b1 (j := 4) rfl) rfl
theorem dW_flee_37 : decode (mcc mW_flee) 37 = .ok (.invokevirtual 205, 3) := o182 (a := 0) (b := 205) (byt_of hW_flee_b1 (j := 5) rfl) (byt_of hW_flee_b1 (j := 6) rfl) (byt_of hW_flee_b1 (j := 7) rfl) rfl
theorem dW_flee_40 : decode (mcc mW_flee) 40 = .ok (.aload_n 0, 1) := o42 (byt_of hW_flee_b1 (j := 8) rfl)
theorem dW_flee_41 : decode (mcc mW_flee) 41 = .ok (.getfield 56, 3) := o180 (a := 0) (b := 56) (byt_of hW_flee_b1 (j := 9) rfl) (byt_of hW_flee_b1 (j := 10) rfl) (byt_of hW_flee_b1 (j := 11) rfl) rfl
theorem dW_flee_44 : decode (mcc mW_flee) 44 = .ok (.iload_n 1, 1) := o27 (byt_of hW_flee_b1 (j := 12) rfl)
theorem dW_flee_45 : decode (mcc mW_flee) 45 = .ok (.invokevirtual 271, 3) := o182 (a := 1) (b := 15) (byt_of hW_flee_b1 (j := 13) rfl) (byt_of hW_flee_b1 (j := 14) rfl) (byt_of hW_flee_b1 (j := 15) rfl) rfl
theorem dW_flee_48 : decode (mcc mW_flee) 48 = .ok (.aload_n 0, 1) := o42 (byt_of hW_flee_b1 (j := 16) rfl)
theorem dW_flee_49 : decode (mcc mW_flee) 49 = .ok (.getfield 56, 3) := o180 (a := 0) (b := 56) (byt_of hW_flee_b1 (j := 17) rfl) (byt_of hW_flee_b1 (j := 18) rfl) (byt_of hW_flee_b1 (j := 19) rfl) rfl
theorem dW_flee_52 : decode (mcc mW_flee) 52 = .ok (.getfield 274, 3) := o180 (a := 1) (b := 18) (byt_of hW_flee_b1 (j := 20) rfl) (byt_of hW_flee_b1 (j := 21) rfl) (byt_of hW_flee_b1 (j := 22) rfl) rfl
theorem dW_flee_55 : decode (mcc mW_flee) 55 = .ok (.invokestatic 277, 3) := o184 (a := 1) (b := 21) (byt_of hW_flee_b1 (j := 23) rfl) (byt_of hW_flee_b1 (j := 24) rfl) (byt_of hW_flee_b1 (j := 25) rfl) rfl
theorem dW_flee_58 : decode (mcc mW_flee) 58 = .ok (.istore_n 3, 1) := o62 (byt_of hW_flee_b1 (j := 26) rfl)
theorem dW_flee_59 : decode (mcc mW_flee) 59 = .ok (.iload_n 2, 1) := o28 (byt_of hW_flee_b1 (j := 27) rfl)
theorem dW_flee_60 : decode (mcc mW_flee) 60 = .ok (.ifCond .ne 7, 3) := o154 (a := 0) (b := 7) (byt_of hW_flee_b1 (j := 28) rfl) (byt_of hW_flee_b1 (j := 29) rfl) (byt_of hW_flee_b1 (j := 30) rfl) rfl
theorem dW_flee_63 : decode (mcc mW_flee) 63 = .ok (.iload_n 3, 1) := o29 (byt_of hW_flee_b1 (j := 31) rfl)
def bW_flee_b2 : List Nat := [167, 0, 12, 42, 180, 0, 56, 180, 1, 18, 29, 46, 172]
theorem hW_flee_b2 : BL (mcc mW_flee) 64 bW_flee_b2 := by decide +kernel
theorem dW_flee_64 : decode (mcc mW_flee) 64 = .ok (.goto 12, 3) := o167 (a := 0) (b := 12) (byt_of hW_flee_b2 (j := 0) rfl) (byt_of hW_flee_b2 (j := 1) rfl) (byt_of hW_flee_b2 (j := 2) rfl) rfl
theorem dW_flee_67 : decode (mcc mW_flee) 67 = .ok (.aload_n 0, 1) := o42 (byt_of hW_flee_b2 (j := 3) rfl)
theorem dW_flee_68 : decode (mcc mW_flee) 68 = .ok (.getfield 56, 3) := o180 (a := 0) (b := 56) (byt_of hW_flee_b2 (j := 4) rfl) (byt_of hW_flee_b2 (j := 5) rfl) (byt_of hW_flee_b2 (j := 6) rfl) rfl
theorem dW_flee_71 : decode (mcc mW_flee) 71 = .ok (.getfield 274, 3) := o180 (a := 1) (b := 18) (byt_of hW_flee_b2 (j := 7) rfl) (byt_of hW_flee_b2 (j := 8) rfl) (byt_of hW_flee_b2 (j := 9) rfl) rfl
theorem dW_flee_74 : decode (mcc mW_flee) 74 = .ok (.iload_n 3, 1) := o29 (byt_of hW_flee_b2 (j := 10) rfl)
theorem dW_flee_75 : decode (mcc mW_flee) 75 = .ok (.iaload, 1) := o46 (byt_of hW_flee_b2 (j := 11) rfl)
theorem dW_flee_76 : decode (mcc mW_flee) 76 = .ok (.ireturn, 1) := o172 (byt_of hW_flee_b2 (j := 12) rfl)
def bW_send_b0 : List Nat := [42, 180, 0, 19, 27, 182, 0, 143, 154, 0, 6, 16, 251, 172, 28, 3, 4, 184, 0, 101, 154, 0, 6, 16, 249, 172, 42, 180, 0, 56, 42, 180, 0, 47, 180, 0, 127, 182]
theorem hW_send_b0 : BL (mcc mW_send) 0 bW_send_b0 := by decide +kernel
theorem dW_send_0 : decode (mcc mW_send) 0 = .ok (.aload_n 0, 1) := o42 (byt_of hW_send_b0 (j := 0) rfl)
theorem dW_send_1 : decode (mcc mW_send) 1 = .ok (.getfield 19, 3) := o180 (a := 0) (b := 19) (byt_of hW_send_b0 (j := 1) rfl) (byt_of hW_send_b0 (j := 2) rfl) (byt_of hW_send_b0 (j := 3) rfl) rfl
theorem dW_send_4 : decode (mcc mW_send) 4 = .ok (.iload_n 1, 1) := o27 (byt_of hW_send_b0 (j := 4) rfl)
theorem dW_send_5 : decode (mcc mW_send) 5 = .ok (.invokevirtual 143, 3) := o182 (a := 0) (b := 143) (byt_of hW_send_b0 (j := 5) rfl) (byt_of hW_send_b0 (j := 6) rfl) (byt_of hW_send_b0 (j := 7) rfl) rfl
theorem dW_send_8 : decode (mcc mW_send) 8 = .ok (.ifCond .ne 6, 3) := o154 (a := 0) (b := 6) (byt_of hW_send_b0 (j := 8) rfl) (byt_of hW_send_b0 (j := 9) rfl) (byt_of hW_send_b0 (j := 10) rfl) rfl
theorem dW_send_11 : decode (mcc mW_send) 11 = .ok (.bipush (-5), 2) := o16 (a := 251) (byt_of hW_send_b0 (j := 11) rfl) (byt_of hW_send_b0 (j := 12) rfl) rfl
theorem dW_send_13 : decode (mcc mW_send) 13 = .ok (.ireturn, 1) := o172 (byt_of hW_send_b0 (j := 13) rfl)
theorem dW_send_14 : decode (mcc mW_send) 14 = .ok (.iload_n 2, 1) := o28 (byt_of hW_send_b0 (j := 14) rfl)
theorem dW_send_15 : decode (mcc mW_send) 15 = .ok (.iconst 0, 1) := o3 (byt_of hW_send_b0 (j := 15) rfl)
theorem dW_send_16 : decode (mcc mW_send) 16 = .ok (.iconst 1, 1) := o4 (byt_of hW_send_b0 (j := 16) rfl)
theorem dW_send_17 : decode (mcc mW_send) 17 = .ok (.invokestatic 101, 3) := o184 (a := 0) (b := 101) (byt_of hW_send_b0 (j := 17) rfl) (byt_of hW_send_b0 (j := 18) rfl) (byt_of hW_send_b0 (j := 19) rfl) rfl
theorem dW_send_20 : decode (mcc mW_send) 20 = .ok (.ifCond .ne 6, 3) := o154 (a := 0) (b := 6) (byt_of hW_send_b0 (j := 20) rfl) (byt_of hW_send_b0 (j := 21) rfl) (byt_of hW_send_b0 (j := 22) rfl) rfl
theorem dW_send_23 : decode (mcc mW_send) 23 = .ok (.bipush (-7), 2) := o16 (a := 249) (byt_of hW_send_b0 (j := 23) rfl) (byt_of hW_send_b0 (j := 24) rfl) rfl
theorem dW_send_25 : decode (mcc mW_send) 25 = .ok (.ireturn, 1) := o172 (byt_of hW_send_b0 (j := 25) rfl)
theorem dW_send_26 : decode (mcc mW_send) 26 = .ok (.aload_n 0, 1) := o42 (byt_of hW_send_b0 (j := 26) rfl)
theorem dW_send_27 : decode (mcc mW_send) 27 = .ok (.getfield 56, 3) := o180 (a := 0) (b := 56) (byt_of hW_send_b0 (j := 27) rfl) (byt_of hW_send_b0 (j := 28) rfl) (byt_of hW_send_b0 (j := 29) rfl) rfl
theorem dW_send_30 : decode (mcc mW_send) 30 = .ok (.aload_n 0, 1) := o42 (byt_of hW_send_b0 (j := 30) rfl)
theorem dW_send_31 : decode (mcc mW_send) 31 = .ok (.getfield 47, 3) := o180 (a := 0) (b := 47) (byt_of hW_send_b0 (j := 31) rfl) (byt_of hW_send_b0 (j := 32) rfl) (byt_of hW_send_b0 (j := 33) rfl) rfl
def bW_send_b1 : List Nat := [0, 47, 180, 0, 127, 182, 0, 205, 42, 180, 0, 56, 27, 182, 1, 15, 42, 180, 0, 56, 180, 1, 18, 184, 1, 25, 62, 28, 154, 0, 7, 29, 167, 0, 12, 42, 180, 0]
theorem hW_send_b1 : BL (mcc mW_send) 32 bW_send_b1 := by decide +kernel
theorem dW_send_34 : decode (mcc mW_send) 34 = .ok (.getfield 127, 3) := o180 (a := 0) (b := 127) (byt_of hW_send_b1 (j := 2) rfl) (byt_of hW_send_b1 (j := 3) rfl) (byt_of hW_send_b1 (j := 4) rfl) rfl
theorem dW_send_37 : decode (mcc mW_send) 37 = .ok (.invokevirtual 205, 3) := o182 (a := 0) (b := 205) (byt_of hW_send_b1 (j := 5) rfl) (byt_of hW_send_b1 (j := 6) rfl) (byt_of hW_send_b1 (j := 7) rfl) rfl
theorem dW_send_40 : decode (mcc mW_send) 40 = .ok (.aload_n 0, 1) := o42 (byt_of hW_send_b1 (j := 8) rfl)
theorem dW_send_41 : decode (mcc mW_send) 41 = .ok (.getfield 56, 3) := o180 (a := 0) (b := 56) (byt_of hW_send_b1 (j := 9) rfl) (byt_of hW_send_b1 (j := 10) rfl) (byt_of hW_send_b1 (j := 11) rfl) rfl
theorem dW_send_44 : decode (mcc mW_send) 44 = .ok (.iload_n 1, 1) := o27 (byt_of hW_send_b1 (j := 12) rfl)
theorem dW_send_45 : decode (mcc mW_send) 45 = .ok (.invokevirtual 271, 3) := o182 (a := 1) (b := 15) (byt_of hW_send_b1 (j := 13) rfl) (byt_of hW_send_b1 (j := 14) rfl) (byt_of hW_send_b1 (j := 15) rfl) rfl
theorem dW_send_48 : decode (mcc mW_send) 48 = .ok (.aload_n 0, 1) := o42 (byt_of hW_send_b1 (j := 16) rfl)
theorem dW_send_49 : decode (mcc mW_send) 49 = .ok (.getfield 56, 3) := o180 (a := 0) (b := 56) (byt_of hW_send_b1 (j := 17) rfl) (byt_of hW_send_b1 (j := 18) rfl) (byt_of hW_send_b1 (j := 19) rfl) rfl
theorem dW_send_52 : decode (mcc mW_send) 52 = .ok (.getfield 274, 3) := o180 (a := 1) (b := 18) (byt_of hW_send_b1 (j := 20) rfl) (byt_of hW_send_b1 (j := 21) rfl) (byt_of hW_send_b1 (j := 22) rfl) rfl
theorem dW_send_55 : decode (mcc mW_send) 55 = .ok (.invokestatic 281, 3) := o184 (a := 1) (b := 25) (byt_of hW_send_b1 (j := 23) rfl) (byt_of hW_send_b1 (j := 24) rfl) (byt_of hW_send_b1 (j := 25) rfl) rfl
theorem dW_send_58 : decode (mcc mW_send) 58 = .ok (.istore_n 3, 1) := o62 (byt_of hW_send_b1 (j := 26) rfl)
theorem dW_send_59 : decode (mcc mW_send) 59 = .ok (.iload_n 2, 1) := o28 (byt_of hW_send_b1 (j := 27) rfl)
theorem dW_send_60 : decode (mcc mW_send) 60 = .ok (.ifCond .ne 7, 3) := o154 (a := 0) (b := 7) (byt_of hW_send_b1 (j := 28) rfl) (byt_of hW_send_b1 (j := 29) rfl) (byt_of hW_send_b1 (j := 30) rfl) rfl
theorem dW_send_63 : decode (mcc mW_send) 63 = .ok (.iload_n 3, 1) := o29 (byt_of hW_send_b1 (j := 31) rfl)
def bW_send_b2 : List Nat := [167, 0, 12, 42, 180, 0, 56, 180, 1, 18, 29, 46, 172]
theorem hW_send_b2 : BL (mcc mW_send) 64 bW_send_b2 := by decide +kernel
theorem dW_send_64 : decode (mcc mW_send) 64 = .ok (.goto 12, 3) := o167 (a := 0) (b := 12) (byt_of hW_send_b2 (j := 0) rfl) (byt_of hW_send_b2 (j := 1) rfl) (byt_of hW_send_b2 (j := 2) rfl) rfl
theorem dW_send_67 : decode (mcc mW_send) 67 = .ok (.aload_n 0, 1) := o42 (byt_of hW_send_b2 (j := 3) rfl)
theorem dW_send_68 : decode (mcc mW_send) 68 = .ok (.getfield 56, 3) := o180 (a := 0) (b := 56) (byt_of hW_send_b2 (j := 4) rfl) (byt_of hW_send_b2 (j := 5) rfl) (byt_of hW_send_b2 (j := 6) rfl) rfl
theorem dW_send_71 : decode (mcc mW_send) 71 = .ok (.getfield 274, 3) := o180 (a := 1) (b := 18) (byt_of hW_send_b2 (j := 7) rfl) (byt_of hW_send_b2 (j := 8) rfl) (byt_of hW_send_b2 (j := 9) rfl) rfl
theorem dW_send_74 : decode (mcc mW_send) 74 = .ok (.iload_n 3, 1) := o29 (byt_of hW_send_b2 (j := 10) rfl)
theorem dW_send_75 : decode (mcc mW_send) 75 = .ok (.iaload, 1) := o46 (byt_of hW_send_b2 (j := 11) rfl)
theorem dW_send_76 : decode (mcc mW_send) 76 = .ok (.ireturn, 1) := o172 (byt_of hW_send_b2 (j := 12) rfl)
def bW_rest_b0 : List Nat := [27, 3, 16, 6, 184, 0, 101, 154, 0, 6, 16, 254, 172, 3, 61, 3, 62, 29, 16, 6, 163, 0, 58, 28, 54, 4, 3, 54, 5, 21, 5, 42, 180, 0, 19, 180, 0, 121]
theorem hW_rest_b0 : BL (mcc mW_rest) 0 bW_rest_b0 := by decide +kernel
theorem dW_rest_0 : decode (mcc mW_rest) 0 = .ok (.iload_n 1, 1) := o27 (byt_of hW_rest_b0 (j := 0) rfl)
theorem dW_rest_1 : decode (mcc mW_rest) 1 = .ok (.iconst 0, 1) := o3 (byt_of hW_rest_b0 (j := 1) rfl)
theorem dW_rest_2 : decode (mcc mW_rest) 2 = .ok (.bipush 6, 2) := o16 (a := 6) (byt_of hW_rest_b0 (j := 2) rfl) (byt_of hW_rest_b0 (j := 3) rfl) rfl
theorem dW_rest_4 : decode (mcc mW_rest) 4 = .ok (.invokestatic 101, 3) := o184 (a := 0) (b := 101) (byt_of hW_rest_b0 (j := 4) rfl) (byt_of hW_rest_b0 (j := 5) rfl) (byt_of hW_rest_b0 (j := 6) rfl) rfl
theorem dW_rest_7 : decode (mcc mW_rest) 7 = .ok (.ifCond .ne 6, 3) := o154 (a := 0) (b := 6) (byt_of hW_rest_b0 (j := 7) rfl) (byt_of hW_rest_b0 (j := 8) rfl) (byt_of hW_rest_b0 (j := 9) rfl) rfl
theorem dW_rest_10 : decode (mcc mW_rest) 10 = .ok (.bipush (-2), 2) := o16 (a := 254) (byt_of hW_rest_b0 (j := 10) rfl) (byt_of hW_rest_b0 (j := 11) rfl) rfl
theorem dW_rest_12 : decode (mcc mW_rest) 12 = .ok (.ireturn, 1) := o172 (byt_of hW_rest_b0 (j := 12) rfl)
theorem dW_rest_13 : decode (mcc mW_rest) 13 = .ok (.iconst 0, 1) := o3 (byt_of hW_rest_b0 (j := 13) rfl)
theorem dW_rest_14 : decode (mcc mW_rest) 14 = .ok (.istore_n 2, 1) := o61 (byt_of hW_rest_b0 (j := 14) rfl)
theorem dW_rest_15 : decode (mcc mW_rest) 15 = .ok (.iconst 0, 1) := o3 (byt_of hW_rest_b0 (j := 15) rfl)
theorem dW_rest_16 : decode (mcc mW_rest) 16 = .ok (.istore_n 3, 1) := o62 (byt_of hW_rest_b0 (j := 16) rfl)
theorem dW_rest_17 : decode (mcc mW_rest) 17 = .ok (.iload_n 3, 1) := o29 (byt_of hW_rest_b0 (j := 17) rfl)
theorem dW_rest_18 : decode (mcc mW_rest) 18 = .ok (.bipush 6, 2) := o16 (a := 6) (byt_of hW_rest_b0 (j := 18) rfl) (byt_of hW_rest_b0 (j := 19) rfl) rfl
theorem dW_rest_20 : decode (mcc mW_rest) 20 = .ok (.if_icmp .gt 58, 3) := o163 (a := 0) (b := 58) (byt_of hW_rest_b0 (j := 20) rfl) (byt_of hW_rest_b0 (j := 21) rfl) (byt_of hW_rest_b0 (j := 22) rfl) rfl
theorem dW_rest_23 : decode (mcc mW_rest) 23 = .ok (.iload_n 2, 1) := o28 (byt_of hW_rest_b0 (j := 23) rfl)
theorem dW_rest_24 : decode (mcc mW_rest) 24 = .ok (.istore 4, 2) := o54 (a := 4) (byt_of hW_rest_b0 (j := 24) rfl) (byt_of hW_rest_b0 (j := 25) rfl)
theorem dW_rest_26 : decode (mcc mW_rest) 26 = .ok (.iconst 0, 1) := o3 (byt_of hW_rest_b0 (j := 26) rfl)
theorem dW_rest_27 : decode (mcc mW_rest) 27 = .ok (.istore 5, 2) := o54 (a := 5) (byt_of hW_rest_b0 (j := 27) rfl) (byt_of hW_rest_b0 (j := 28) rfl)
theorem dW_rest_29 : decode (mcc mW_rest) 29 = .ok (.iload 5, 2) := o21 (a := 5) (byt_of hW_rest_b0 (j := 29) rfl) (byt_of hW_rest_b0 (j := 30) rfl)
theorem dW_rest_31 : decode (mcc mW_rest) 31 = .ok (.aload_n 0, 1) := o42 (byt_of hW_rest_b0 (j := 31) rfl)
def bW_rest_b1 : List Nat := [180, 0, 19, 180, 0, 121, 162, 0, 26, 28, 27, 162, 0, 21, 42, 21, 5, 182, 1, 28, 153, 0, 6, 132, 2, 1, 132, 5, 1, 167, 255, 224, 28, 21, 4, 160, 0, 5]
theorem hW_rest_b1 : BL (mcc mW_rest) 32 bW_rest_b1 := by decide +kernel
theorem dW_rest_32 : decode (mcc mW_rest) 32 = .ok (.getfield 19, 3) := o180 (a := 0) (b := 19) (byt_of hW_rest_b1 (j := 0) rfl) (byt_of hW_rest_b1 (j := 1) rfl) (byt_of hW_rest_b1 (j := 2) rfl) rfl
theorem dW_rest_35 : decode (mcc mW_rest) 35 = .ok (.getfield 121, 3) := o180 (a := 0) (b := 121) (byt_of hW_rest_b1 (j := 3) rfl) (byt_of hW_rest_b1 (j := 4) rfl) (byt_of hW_rest_b1 (j := 5) rfl) rfl
theorem dW_rest_38 : decode (mcc mW_rest) 38 = .ok (.if_icmp .ge 26, 3) := o162 (a := 0) (b := 26) (byt_of hW_rest_b1 (j := 6) rfl) (byt_of hW_rest_b1 (j := 7) rfl) (byt_of hW_rest_b1 (j := 8) rfl) rfl
theorem dW_rest_41 : decode (mcc mW_rest) 41 = .ok (.iload_n 2, 1) := o28 (byt_of hW_rest_b1 (j := 9) rfl)
theorem dW_rest_42 : decode (mcc mW_rest) 42 = .ok (.iload_n 1, 1) := o27 (byt_of hW_rest_b1 (j := 10) rfl)
theorem dW_rest_43 : decode (mcc mW_rest) 43 = .ok (.if_icmp .ge 21, 3) := o162 (a := 0) (b := 21) (byt_of hW_rest_b1 (j := 11) rfl) (byt_of hW_rest_b1 (j := 12) rfl) (byt_of hW_rest_b1 (j := 13) rfl) rfl
theorem dW_rest_46 : decode (mcc mW_rest) 46 = .ok (.aload_n 0, 1) := o42 (byt_of hW_rest_b1 (j := 14) rfl)
theorem dW_rest_47 : decode (mcc mW_rest) 47 = .ok (.iload 5, 2) := o21 (a := 5) (byt_of hW_rest_b1 (j := 15) rfl) (byt_of hW_rest_b1 (j := 16) rfl)
theorem dW_rest_49 : decode (mcc mW_rest) 49 = .ok (.invokevirtual 284, 3) := o182 (a := 1) (b := 28) (byt_of hW_rest_b1 (j := 17) rfl) (byt_of hW_rest_b1 (j := 18) rfl) (byt_of hW_rest_b1 (j := 19) rfl) rfl
theorem dW_rest_52 : decode (mcc mW_rest) 52 = .ok (.ifCond .eq 6, 3) := o153 (a := 0) (b := 6) (byt_of hW_rest_b1 (j := 20) rfl) (byt_of hW_rest_b1 (j := 21) rfl) (byt_of hW_rest_b1 (j := 22) rfl) rfl
theorem dW_rest_55 : decode (mcc mW_rest) 55 = .ok (.iinc 2 1, 3) := o132 (a := 2) (b := 1) (byt_of hW_rest_b1 (j := 23) rfl) (byt_of hW_rest_b1 (j := 24) rfl) (byt_of hW_rest_b1 (j := 25) rfl) rfl
theorem dW_rest_58 : decode (mcc mW_rest) 58 = .ok (.iinc 5 1, 3) := o132 (a := 5) (b := 1) (byt_of hW_rest_b1 (j := 26) rfl) (byt_of hW_rest_b1 (j := 27) rfl) (byt_of hW_rest_b1 (j := 28) rfl) rfl
theorem dW_rest_61 : decode (mcc mW_rest) 61 = .ok (.goto (-32), 3) := o167 (a := 255) (b := 224) (byt_of hW_rest_b1 (j := 29) rfl) (byt_of hW_rest_b1 (j := 30) rfl) (byt_of hW_rest_b1 (j := 31) rfl) rfl
def bW_rest_b2 : List Nat := [28, 21, 4, 160, 0, 5, 28, 172, 132, 3, 1, 167, 255, 198, 28, 172]
theorem hW_rest_b2 : BL (mcc mW_rest) 64 bW_rest_b2 := by decide +kernel
theorem dW_rest_64 : decode (mcc mW_rest) 64 = .ok (.iload_n 2, 1) := o28 (byt_of hW_rest_b2 (j := 0) rfl)
theorem dW_rest_65 : decode (mcc mW_rest) 65 = .ok (.iload 4, 2) := o21 (a := 4) (byt_of hW_rest_b2 (j := 1) rfl) (byt_of hW_rest_b2 (j := 2) rfl)
theorem dW_rest_67 : decode (mcc mW_rest) 67 = .ok (.if_icmp .ne 5, 3) := o160 (a := 0) (b := 5) (byt_of hW_rest_b2 (j := 3) rfl) (byt_of hW_rest_b2 (j := 4) rfl) (byt_of hW_rest_b2 (j := 5) rfl) rfl
theorem dW_rest_70 : decode (mcc mW_rest) 70 = .ok (.iload_n 2, 1) := o28 (byt_of hW_rest_b2 (j := 6) rfl)
theorem dW_rest_71 : decode (mcc mW_rest) 71 = .ok (.ireturn, 1) := o172 (byt_of hW_rest_b2 (j := 7) rfl)
theorem dW_rest_72 : decode (mcc mW_rest) 72 = .ok (.iinc 3 1, 3) := o132 (a := 3) (b := 1) (byt_of hW_rest_b2 (j := 8) rfl) (byt_of hW_rest_b2 (j := 9) rfl) (byt_of hW_rest_b2 (j := 10) rfl) rfl
theorem dW_rest_75 : decode (mcc mW_rest) 75 = .ok (.goto (-58), 3) := o167 (a := 255) (b := 198) (byt_of hW_rest_b2 (j := 11) rfl) (byt_of hW_rest_b2 (j := 12) rfl) (byt_of hW_rest_b2 (j := 13) rfl) rfl
theorem dW_rest_78 : decode (mcc mW_rest) 78 = .ok (.iload_n 2, 1) := o28 (byt_of hW_rest_b2 (j := 14) rfl)
theorem dW_rest_79 : decode (mcc mW_rest) 79 = .ok (.ireturn, 1) := o172 (byt_of hW_rest_b2 (j := 15) rfl)
def bW_chance_b0 : List Nat := [42, 180, 0, 19, 27, 182, 0, 143, 153, 0, 14, 42, 180, 0, 26, 28, 182, 0, 174, 154, 0, 7, 20, 1, 31, 173, 42, 180, 0, 56, 42, 180, 0, 47, 180, 0, 127, 182]
theorem hW_chance_b0 : BL (mcc mW_chance) 0 bW_chance_b0 := by decide +kernel
theorem dW_chance_0 : decode (mcc mW_chance) 0 = .ok (.aload_n 0, 1) := o42 (byt_of hW_chance_b0 (j := 0) rfl)
theorem dW_chance_1 : decode (mcc mW_chance) 1 = .ok (.getfield 19, 3) := o180 (a := 0) (b := 19) (byt_of hW_chance_b0 (j := 1) rfl) (byt_of hW_chance_b0 (j := 2) rfl) (byt_of hW_chance_b0 (j := 3) rfl) rfl
theorem dW_chance_4 : decode (mcc mW_chance) 4 = .ok (.iload_n 1, 1) := o27 (byt_of hW_chance_b0 (j := 4) rfl)
theorem dW_chance_5 : decode (mcc mW_chance) 5 = .ok (.invokevirtual 143, 3) := o182 (a := 0) (b := 143) (byt_of hW_chance_b0 (j := 5) rfl) (byt_of hW_chance_b0 (j := 6) rfl) (byt_of hW_chance_b0 (j := 7) rfl) rfl
theorem dW_chance_8 : decode (mcc mW_chance) 8 = .ok (.ifCond .eq 14, 3) := o153 (a := 0) (b := 14) (byt_of hW_chance_b0 (j := 8) rfl) (byt_of hW_chance_b0 (j := 9) rfl) (byt_of hW_chance_b0 (j := 10) rfl) rfl
theorem dW_chance_11 : decode (mcc mW_chance) 11 = .ok (.aload_n 0, 1) := o42 (byt_of hW_chance_b0 (j := 11) rfl)
theorem dW_chance_12 : decode (mcc mW_chance) 12 = .ok (.getfield 26, 3) := o180 (a := 0) (b := 26) (byt_of hW_chance_b0 (j := 12) rfl) (byt_of hW_chance_b0 (j := 13) rfl) (byt_of hW_chance_b0 (j := 14) rfl) rfl
theorem dW_chance_15 : decode (mcc mW_chance) 15 = .ok (.iload_n 2, 1) := o28 (byt_of hW_chance_b0 (j := 15) rfl)
theorem dW_chance_16 : decode (mcc mW_chance) 16 = .ok (.invokevirtual 174, 3) := o182 (a := 0) (b := 174) (byt_of hW_chance_b0 (j := 16) rfl) (byt_of hW_chance_b0 (j := 17) rfl) (byt_of hW_chance_b0 (j := 18) rfl) rfl
theorem dW_chance_19 : decode (mcc mW_chance) 19 = .ok (.ifCond .ne 7, 3) := o154 (a := 0) (b := 7) (byt_of hW_chance_b0 (j := 19) rfl) (byt_of hW_chance_b0 (j := 20) rfl) (byt_of hW_chance_b0 (j := 21) rfl) rfl
theorem dW_chance_22 : decode (mcc mW_chance) 22 = .ok (.ldc2_w 287, 3) := o20 (a := 1) (b := 31) (byt_of hW_chance_b0 (j := 22) rfl) (byt_of hW_chance_b0 (j := 23) rfl) (byt_of hW_chance_b0 (j := 24) rfl) rfl
theorem dW_chance_25 : decode (mcc mW_chance) 25 = .ok (.lreturn, 1) := o173 (byt_of hW_chance_b0 (j := 25) rfl)
theorem dW_chance_26 : decode (mcc mW_chance) 26 = .ok (.aload_n 0, 1) := o42 (byt_of hW_chance_b0 (j := 26) rfl)
theorem dW_chance_27 : decode (mcc mW_chance) 27 = .ok (.getfield 56, 3) := o180 (a := 0) (b := 56) (byt_of hW_chance_b0 (j := 27) rfl) (byt_of hW_chance_b0 (j := 28) rfl) (byt_of hW_chance_b0 (j := 29) rfl) rfl
theorem dW_chance_30 : decode (mcc mW_chance) 30 = .ok (.aload_n 0, 1) := o42 (byt_of hW_chance_b0 (j := 30) rfl)
theorem dW_chance_31 : decode (mcc mW_chance) 31 = .ok (.getfield 47, 3) := o180 (a := 0) (b := 47) (byt_of hW_chance_b0 (j := 31) rfl) (byt_of hW_chance_b0 (j := 32) rfl) (byt_of hW_chance_b0 (j := 33) rfl) rfl
def bW_chance_b1 : List Nat := [0, 47, 180, 0, 127, 182, 0, 205, 42, 180, 0, 56, 27, 28, 182, 1, 33, 173]
theorem hW_chance_b1 : BL (mcc mW_chance) 32 bW_chance_b1 := by decide +kernel
theorem dW_chance_34 : decode (mcc mW_chance) 34 = .ok (.getfield 127, 3) := o180 (a := 0) (b := 127) (byt_of hW_chance_b1 (j := 2) rfl) (byt_of hW_chance_b1 (j := 3) rfl) (byt_of hW_chance_b1 (j := 4) rfl) rfl
theorem dW_chance_37 : decode (mcc mW_chance) 37 = .ok (.invokevirtual 205, 3) := o182 (a := 0) (b := 205) (byt_of hW_chance_b1 (j := 5) rfl) (byt_of hW_chance_b1 (j := 6) rfl) (byt_of hW_chance_b1 (j := 7) rfl) rfl
theorem dW_chance_40 : decode (mcc mW_chance) 40 = .ok (.aload_n 0, 1) := o42 (byt_of hW_chance_b1 (j := 8) rfl)
theorem dW_chance_41 : decode (mcc mW_chance) 41 = .ok (.getfield 56, 3) := o180 (a := 0) (b := 56) (byt_of hW_chance_b1 (j := 9) rfl) (byt_of hW_chance_b1 (j := 10) rfl) (byt_of hW_chance_b1 (j := 11) rfl) rfl
theorem dW_chance_44 : decode (mcc mW_chance) 44 = .ok (.iload_n 1, 1) := o27 (byt_of hW_chance_b1 (j := 12) rfl)
theorem dW_chance_45 : decode (mcc mW_chance) 45 = .ok (.iload_n 2, 1) := o28 (byt_of hW_chance_b1 (j := 13) rfl)
theorem dW_chance_46 : decode (mcc mW_chance) 46 = .ok (.invokevirtual 289, 3) := o182 (a := 1) (b := 33) (byt_of hW_chance_b1 (j := 14) rfl) (byt_of hW_chance_b1 (j := 15) rfl) (byt_of hW_chance_b1 (j := 16) rfl) rfl
theorem dW_chance_49 : decode (mcc mW_chance) 49 = .ok (.lreturn, 1) := o173 (byt_of hW_chance_b1 (j := 17) rfl)
def bW_lost_b0 : List Nat := [42, 180, 0, 26, 27, 182, 0, 174, 154, 0, 7, 20, 1, 31, 173, 42, 180, 0, 56, 42, 180, 0, 47, 180, 0, 127, 182, 0, 205, 20, 1, 37, 65, 3, 54, 4, 21, 4]
theorem hW_lost_b0 : BL (mcc mW_lost) 0 bW_lost_b0 := by decide +kernel
theorem dW_lost_0 : decode (mcc mW_lost) 0 = .ok (.aload_n 0, 1) := o42 (byt_of hW_lost_b0 (j := 0) rfl)
theorem dW_lost_1 : decode (mcc mW_lost) 1 = .ok (.getfield 26, 3) := o180 (a := 0) (b := 26) (byt_of hW_lost_b0 (j := 1) rfl) (byt_of hW_lost_b0 (j := 2) rfl) (byt_of hW_lost_b0 (j := 3) rfl) rfl
theorem dW_lost_4 : decode (mcc mW_lost) 4 = .ok (.iload_n 1, 1) := o27 (byt_of hW_lost_b0 (j := 4) rfl)
theorem dW_lost_5 : decode (mcc mW_lost) 5 = .ok (.invokevirtual 174, 3) := o182 (a := 0) (b := 174) (byt_of hW_lost_b0 (j := 5) rfl) (byt_of hW_lost_b0 (j := 6) rfl) (byt_of hW_lost_b0 (j := 7) rfl) rfl
theorem dW_lost_8 : decode (mcc mW_lost) 8 = .ok (.ifCond .ne 7, 3) := o154 (a := 0) (b := 7) (byt_of hW_lost_b0 (j := 8) rfl) (byt_of hW_lost_b0 (j := 9) rfl) (byt_of hW_lost_b0 (j := 10) rfl) rfl
theorem dW_lost_11 : decode (mcc mW_lost) 11 = .ok (.ldc2_w 287, 3) := o20 (a := 1) (b := 31) (byt_of hW_lost_b0 (j := 11) rfl) (byt_of hW_lost_b0 (j := 12) rfl) (byt_of hW_lost_b0 (j := 13) rfl) rfl
theorem dW_lost_14 : decode (mcc mW_lost) 14 = .ok (.lreturn, 1) := o173 (byt_of hW_lost_b0 (j := 14) rfl)
theorem dW_lost_15 : decode (mcc mW_lost) 15 = .ok (.aload_n 0, 1) := o42 (byt_of hW_lost_b0 (j := 15) rfl)
theorem dW_lost_16 : decode (mcc mW_lost) 16 = .ok (.getfield 56, 3) := o180 (a := 0) (b := 56) (byt_of hW_lost_b0 (j := 16) rfl) (byt_of hW_lost_b0 (j := 17) rfl) (byt_of hW_lost_b0 (j := 18) rfl) rfl
theorem dW_lost_19 : decode (mcc mW_lost) 19 = .ok (.aload_n 0, 1) := o42 (byt_of hW_lost_b0 (j := 19) rfl)
theorem dW_lost_20 : decode (mcc mW_lost) 20 = .ok (.getfield 47, 3) := o180 (a := 0) (b := 47) (byt_of hW_lost_b0 (j := 20) rfl) (byt_of hW_lost_b0 (j := 21) rfl) (byt_of hW_lost_b0 (j := 22) rfl) rfl
theorem dW_lost_23 : decode (mcc mW_lost) 23 = .ok (.getfield 127, 3) := o180 (a := 0) (b := 127) (byt_of hW_lost_b0 (j := 23) rfl) (byt_of hW_lost_b0 (j := 24) rfl) (byt_of hW_lost_b0 (j := 25) rfl) rfl
theorem dW_lost_26 : decode (mcc mW_lost) 26 = .ok (.invokevirtual 205, 3) := o182 (a := 0) (b := 205) (byt_of hW_lost_b0 (j := 26) rfl) (byt_of hW_lost_b0 (j := 27) rfl) (byt_of hW_lost_b0 (j := 28) rfl) rfl
theorem dW_lost_29 : decode (mcc mW_lost) 29 = .ok (.ldc2_w 293, 3) := o20 (a := 1) (b := 37) (byt_of hW_lost_b0 (j := 29) rfl) (byt_of hW_lost_b0 (j := 30) rfl) (byt_of hW_lost_b0 (j := 31) rfl) rfl
def bW_lost_b1 : List Nat := [65, 3, 54, 4, 21, 4, 42, 180, 0, 19, 180, 0, 121, 162, 0, 63, 42, 180, 0, 19, 21, 4, 42, 180, 0, 26, 180, 0, 175, 27, 46, 182, 1, 39, 153, 0, 36, 42]
theorem hW_lost_b1 : BL (mcc mW_lost) 32 bW_lost_b1 := by decide +kernel
theorem dW_lost_32 : decode (mcc mW_lost) 32 = .ok (.lstore_n 2, 1) := o65 (byt_of hW_lost_b1 (j := 0) rfl)
theorem dW_lost_33 : decode (mcc mW_lost) 33 = .ok (.iconst 0, 1) := o3 (byt_of hW_lost_b1 (j := 1) rfl)
theorem dW_lost_34 : decode (mcc mW_lost) 34 = .ok (.istore 4, 2) := o54 (a := 4) (byt_of hW_lost_b1 (j := 2) rfl) (byt_of hW_lost_b1 (j := 3) rfl)
theorem dW_lost_36 : decode (mcc mW_lost) 36 = .ok (.iload 4, 2) := o21 (a := 4) (byt_of hW_lost_b1 (j := 4) rfl) (byt_of hW_lost_b1 (j := 5) rfl)
theorem dW_lost_38 : decode (mcc mW_lost) 38 = .ok (.aload_n 0, 1) := o42 (byt_of hW_lost_b1 (j := 6) rfl)
theorem dW_lost_39 : decode (mcc mW_lost) 39 = .ok (.getfield 19, 3) := o180 (a := 0) (b := 19) (byt_of hW_lost_b1 (j := 7) rfl) (byt_of hW_lost_b1 (j := 8) rfl) (byt_of hW_lost_b1 (j := 9) rfl) rfl
theorem dW_lost_42 : decode (mcc mW_lost) 42 = .ok (.getfield 121, 3) := o180 (a := 0) (b := 121) (byt_of hW_lost_b1 (j := 10) rfl) (byt_of hW_lost_b1 (j := 11) rfl) (byt_of hW_lost_b1 (j := 12) rfl) rfl
theorem dW_lost_45 : decode (mcc mW_lost) 45 = .ok (.if_icmp .ge 63, 3) := o162 (a := 0) (b := 63) (byt_of hW_lost_b1 (j := 13) rfl) (byt_of hW_lost_b1 (j := 14) rfl) (byt_of hW_lost_b1 (j := 15) rfl) rfl
theorem dW_lost_48 : decode (mcc mW_lost) 48 = .ok (.aload_n 0, 1) := o42 (byt_of hW_lost_b1 (j := 16) rfl)
theorem dW_lost_49 : decode (mcc mW_lost) 49 = .ok (.getfield 19, 3) := o180 (a := 0) (b := 19) (byt_of hW_lost_b1 (j := 17) rfl) (byt_of hW_lost_b1 (j := 18) rfl) (byt_of hW_lost_b1 (j := 19) rfl) rfl
theorem dW_lost_52 : decode (mcc mW_lost) 52 = .ok (.iload 4, 2) := o21 (a := 4) (byt_of hW_lost_b1 (j := 20) rfl) (byt_of hW_lost_b1 (j := 21) rfl)
theorem dW_lost_54 : decode (mcc mW_lost) 54 = .ok (.aload_n 0, 1) := o42 (byt_of hW_lost_b1 (j := 22) rfl)
theorem dW_lost_55 : decode (mcc mW_lost) 55 = .ok (.getfield 26, 3) := o180 (a := 0) (b := 26) (byt_of hW_lost_b1 (j := 23) rfl) (byt_of hW_lost_b1 (j := 24) rfl) (byt_of hW_lost_b1 (j := 25) rfl) rfl
theorem dW_lost_58 : decode (mcc mW_lost) 58 = .ok (.getfield 175, 3) := o180 (a := 0) (b := 175) (byt_of hW_lost_b1 (j := 26) rfl) (byt_of hW_lost_b1 (j := 27) rfl) (byt_of hW_lost_b1 (j := 28) rfl) rfl
theorem dW_lost_61 : decode (mcc mW_lost) 61 = .ok (.iload_n 1, 1) := o27 (byt_of hW_lost_b1 (j := 29) rfl)
theorem dW_lost_62 : decode (mcc mW_lost) 62 = .ok (.iaload, 1) := o46 (byt_of hW_lost_b1 (j := 30) rfl)
theorem dW_lost_63 : decode (mcc mW_lost) 63 = .ok (.invokevirtual 295, 3) := o182 (a := 1) (b := 39) (byt_of hW_lost_b1 (j := 31) rfl) (byt_of hW_lost_b1 (j := 32) rfl) (byt_of hW_lost_b1 (j := 33) rfl) rfl
def bW_lost_b2 : List Nat := [1, 39, 153, 0, 36, 42, 180, 0, 19, 21, 4, 182, 1, 43, 153, 0, 24, 32, 20, 1, 37, 42, 180, 0, 56, 21, 4, 27, 182, 1, 33, 101, 105, 20, 1, 37, 109, 65]
theorem hW_lost_b2 : BL (mcc mW_lost) 64 bW_lost_b2 := by decide +kernel
theorem dW_lost_66 : decode (mcc mW_lost) 66 = .ok (.ifCond .eq 36, 3) := o153 (a := 0) (b := 36) (byt_of hW_lost_b2 (j := 2) rfl) (byt_of hW_lost_b2 (j := 3) rfl) (byt_of hW_lost_b2 (j := 4) rfl) rfl
theorem dW_lost_69 : decode (mcc mW_lost) 69 = .ok (.aload_n 0, 1) := o42 (byt_of hW_lost_b2 (j := 5) rfl)
theorem dW_lost_70 : decode (mcc mW_lost) 70 = .ok (.getfield 19, 3) := o180 (a := 0) (b := 19) (byt_of hW_lost_b2 (j := 6) rfl) (byt_of hW_lost_b2 (j := 7) rfl) (byt_of hW_lost_b2 (j := 8) rfl) rfl
theorem dW_lost_73 : decode (mcc mW_lost) 73 = .ok (.iload 4, 2) := o21 (a := 4) (byt_of hW_lost_b2 (j := 9) rfl) (byt_of hW_lost_b2 (j := 10) rfl)
theorem dW_lost_75 : decode (mcc mW_lost) 75 = .ok (.invokevirtual 299, 3) := o182 (a := 1) (b := 43) (byt_of hW_lost_b2 (j := 11) rfl) (byt_of hW_lost_b2 (j := 12) rfl) (byt_of hW_lost_b2 (j := 13) rfl) rfl
theorem dW_lost_78 : decode (mcc mW_lost) 78 = .ok (.ifCond .eq 24, 3) := o153 (a := 0) (b := 24) (byt_of hW_lost_b2 (j := 14) rfl) (byt_of hW_lost_b2 (j := 15) rfl) (byt_of hW_lost_b2 (j := 16) rfl) rfl
theorem dW_lost_81 : decode (mcc mW_lost) 81 = .ok (.lload_n 2, 1) := o32 (byt_of hW_lost_b2 (j := 17) rfl)
theorem dW_lost_82 : decode (mcc mW_lost) 82 = .ok (.ldc2_w 293, 3) := o20 (a := 1) (b := 37) (byt_of hW_lost_b2 (j := 18) rfl) (byt_of hW_lost_b2 (j := 19) rfl) (byt_of hW_lost_b2 (j := 20) rfl) rfl
theorem dW_lost_85 : decode (mcc mW_lost) 85 = .ok (.aload_n 0, 1) := o42 (byt_of hW_lost_b2 (j := 21) rfl)
theorem dW_lost_86 : decode (mcc mW_lost) 86 = .ok (.getfield 56, 3) := o180 (a := 0) (b := 56) (byt_of hW_lost_b2 (j := 22) rfl) (byt_of hW_lost_b2 (j := 23) rfl) (byt_of hW_lost_b2 (j := 24) rfl) rfl
theorem dW_lost_89 : decode (mcc mW_lost) 89 = .ok (.iload 4, 2) := o21 (a := 4) (byt_of hW_lost_b2 (j := 25) rfl) (byt_of hW_lost_b2 (j := 26) rfl)
theorem dW_lost_91 : decode (mcc mW_lost) 91 = .ok (.iload_n 1, 1) := o27 (byt_of hW_lost_b2 (j := 27) rfl)
theorem dW_lost_92 : decode (mcc mW_lost) 92 = .ok (.invokevirtual 289, 3) := o182 (a := 1) (b := 33) (byt_of hW_lost_b2 (j := 28) rfl) (byt_of hW_lost_b2 (j := 29) rfl) (byt_of hW_lost_b2 (j := 30) rfl) rfl
theorem dW_lost_95 : decode (mcc mW_lost) 95 = .ok (.lsub, 1) := o101 (byt_of hW_lost_b2 (j := 31) rfl)
def bW_lost_b3 : List Nat := [105, 20, 1, 37, 109, 65, 132, 4, 1, 167, 255, 187, 32, 173]
theorem hW_lost_b3 : BL (mcc mW_lost) 96 bW_lost_b3 := by decide +kernel
theorem dW_lost_96 : decode (mcc mW_lost) 96 = .ok (.lmul, 1) := o105 (byt_of hW_lost_b3 (j := 0) rfl)
theorem dW_lost_97 : decode (mcc mW_lost) 97 = .ok (.ldc2_w 293, 3) := o20 (a := 1) (b := 37) (byt_of hW_lost_b3 (j := 1) rfl) (byt_of hW_lost_b3 (j := 2) rfl) (byt_of hW_lost_b3 (j := 3) rfl) rfl
theorem dW_lost_100 : decode (mcc mW_lost) 100 = .ok (.ldiv, 1) := o109 (byt_of hW_lost_b3 (j := 4) rfl)
theorem dW_lost_101 : decode (mcc mW_lost) 101 = .ok (.lstore_n 2, 1) := o65 (byt_of hW_lost_b3 (j := 5) rfl)
theorem dW_lost_102 : decode (mcc mW_lost) 102 = .ok (.iinc 4 1, 3) := o132 (a := 4) (b := 1) (byt_of hW_lost_b3 (j := 6) rfl) (byt_of hW_lost_b3 (j := 7) rfl) (byt_of hW_lost_b3 (j := 8) rfl) rfl
theorem dW_lost_105 : decode (mcc mW_lost) 105 = .ok (.goto (-69), 3) := o167 (a := 255) (b := 187) (byt_of hW_lost_b3 (j := 9) rfl) (byt_of hW_lost_b3 (j := 10) rfl) (byt_of hW_lost_b3 (j := 11) rfl) rfl
theorem dW_lost_108 : decode (mcc mW_lost) 108 = .ok (.lload_n 2, 1) := o32 (byt_of hW_lost_b3 (j := 12) rfl)
theorem dW_lost_109 : decode (mcc mW_lost) 109 = .ok (.lreturn, 1) := o173 (byt_of hW_lost_b3 (j := 13) rfl)
def bW_laws_b0 : List Nat := [27, 3, 5, 184, 0, 101, 154, 0, 6, 16, 254, 172, 4, 42, 180, 0, 26, 180, 0, 124, 120, 4, 100, 61, 3, 62, 2, 54, 4, 3, 54, 5, 3, 54, 6, 21, 6, 42]
theorem hW_laws_b0 : BL (mcc mW_laws) 0 bW_laws_b0 := by decide +kernel
theorem dW_laws_0 : decode (mcc mW_laws) 0 = .ok (.iload_n 1, 1) := o27 (byt_of hW_laws_b0 (j := 0) rfl)
theorem dW_laws_1 : decode (mcc mW_laws) 1 = .ok (.iconst 0, 1) := o3 (byt_of hW_laws_b0 (j := 1) rfl)
theorem dW_laws_2 : decode (mcc mW_laws) 2 = .ok (.iconst 2, 1) := o5 (byt_of hW_laws_b0 (j := 2) rfl)
theorem dW_laws_3 : decode (mcc mW_laws) 3 = .ok (.invokestatic 101, 3) := o184 (a := 0) (b := 101) (byt_of hW_laws_b0 (j := 3) rfl) (byt_of hW_laws_b0 (j := 4) rfl) (byt_of hW_laws_b0 (j := 5) rfl) rfl
theorem dW_laws_6 : decode (mcc mW_laws) 6 = .ok (.ifCond .ne 6, 3) := o154 (a := 0) (b := 6) (byt_of hW_laws_b0 (j := 6) rfl) (byt_of hW_laws_b0 (j := 7) rfl) (byt_of hW_laws_b0 (j := 8) rfl) rfl
theorem dW_laws_9 : decode (mcc mW_laws) 9 = .ok (.bipush (-2), 2) := o16 (a := 254) (byt_of hW_laws_b0 (j := 9) rfl) (byt_of hW_laws_b0 (j := 10) rfl) rfl
theorem dW_laws_11 : decode (mcc mW_laws) 11 = .ok (.ireturn, 1) := o172 (byt_of hW_laws_b0 (j := 11) rfl)
theorem dW_laws_12 : decode (mcc mW_laws) 12 = .ok (.iconst 1, 1) := o4 (byt_of hW_laws_b0 (j := 12) rfl)
theorem dW_laws_13 : decode (mcc mW_laws) 13 = .ok (.aload_n 0, 1) := o42 (byt_of hW_laws_b0 (j := 13) rfl)
theorem dW_laws_14 : decode (mcc mW_laws) 14 = .ok (.getfield 26, 3) := o180 (a := 0) (b := 26) (byt_of hW_laws_b0 (j := 14) rfl) (byt_of hW_laws_b0 (j := 15) rfl) (byt_of hW_laws_b0 (j := 16) rfl) rfl
theorem dW_laws_17 : decode (mcc mW_laws) 17 = .ok (.getfield 124, 3) := o180 (a := 0) (b := 124) (byt_of hW_laws_b0 (j := 17) rfl) (byt_of hW_laws_b0 (j := 18) rfl) (byt_of hW_laws_b0 (j := 19) rfl) rfl
theorem dW_laws_20 : decode (mcc mW_laws) 20 = .ok (.ishl, 1) := o120 (byt_of hW_laws_b0 (j := 20) rfl)
theorem dW_laws_21 : decode (mcc mW_laws) 21 = .ok (.iconst 1, 1) := o4 (byt_of hW_laws_b0 (j := 21) rfl)
theorem dW_laws_22 : decode (mcc mW_laws) 22 = .ok (.isub, 1) := o100 (byt_of hW_laws_b0 (j := 22) rfl)
theorem dW_laws_23 : decode (mcc mW_laws) 23 = .ok (.istore_n 2, 1) := o61 (byt_of hW_laws_b0 (j := 23) rfl)
theorem dW_laws_24 : decode (mcc mW_laws) 24 = .ok (.iconst 0, 1) := o3 (byt_of hW_laws_b0 (j := 24) rfl)
theorem dW_laws_25 : decode (mcc mW_laws) 25 = .ok (.istore_n 3, 1) := o62 (byt_of hW_laws_b0 (j := 25) rfl)
theorem dW_laws_26 : decode (mcc mW_laws) 26 = .ok (.iconst (-1), 1) := o2 (byt_of hW_laws_b0 (j := 26) rfl)
theorem dW_laws_27 : decode (mcc mW_laws) 27 = .ok (.istore 4, 2) := o54 (a := 4) (byt_of hW_laws_b0 (j := 27) rfl) (byt_of hW_laws_b0 (j := 28) rfl)
theorem dW_laws_29 : decode (mcc mW_laws) 29 = .ok (.iconst 0, 1) := o3 (byt_of hW_laws_b0 (j := 29) rfl)
theorem dW_laws_30 : decode (mcc mW_laws) 30 = .ok (.istore 5, 2) := o54 (a := 5) (byt_of hW_laws_b0 (j := 30) rfl) (byt_of hW_laws_b0 (j := 31) rfl)
def bW_laws_b1 : List Nat := [3, 54, 6, 21, 6, 42, 180, 0, 47, 180, 0, 126, 162, 0, 81, 42, 180, 0, 56, 21, 6, 182, 0, 213, 42, 180, 0, 56, 27, 182, 0, 238, 54, 7, 27, 154, 0, 16]
theorem hW_laws_b1 : BL (mcc mW_laws) 32 bW_laws_b1 := by decide +kernel
theorem dW_laws_32 : decode (mcc mW_laws) 32 = .ok (.iconst 0, 1) := o3 (byt_of hW_laws_b1 (j := 0) rfl)
theorem dW_laws_33 : decode (mcc mW_laws) 33 = .ok (.istore 6, 2) := o54 (a := 6) (byt_of hW_laws_b1 (j := 1) rfl) (byt_of hW_laws_b1 (j := 2) rfl)
theorem dW_laws_35 : decode (mcc mW_laws) 35 = .ok (.iload 6, 2) := o21 (a := 6) (byt_of hW_laws_b1 (j := 3) rfl) (byt_of hW_laws_b1 (j := 4) rfl)
theorem dW_laws_37 : decode (mcc mW_laws) 37 = .ok (.aload_n 0, 1) := o42 (byt_of hW_laws_b1 (j := 5) rfl)
theorem dW_laws_38 : decode (mcc mW_laws) 38 = .ok (.getfield 47, 3) := o180 (a := 0) (b := 47) (byt_of hW_laws_b1 (j := 6) rfl) (byt_of hW_laws_b1 (j := 7) rfl) (byt_of hW_laws_b1 (j := 8) rfl) rfl
theorem dW_laws_41 : decode (mcc mW_laws) 41 = .ok (.getfield 126, 3) := o180 (a := 0) (b := 126) (byt_of hW_laws_b1 (j := 9) rfl) (byt_of hW_laws_b1 (j := 10) rfl) (byt_of hW_laws_b1 (j := 11) rfl) rfl
theorem dW_laws_44 : decode (mcc mW_laws) 44 = .ok (.if_icmp .ge 81, 3) := o162 (a := 0) (b := 81) (byt_of hW_laws_b1 (j := 12) rfl) (byt_of hW_laws_b1 (j := 13) rfl) (byt_of hW_laws_b1 (j := 14) rfl) rfl
theorem dW_laws_47 : decode (mcc mW_laws) 47 = .ok (.aload_n 0, 1) := o42 (byt_of hW_laws_b1 (j := 15) rfl)
theorem dW_laws_48 : decode (mcc mW_laws) 48 = .ok (.getfield 56, 3) := o180 (a := 0) (b := 56) (byt_of hW_laws_b1 (j := 16) rfl) (byt_of hW_laws_b1 (j := 17) rfl) (byt_of hW_laws_b1 (j := 18) rfl) rfl
theorem dW_laws_51 : decode (mcc mW_laws) 51 = .ok (.iload 6, 2) := o21 (a := 6) (byt_of hW_laws_b1 (j := 19) rfl) (byt_of hW_laws_b1 (j := 20) rfl)
theorem dW_laws_53 : decode (mcc mW_laws) 53 = .ok (.invokevirtual 213, 3) := o182 (a := 0) (b := 213) (byt_of hW_laws_b1 (j := 21) rfl) (byt_of hW_laws_b1 (j := 22) rfl) (byt_of hW_laws_b1 (j := 23) rfl) rfl
theorem dW_laws_56 : decode (mcc mW_laws) 56 = .ok (.aload_n 0, 1) := o42 (byt_of hW_laws_b1 (j := 24) rfl)
theorem dW_laws_57 : decode (mcc mW_laws) 57 = .ok (.getfield 56, 3) := o180 (a := 0) (b := 56) (byt_of hW_laws_b1 (j := 25) rfl) (byt_of hW_laws_b1 (j := 26) rfl) (byt_of hW_laws_b1 (j := 27) rfl) rfl
theorem dW_laws_60 : decode (mcc mW_laws) 60 = .ok (.iload_n 1, 1) := o27 (byt_of hW_laws_b1 (j := 28) rfl)
theorem dW_laws_61 : decode (mcc mW_laws) 61 = .ok (.invokevirtual 238, 3) := o182 (a := 0) (b := 238) (byt_of hW_laws_b1 (j := 29) rfl) (byt_of hW_laws_b1 (j := 30) rfl) (byt_of hW_laws_b1 (j := 31) rfl) rfl
def bW_laws_b2 : List Nat := [54, 7, 27, 154, 0, 16, 21, 7, 28, 160, 0, 10, 29, 4, 21, 6, 120, 128, 62, 21, 4, 2, 159, 0, 25, 27, 5, 160, 0, 13, 21, 7, 21, 5, 162, 0, 21, 167]
theorem hW_laws_b2 : BL (mcc mW_laws) 64 bW_laws_b2 := by decide +kernel
theorem dW_laws_64 : decode (mcc mW_laws) 64 = .ok (.istore 7, 2) := o54 (a := 7) (byt_of hW_laws_b2 (j := 0) rfl) (byt_of hW_laws_b2 (j := 1) rfl)
theorem dW_laws_66 : decode (mcc mW_laws) 66 = .ok (.iload_n 1, 1) := o27 (byt_of hW_laws_b2 (j := 2) rfl)
theorem dW_laws_67 : decode (mcc mW_laws) 67 = .ok (.ifCond .ne 16, 3) := o154 (a := 0) (b := 16) (byt_of hW_laws_b2 (j := 3) rfl) (byt_of hW_laws_b2 (j := 4) rfl) (byt_of hW_laws_b2 (j := 5) rfl) rfl
theorem dW_laws_70 : decode (mcc mW_laws) 70 = .ok (.iload 7, 2) := o21 (a := 7) (byt_of hW_laws_b2 (j := 6) rfl) (byt_of hW_laws_b2 (j := 7) rfl)
theorem dW_laws_72 : decode (mcc mW_laws) 72 = .ok (.iload_n 2, 1) := o28 (byt_of hW_laws_b2 (j := 8) rfl)
theorem dW_laws_73 : decode (mcc mW_laws) 73 = .ok (.if_icmp .ne 10, 3) := o160 (a := 0) (b := 10) (byt_of hW_laws_b2 (j := 9) rfl) (byt_of hW_laws_b2 (j := 10) rfl) (byt_of hW_laws_b2 (j := 11) rfl) rfl
theorem dW_laws_76 : decode (mcc mW_laws) 76 = .ok (.iload_n 3, 1) := o29 (byt_of hW_laws_b2 (j := 12) rfl)
theorem dW_laws_77 : decode (mcc mW_laws) 77 = .ok (.iconst 1, 1) := o4 (byt_of hW_laws_b2 (j := 13) rfl)
theorem dW_laws_78 : decode (mcc mW_laws) 78 = .ok (.iload 6, 2) := o21 (a := 6) (byt_of hW_laws_b2 (j := 14) rfl) (byt_of hW_laws_b2 (j := 15) rfl)
theorem dW_laws_80 : decode (mcc mW_laws) 80 = .ok (.ishl, 1) := o120 (byt_of hW_laws_b2 (j := 16) rfl)
theorem dW_laws_81 : decode (mcc mW_laws) 81 = .ok (.ior, 1) := o128 (byt_of hW_laws_b2 (j := 17) rfl)
theorem dW_laws_82 : decode (mcc mW_laws) 82 = .ok (.istore_n 3, 1) := o62 (byt_of hW_laws_b2 (j := 18) rfl)
theorem dW_laws_83 : decode (mcc mW_laws) 83 = .ok (.iload 4, 2) := o21 (a := 4) (byt_of hW_laws_b2 (j := 19) rfl) (byt_of hW_laws_b2 (j := 20) rfl)
theorem dW_laws_85 : decode (mcc mW_laws) 85 = .ok (.iconst (-1), 1) := o2 (byt_of hW_laws_b2 (j := 21) rfl)
theorem dW_laws_86 : decode (mcc mW_laws) 86 = .ok (.if_icmp .eq 25, 3) := o159 (a := 0) (b := 25) (byt_of hW_laws_b2 (j := 22) rfl) (byt_of hW_laws_b2 (j := 23) rfl) (byt_of hW_laws_b2 (j := 24) rfl) rfl
theorem dW_laws_89 : decode (mcc mW_laws) 89 = .ok (.iload_n 1, 1) := o27 (byt_of hW_laws_b2 (j := 25) rfl)
theorem dW_laws_90 : decode (mcc mW_laws) 90 = .ok (.iconst 2, 1) := o5 (byt_of hW_laws_b2 (j := 26) rfl)
theorem dW_laws_91 : decode (mcc mW_laws) 91 = .ok (.if_icmp .ne 13, 3) := o160 (a := 0) (b := 13) (byt_of hW_laws_b2 (j := 27) rfl) (byt_of hW_laws_b2 (j := 28) rfl) (byt_of hW_laws_b2 (j := 29) rfl) rfl
theorem dW_laws_94 : decode (mcc mW_laws) 94 = .ok (.iload 7, 2) := o21 (a := 7) (byt_of hW_laws_b2 (j := 30) rfl) (byt_of hW_laws_b2 (j := 31) rfl)
def bW_laws_b3 : List Nat := [21, 5, 162, 0, 21, 167, 0, 10, 21, 7, 21, 5, 164, 0, 11, 21, 6, 54, 4, 21, 7, 54, 5, 132, 6, 1, 167, 255, 169, 27, 154, 0, 7, 29, 167, 0, 5, 21]
theorem hW_laws_b3 : BL (mcc mW_laws) 96 bW_laws_b3 := by decide +kernel
theorem dW_laws_96 : decode (mcc mW_laws) 96 = .ok (.iload 5, 2) := o21 (a := 5) (byt_of hW_laws_b3 (j := 0) rfl) (byt_of hW_laws_b3 (j := 1) rfl)
theorem dW_laws_98 : decode (mcc mW_laws) 98 = .ok (.if_icmp .ge 21, 3) := o162 (a := 0) (b := 21) (byt_of hW_laws_b3 (j := 2) rfl) (byt_of hW_laws_b3 (j := 3) rfl) (byt_of hW_laws_b3 (j := 4) rfl) rfl
theorem dW_laws_101 : decode (mcc mW_laws) 101 = .ok (.goto 10, 3) := o167 (a := 0) (b := 10) (byt_of hW_laws_b3 (j := 5) rfl) (byt_of hW_laws_b3 (j := 6) rfl) (byt_of hW_laws_b3 (j := 7) rfl) rfl
theorem dW_laws_104 : decode (mcc mW_laws) 104 = .ok (.iload 7, 2) := o21 (a := 7) (byt_of hW_laws_b3 (j := 8) rfl) (byt_of hW_laws_b3 (j := 9) rfl)
theorem dW_laws_106 : decode (mcc mW_laws) 106 = .ok (.iload 5, 2) := o21 (a := 5) (byt_of hW_laws_b3 (j := 10) rfl) (byt_of hW_laws_b3 (j := 11) rfl)
theorem dW_laws_108 : decode (mcc mW_laws) 108 = .ok (.if_icmp .le 11, 3) := o164 (a := 0) (b := 11) (byt_of hW_laws_b3 (j := 12) rfl) (byt_of hW_laws_b3 (j := 13) rfl) (byt_of hW_laws_b3 (j := 14) rfl) rfl
theorem dW_laws_111 : decode (mcc mW_laws) 111 = .ok (.iload 6, 2) := o21 (a := 6) (byt_of hW_laws_b3 (j := 15) rfl) (byt_of hW_laws_b3 (j := 16) rfl)
theorem dW_laws_113 : decode (mcc mW_laws) 113 = .ok (.istore 4, 2) := o54 (a := 4) (byt_of hW_laws_b3 (j := 17) rfl) (byt_of hW_laws_b3 (j := 18) rfl)
theorem dW_laws_115 : decode (mcc mW_laws) 115 = .ok (.iload 7, 2) := o21 (a := 7) (byt_of hW_laws_b3 (j := 19) rfl) (byt_of hW_laws_b3 (j := 20) rfl)
theorem dW_laws_117 : decode (mcc mW_laws) 117 = .ok (.istore 5, 2) := o54 (a := 5) (byt_of hW_laws_b3 (j := 21) rfl) (byt_of hW_laws_b3 (j := 22) rfl)
theorem dW_laws_119 : decode (mcc mW_laws) 119 = .ok (.iinc 6 1, 3) := o132 (a := 6) (b := 1) (byt_of hW_laws_b3 (j := 23) rfl) (byt_of hW_laws_b3 (j := 24) rfl) (byt_of hW_laws_b3 (j := 25) rfl) rfl
theorem dW_laws_122 : decode (mcc mW_laws) 122 = .ok (.goto (-87), 3) := o167 (a := 255) (b := 169) (byt_of hW_laws_b3 (j := 26) rfl) (byt_of hW_laws_b3 (j := 27) rfl) (byt_of hW_laws_b3 (j := 28) rfl) rfl
theorem dW_laws_125 : decode (mcc mW_laws) 125 = .ok (.iload_n 1, 1) := o27 (byt_of hW_laws_b3 (j := 29) rfl)
theorem dW_laws_126 : decode (mcc mW_laws) 126 = .ok (.ifCond .ne 7, 3) := o154 (a := 0) (b := 7) (byt_of hW_laws_b3 (j := 30) rfl) (byt_of hW_laws_b3 (j := 31) rfl) (byt_of hW_laws_b3 (j := 32) rfl) rfl
def bW_laws_b4 : List Nat := [7, 29, 167, 0, 5, 21, 4, 172]
theorem hW_laws_b4 : BL (mcc mW_laws) 128 bW_laws_b4 := by decide +kernel
theorem dW_laws_129 : decode (mcc mW_laws) 129 = .ok (.iload_n 3, 1) := o29 (byt_of hW_laws_b4 (j := 1) rfl)
theorem dW_laws_130 : decode (mcc mW_laws) 130 = .ok (.goto 5, 3) := o167 (a := 0) (b := 5) (byt_of hW_laws_b4 (j := 2) rfl) (byt_of hW_laws_b4 (j := 3) rfl) (byt_of hW_laws_b4 (j := 4) rfl) rfl
theorem dW_laws_133 : decode (mcc mW_laws) 133 = .ok (.iload 4, 2) := o21 (a := 4) (byt_of hW_laws_b4 (j := 5) rfl) (byt_of hW_laws_b4 (j := 6) rfl)
theorem dW_laws_135 : decode (mcc mW_laws) 135 = .ok (.ireturn, 1) := o172 (byt_of hW_laws_b4 (j := 7) rfl)
def bW_witness_b0 : List Nat := [42, 27, 182, 1, 46, 61, 28, 153, 0, 5, 28, 172, 42, 180, 0, 56, 42, 180, 0, 47, 180, 0, 127, 182, 0, 205, 42, 27, 182, 1, 49, 172]
theorem hW_witness_b0 : BL (mcc mW_witness) 0 bW_witness_b0 := by decide +kernel
theorem dW_witness_0 : decode (mcc mW_witness) 0 = .ok (.aload_n 0, 1) := o42 (byt_of hW_witness_b0 (j := 0) rfl)
theorem dW_witness_1 : decode (mcc mW_witness) 1 = .ok (.iload_n 1, 1) := o27 (byt_of hW_witness_b0 (j := 1) rfl)
theorem dW_witness_2 : decode (mcc mW_witness) 2 = .ok (.invokevirtual 302, 3) := o182 (a := 1) (b := 46) (byt_of hW_witness_b0 (j := 2) rfl) (byt_of hW_witness_b0 (j := 3) rfl) (byt_of hW_witness_b0 (j := 4) rfl) rfl
theorem dW_witness_5 : decode (mcc mW_witness) 5 = .ok (.istore_n 2, 1) := o61 (byt_of hW_witness_b0 (j := 5) rfl)
theorem dW_witness_6 : decode (mcc mW_witness) 6 = .ok (.iload_n 2, 1) := o28 (byt_of hW_witness_b0 (j := 6) rfl)
theorem dW_witness_7 : decode (mcc mW_witness) 7 = .ok (.ifCond .eq 5, 3) := o153 (a := 0) (b := 5) (byt_of hW_witness_b0 (j := 7) rfl) (byt_of hW_witness_b0 (j := 8) rfl) (byt_of hW_witness_b0 (j := 9) rfl) rfl
theorem dW_witness_10 : decode (mcc mW_witness) 10 = .ok (.iload_n 2, 1) := o28 (byt_of hW_witness_b0 (j := 10) rfl)
theorem dW_witness_11 : decode (mcc mW_witness) 11 = .ok (.ireturn, 1) := o172 (byt_of hW_witness_b0 (j := 11) rfl)
theorem dW_witness_12 : decode (mcc mW_witness) 12 = .ok (.aload_n 0, 1) := o42 (byt_of hW_witness_b0 (j := 12) rfl)
theorem dW_witness_13 : decode (mcc mW_witness) 13 = .ok (.getfield 56, 3) := o180 (a := 0) (b := 56) (byt_of hW_witness_b0 (j := 13) rfl) (byt_of hW_witness_b0 (j := 14) rfl) (byt_of hW_witness_b0 (j := 15) rfl) rfl
theorem dW_witness_16 : decode (mcc mW_witness) 16 = .ok (.aload_n 0, 1) := o42 (byt_of hW_witness_b0 (j := 16) rfl)
theorem dW_witness_17 : decode (mcc mW_witness) 17 = .ok (.getfield 47, 3) := o180 (a := 0) (b := 47) (byt_of hW_witness_b0 (j := 17) rfl) (byt_of hW_witness_b0 (j := 18) rfl) (byt_of hW_witness_b0 (j := 19) rfl) rfl
theorem dW_witness_20 : decode (mcc mW_witness) 20 = .ok (.getfield 127, 3) := o180 (a := 0) (b := 127) (byt_of hW_witness_b0 (j := 20) rfl) (byt_of hW_witness_b0 (j := 21) rfl) (byt_of hW_witness_b0 (j := 22) rfl) rfl
theorem dW_witness_23 : decode (mcc mW_witness) 23 = .ok (.invokevirtual 205, 3) := o182 (a := 0) (b := 205) (byt_of hW_witness_b0 (j := 23) rfl) (byt_of hW_witness_b0 (j := 24) rfl) (byt_of hW_witness_b0 (j := 25) rfl) rfl
theorem dW_witness_26 : decode (mcc mW_witness) 26 = .ok (.aload_n 0, 1) := o42 (byt_of hW_witness_b0 (j := 26) rfl)
theorem dW_witness_27 : decode (mcc mW_witness) 27 = .ok (.iload_n 1, 1) := o27 (byt_of hW_witness_b0 (j := 27) rfl)
theorem dW_witness_28 : decode (mcc mW_witness) 28 = .ok (.invokevirtual 305, 3) := o182 (a := 1) (b := 49) (byt_of hW_witness_b0 (j := 28) rfl) (byt_of hW_witness_b0 (j := 29) rfl) (byt_of hW_witness_b0 (j := 30) rfl) rfl
theorem dW_witness_31 : decode (mcc mW_witness) 31 = .ok (.ireturn, 1) := o172 (byt_of hW_witness_b0 (j := 31) rfl)
def bW_alibi_b0 : List Nat := [42, 180, 0, 19, 27, 182, 0, 143, 154, 0, 6, 16, 251, 172, 42, 28, 182, 1, 46, 62, 29, 153, 0, 5, 29, 172, 42, 180, 0, 56, 42, 180, 0, 47, 180, 0, 127, 182]
theorem hW_alibi_b0 : BL (mcc mW_alibi) 0 bW_alibi_b0 := by decide +kernel
theorem dW_alibi_0 : decode (mcc mW_alibi) 0 = .ok (.aload_n 0, 1) := o42 (byt_of hW_alibi_b0 (j := 0) rfl)
theorem dW_alibi_1 : decode (mcc mW_alibi) 1 = .ok (.getfield 19, 3) := o180 (a := 0) (b := 19) (byt_of hW_alibi_b0 (j := 1) rfl) (byt_of hW_alibi_b0 (j := 2) rfl) (byt_of hW_alibi_b0 (j := 3) rfl) rfl
theorem dW_alibi_4 : decode (mcc mW_alibi) 4 = .ok (.iload_n 1, 1) := o27 (byt_of hW_alibi_b0 (j := 4) rfl)
theorem dW_alibi_5 : decode (mcc mW_alibi) 5 = .ok (.invokevirtual 143, 3) := o182 (a := 0) (b := 143) (byt_of hW_alibi_b0 (j := 5) rfl) (byt_of hW_alibi_b0 (j := 6) rfl) (byt_of hW_alibi_b0 (j := 7) rfl) rfl
theorem dW_alibi_8 : decode (mcc mW_alibi) 8 = .ok (.ifCond .ne 6, 3) := o154 (a := 0) (b := 6) (byt_of hW_alibi_b0 (j := 8) rfl) (byt_of hW_alibi_b0 (j := 9) rfl) (byt_of hW_alibi_b0 (j := 10) rfl) rfl
theorem dW_alibi_11 : decode (mcc mW_alibi) 11 = .ok (.bipush (-5), 2) := o16 (a := 251) (byt_of hW_alibi_b0 (j := 11) rfl) (byt_of hW_alibi_b0 (j := 12) rfl) rfl
theorem dW_alibi_13 : decode (mcc mW_alibi) 13 = .ok (.ireturn, 1) := o172 (byt_of hW_alibi_b0 (j := 13) rfl)
theorem dW_alibi_14 : decode (mcc mW_alibi) 14 = .ok (.aload_n 0, 1) := o42 (byt_of hW_alibi_b0 (j := 14) rfl)
theorem dW_alibi_15 : decode (mcc mW_alibi) 15 = .ok (.iload_n 2, 1) := o28 (byt_of hW_alibi_b0 (j := 15) rfl)
theorem dW_alibi_16 : decode (mcc mW_alibi) 16 = .ok (.invokevirtual 302, 3) := o182 (a := 1) (b := 46) (byt_of hW_alibi_b0 (j := 16) rfl) (byt_of hW_alibi_b0 (j := 17) rfl) (byt_of hW_alibi_b0 (j := 18) rfl) rfl
theorem dW_alibi_19 : decode (mcc mW_alibi) 19 = .ok (.istore_n 3, 1) := o62 (byt_of hW_alibi_b0 (j := 19) rfl)
theorem dW_alibi_20 : decode (mcc mW_alibi) 20 = .ok (.iload_n 3, 1) := o29 (byt_of hW_alibi_b0 (j := 20) rfl)
theorem dW_alibi_21 : decode (mcc mW_alibi) 21 = .ok (.ifCond .eq 5, 3) := o153 (a := 0) (b := 5) (byt_of hW_alibi_b0 (j := 21) rfl) (byt_of hW_alibi_b0 (j := 22) rfl) (byt_of hW_alibi_b0 (j := 23) rfl) rfl
theorem dW_alibi_24 : decode (mcc mW_alibi) 24 = .ok (.iload_n 3, 1) := o29 (byt_of hW_alibi_b0 (j := 24) rfl)
theorem dW_alibi_25 : decode (mcc mW_alibi) 25 = .ok (.ireturn, 1) := o172 (byt_of hW_alibi_b0 (j := 25) rfl)
theorem dW_alibi_26 : decode (mcc mW_alibi) 26 = .ok (.aload_n 0, 1) := o42 (byt_of hW_alibi_b0 (j := 26) rfl)
theorem dW_alibi_27 : decode (mcc mW_alibi) 27 = .ok (.getfield 56, 3) := o180 (a := 0) (b := 56) (byt_of hW_alibi_b0 (j := 27) rfl) (byt_of hW_alibi_b0 (j := 28) rfl) (byt_of hW_alibi_b0 (j := 29) rfl) rfl
theorem dW_alibi_30 : decode (mcc mW_alibi) 30 = .ok (.aload_n 0, 1) := o42 (byt_of hW_alibi_b0 (j := 30) rfl)
theorem dW_alibi_31 : decode (mcc mW_alibi) 31 = .ok (.getfield 47, 3) := o180 (a := 0) (b := 47) (byt_of hW_alibi_b0 (j := 31) rfl) (byt_of hW_alibi_b0 (j := 32) rfl) (byt_of hW_alibi_b0 (j := 33) rfl) rfl
def bW_alibi_b1 : List Nat := [0, 47, 180, 0, 127, 182, 0, 205, 42, 180, 0, 19, 180, 0, 146, 27, 46, 54, 4, 3, 54, 5, 3, 54, 6, 21, 6, 16, 6, 162, 0, 46, 42, 180, 0, 19, 180, 0]
theorem hW_alibi_b1 : BL (mcc mW_alibi) 32 bW_alibi_b1 := by decide +kernel
theorem dW_alibi_34 : decode (mcc mW_alibi) 34 = .ok (.getfield 127, 3) := o180 (a := 0) (b := 127) (byt_of hW_alibi_b1 (j := 2) rfl) (byt_of hW_alibi_b1 (j := 3) rfl) (byt_of hW_alibi_b1 (j := 4) rfl) rfl
theorem dW_alibi_37 : decode (mcc mW_alibi) 37 = .ok (.invokevirtual 205, 3) := o182 (a := 0) (b := 205) (byt_of hW_alibi_b1 (j := 5) rfl) (byt_of hW_alibi_b1 (j := 6) rfl) (byt_of hW_alibi_b1 (j := 7) rfl) rfl
theorem dW_alibi_40 : decode (mcc mW_alibi) 40 = .ok (.aload_n 0, 1) := o42 (byt_of hW_alibi_b1 (j := 8) rfl)
theorem dW_alibi_41 : decode (mcc mW_alibi) 41 = .ok (.getfield 19, 3) := o180 (a := 0) (b := 19) (byt_of hW_alibi_b1 (j := 9) rfl) (byt_of hW_alibi_b1 (j := 10) rfl) (byt_of hW_alibi_b1 (j := 11) rfl) rfl
theorem dW_alibi_44 : decode (mcc mW_alibi) 44 = .ok (.getfield 146, 3) := o180 (a := 0) (b := 146) (byt_of hW_alibi_b1 (j := 12) rfl) (byt_of hW_alibi_b1 (j := 13) rfl) (byt_of hW_alibi_b1 (j := 14) rfl) rfl
theorem dW_alibi_47 : decode (mcc mW_alibi) 47 = .ok (.iload_n 1, 1) := o27 (byt_of hW_alibi_b1 (j := 15) rfl)
theorem dW_alibi_48 : decode (mcc mW_alibi) 48 = .ok (.iaload, 1) := o46 (byt_of hW_alibi_b1 (j := 16) rfl)
theorem dW_alibi_49 : decode (mcc mW_alibi) 49 = .ok (.istore 4, 2) := o54 (a := 4) (byt_of hW_alibi_b1 (j := 17) rfl) (byt_of hW_alibi_b1 (j := 18) rfl)
theorem dW_alibi_51 : decode (mcc mW_alibi) 51 = .ok (.iconst 0, 1) := o3 (byt_of hW_alibi_b1 (j := 19) rfl)
theorem dW_alibi_52 : decode (mcc mW_alibi) 52 = .ok (.istore 5, 2) := o54 (a := 5) (byt_of hW_alibi_b1 (j := 20) rfl) (byt_of hW_alibi_b1 (j := 21) rfl)
theorem dW_alibi_54 : decode (mcc mW_alibi) 54 = .ok (.iconst 0, 1) := o3 (byt_of hW_alibi_b1 (j := 22) rfl)
theorem dW_alibi_55 : decode (mcc mW_alibi) 55 = .ok (.istore 6, 2) := o54 (a := 6) (byt_of hW_alibi_b1 (j := 23) rfl) (byt_of hW_alibi_b1 (j := 24) rfl)
theorem dW_alibi_57 : decode (mcc mW_alibi) 57 = .ok (.iload 6, 2) := o21 (a := 6) (byt_of hW_alibi_b1 (j := 25) rfl) (byt_of hW_alibi_b1 (j := 26) rfl)
theorem dW_alibi_59 : decode (mcc mW_alibi) 59 = .ok (.bipush 6, 2) := o16 (a := 6) (byt_of hW_alibi_b1 (j := 27) rfl) (byt_of hW_alibi_b1 (j := 28) rfl) rfl
theorem dW_alibi_61 : decode (mcc mW_alibi) 61 = .ok (.if_icmp .ge 46, 3) := o162 (a := 0) (b := 46) (byt_of hW_alibi_b1 (j := 29) rfl) (byt_of hW_alibi_b1 (j := 30) rfl) (byt_of hW_alibi_b1 (j := 31) rfl) rfl
def bW_alibi_b2 : List Nat := [42, 180, 0, 19, 180, 0, 146, 27, 21, 6, 79, 42, 180, 0, 56, 27, 182, 1, 52, 42, 28, 182, 1, 49, 2, 160, 0, 12, 21, 5, 4, 21, 6, 120, 128, 54, 5, 132]
theorem hW_alibi_b2 : BL (mcc mW_alibi) 64 bW_alibi_b2 := by decide +kernel
theorem dW_alibi_64 : decode (mcc mW_alibi) 64 = .ok (.aload_n 0, 1) := o42 (byt_of hW_alibi_b2 (j := 0) rfl)
theorem dW_alibi_65 : decode (mcc mW_alibi) 65 = .ok (.getfield 19, 3) := o180 (a := 0) (b := 19) (byt_of hW_alibi_b2 (j := 1) rfl) (byt_of hW_alibi_b2 (j := 2) rfl) (byt_of hW_alibi_b2 (j := 3) rfl) rfl
theorem dW_alibi_68 : decode (mcc mW_alibi) 68 = .ok (.getfield 146, 3) := o180 (a := 0) (b := 146) (byt_of hW_alibi_b2 (j := 4) rfl) (byt_of hW_alibi_b2 (j := 5) rfl) (byt_of hW_alibi_b2 (j := 6) rfl) rfl
theorem dW_alibi_71 : decode (mcc mW_alibi) 71 = .ok (.iload_n 1, 1) := o27 (byt_of hW_alibi_b2 (j := 7) rfl)
theorem dW_alibi_72 : decode (mcc mW_alibi) 72 = .ok (.iload 6, 2) := o21 (a := 6) (byt_of hW_alibi_b2 (j := 8) rfl) (byt_of hW_alibi_b2 (j := 9) rfl)
theorem dW_alibi_74 : decode (mcc mW_alibi) 74 = .ok (.iastore, 1) := o79 (byt_of hW_alibi_b2 (j := 10) rfl)
theorem dW_alibi_75 : decode (mcc mW_alibi) 75 = .ok (.aload_n 0, 1) := o42 (byt_of hW_alibi_b2 (j := 11) rfl)
theorem dW_alibi_76 : decode (mcc mW_alibi) 76 = .ok (.getfield 56, 3) := o180 (a := 0) (b := 56) (byt_of hW_alibi_b2 (j := 12) rfl) (byt_of hW_alibi_b2 (j := 13) rfl) (byt_of hW_alibi_b2 (j := 14) rfl) rfl
theorem dW_alibi_79 : decode (mcc mW_alibi) 79 = .ok (.iload_n 1, 1) := o27 (byt_of hW_alibi_b2 (j := 15) rfl)
theorem dW_alibi_80 : decode (mcc mW_alibi) 80 = .ok (.invokevirtual 308, 3) := o182 (a := 1) (b := 52) (byt_of hW_alibi_b2 (j := 16) rfl) (byt_of hW_alibi_b2 (j := 17) rfl) (byt_of hW_alibi_b2 (j := 18) rfl) rfl
theorem dW_alibi_83 : decode (mcc mW_alibi) 83 = .ok (.aload_n 0, 1) := o42 (byt_of hW_alibi_b2 (j := 19) rfl)
theorem dW_alibi_84 : decode (mcc mW_alibi) 84 = .ok (.iload_n 2, 1) := o28 (byt_of hW_alibi_b2 (j := 20) rfl)
theorem dW_alibi_85 : decode (mcc mW_alibi) 85 = .ok (.invokevirtual 305, 3) := o182 (a := 1) (b := 49) (byt_of hW_alibi_b2 (j := 21) rfl) (byt_of hW_alibi_b2 (j := 22) rfl) (byt_of hW_alibi_b2 (j := 23) rfl) rfl
theorem dW_alibi_88 : decode (mcc mW_alibi) 88 = .ok (.iconst (-1), 1) := o2 (byt_of hW_alibi_b2 (j := 24) rfl)
theorem dW_alibi_89 : decode (mcc mW_alibi) 89 = .ok (.if_icmp .ne 12, 3) := o160 (a := 0) (b := 12) (byt_of hW_alibi_b2 (j := 25) rfl) (byt_of hW_alibi_b2 (j := 26) rfl) (byt_of hW_alibi_b2 (j := 27) rfl) rfl
theorem dW_alibi_92 : decode (mcc mW_alibi) 92 = .ok (.iload 5, 2) := o21 (a := 5) (byt_of hW_alibi_b2 (j := 28) rfl) (byt_of hW_alibi_b2 (j := 29) rfl)
theorem dW_alibi_94 : decode (mcc mW_alibi) 94 = .ok (.iconst 1, 1) := o4 (byt_of hW_alibi_b2 (j := 30) rfl)
theorem dW_alibi_95 : decode (mcc mW_alibi) 95 = .ok (.iload 6, 2) := o21 (a := 6) (byt_of hW_alibi_b2 (j := 31) rfl) (byt_of hW_alibi_b2 (j := 32) rfl)
def bW_alibi_b3 : List Nat := [6, 120, 128, 54, 5, 132, 6, 1, 167, 255, 209, 42, 180, 0, 19, 180, 0, 146, 27, 21, 4, 79, 21, 5, 172]
theorem hW_alibi_b3 : BL (mcc mW_alibi) 96 bW_alibi_b3 := by decide +kernel
theorem dW_alibi_97 : decode (mcc mW_alibi) 97 = .ok (.ishl, 1) := o120 (byt_of hW_alibi_b3 (j := 1) rfl)
theorem dW_alibi_98 : decode (mcc mW_alibi) 98 = .ok (.ior, 1) := o128 (byt_of hW_alibi_b3 (j := 2) rfl)
theorem dW_alibi_99 : decode (mcc mW_alibi) 99 = .ok (.istore 5, 2) := o54 (a := 5) (byt_of hW_alibi_b3 (j := 3) rfl) (byt_of hW_alibi_b3 (j := 4) rfl)
theorem dW_alibi_101 : decode (mcc mW_alibi) 101 = .ok (.iinc 6 1, 3) := o132 (a := 6) (b := 1) (byt_of hW_alibi_b3 (j := 5) rfl) (byt_of hW_alibi_b3 (j := 6) rfl) (byt_of hW_alibi_b3 (j := 7) rfl) rfl
theorem dW_alibi_104 : decode (mcc mW_alibi) 104 = .ok (.goto (-47), 3) := o167 (a := 255) (b := 209) (byt_of hW_alibi_b3 (j := 8) rfl) (byt_of hW_alibi_b3 (j := 9) rfl) (byt_of hW_alibi_b3 (j := 10) rfl) rfl
theorem dW_alibi_107 : decode (mcc mW_alibi) 107 = .ok (.aload_n 0, 1) := o42 (byt_of hW_alibi_b3 (j := 11) rfl)
theorem dW_alibi_108 : decode (mcc mW_alibi) 108 = .ok (.getfield 19, 3) := o180 (a := 0) (b := 19) (byt_of hW_alibi_b3 (j := 12) rfl) (byt_of hW_alibi_b3 (j := 13) rfl) (byt_of hW_alibi_b3 (j := 14) rfl) rfl
theorem dW_alibi_111 : decode (mcc mW_alibi) 111 = .ok (.getfield 146, 3) := o180 (a := 0) (b := 146) (byt_of hW_alibi_b3 (j := 15) rfl) (byt_of hW_alibi_b3 (j := 16) rfl) (byt_of hW_alibi_b3 (j := 17) rfl) rfl
theorem dW_alibi_114 : decode (mcc mW_alibi) 114 = .ok (.iload_n 1, 1) := o27 (byt_of hW_alibi_b3 (j := 18) rfl)
theorem dW_alibi_115 : decode (mcc mW_alibi) 115 = .ok (.iload 4, 2) := o21 (a := 4) (byt_of hW_alibi_b3 (j := 19) rfl) (byt_of hW_alibi_b3 (j := 20) rfl)
theorem dW_alibi_117 : decode (mcc mW_alibi) 117 = .ok (.iastore, 1) := o79 (byt_of hW_alibi_b3 (j := 21) rfl)
theorem dW_alibi_118 : decode (mcc mW_alibi) 118 = .ok (.iload 5, 2) := o21 (a := 5) (byt_of hW_alibi_b3 (j := 22) rfl) (byt_of hW_alibi_b3 (j := 23) rfl)
theorem dW_alibi_120 : decode (mcc mW_alibi) 120 = .ok (.ireturn, 1) := o172 (byt_of hW_alibi_b3 (j := 24) rfl)
def bW_drawn_b0 : List Nat := [27, 3, 19, 1, 55, 184, 0, 101, 153, 0, 12, 28, 3, 5, 184, 0, 101, 154, 0, 6, 16, 254, 172, 42, 180, 0, 56, 42, 180, 0, 47, 180, 0, 127, 182, 0, 205, 42]
theorem hW_drawn_b0 : BL (mcc mW_drawn) 0 bW_drawn_b0 := by decide +kernel
theorem dW_drawn_0 : decode (mcc mW_drawn) 0 = .ok (.iload_n 1, 1) := o27 (byt_of hW_drawn_b0 (j := 0) rfl)
theorem dW_drawn_1 : decode (mcc mW_drawn) 1 = .ok (.iconst 0, 1) := o3 (byt_of hW_drawn_b0 (j := 1) rfl)
theorem dW_drawn_2 : decode (mcc mW_drawn) 2 = .ok (.ldc_w 311, 3) := o19 (a := 1) (b := 55) (byt_of hW_drawn_b0 (j := 2) rfl) (byt_of hW_drawn_b0 (j := 3) rfl) (byt_of hW_drawn_b0 (j := 4) rfl) rfl
theorem dW_drawn_5 : decode (mcc mW_drawn) 5 = .ok (.invokestatic 101, 3) := o184 (a := 0) (b := 101) (byt_of hW_drawn_b0 (j := 5) rfl) (byt_of hW_drawn_b0 (j := 6) rfl) (byt_of hW_drawn_b0 (j := 7) rfl) rfl
theorem dW_drawn_8 : decode (mcc mW_drawn) 8 = .ok (.ifCond .eq 12, 3) := o153 (a := 0) (b := 12) (byt_of hW_drawn_b0 (j := 8) rfl) (byt_of hW_drawn_b0 (j := 9) rfl) (byt_of hW_drawn_b0 (j := 10) rfl) rfl
theorem dW_drawn_11 : decode (mcc mW_drawn) 11 = .ok (.iload_n 2, 1) := o28 (byt_of hW_drawn_b0 (j := 11) rfl)
theorem dW_drawn_12 : decode (mcc mW_drawn) 12 = .ok (.iconst 0, 1) := o3 (byt_of hW_drawn_b0 (j := 12) rfl)
theorem dW_drawn_13 : decode (mcc mW_drawn) 13 = .ok (.iconst 2, 1) := o5 (byt_of hW_drawn_b0 (j := 13) rfl)
theorem dW_drawn_14 : decode (mcc mW_drawn) 14 = .ok (.invokestatic 101, 3) := o184 (a := 0) (b := 101) (byt_of hW_drawn_b0 (j := 14) rfl) (byt_of hW_drawn_b0 (j := 15) rfl) (byt_of hW_drawn_b0 (j := 16) rfl) rfl
theorem dW_drawn_17 : decode (mcc mW_drawn) 17 = .ok (.ifCond .ne 6, 3) := o154 (a := 0) (b := 6) (byt_of hW_drawn_b0 (j := 17) rfl) (byt_of hW_drawn_b0 (j := 18) rfl) (byt_of hW_drawn_b0 (j := 19) rfl) rfl
theorem dW_drawn_20 : decode (mcc mW_drawn) 20 = .ok (.bipush (-2), 2) := o16 (a := 254) (byt_of hW_drawn_b0 (j := 20) rfl) (byt_of hW_drawn_b0 (j := 21) rfl) rfl
theorem dW_drawn_22 : decode (mcc mW_drawn) 22 = .ok (.ireturn, 1) := o172 (byt_of hW_drawn_b0 (j := 22) rfl)
theorem dW_drawn_23 : decode (mcc mW_drawn) 23 = .ok (.aload_n 0, 1) := o42 (byt_of hW_drawn_b0 (j := 23) rfl)
theorem dW_drawn_24 : decode (mcc mW_drawn) 24 = .ok (.getfield 56, 3) := o180 (a := 0) (b := 56) (byt_of hW_drawn_b0 (j := 24) rfl) (byt_of hW_drawn_b0 (j := 25) rfl) (byt_of hW_drawn_b0 (j := 26) rfl) rfl
theorem dW_drawn_27 : decode (mcc mW_drawn) 27 = .ok (.aload_n 0, 1) := o42 (byt_of hW_drawn_b0 (j := 27) rfl)
theorem dW_drawn_28 : decode (mcc mW_drawn) 28 = .ok (.getfield 47, 3) := o180 (a := 0) (b := 47) (byt_of hW_drawn_b0 (j := 28) rfl) (byt_of hW_drawn_b0 (j := 29) rfl) (byt_of hW_drawn_b0 (j := 30) rfl) rfl
theorem dW_drawn_31 : decode (mcc mW_drawn) 31 = .ok (.getfield 127, 3) := o180 (a := 0) (b := 127) (byt_of hW_drawn_b0 (j := 31) rfl) (byt_of hW_drawn_b0 (j := 32) rfl) (byt_of hW_drawn_b0 (j := 33) rfl) rfl
def bW_drawn_b1 : List Nat := [0, 127, 182, 0, 205, 42, 180, 0, 56, 27, 182, 1, 56, 42, 180, 0, 56, 28, 182, 0, 238, 172]
theorem hW_drawn_b1 : BL (mcc mW_drawn) 32 bW_drawn_b1 := by decide +kernel
theorem dW_drawn_34 : decode (mcc mW_drawn) 34 = .ok (.invokevirtual 205, 3) := o182 (a := 0) (b := 205) (byt_of hW_drawn_b1 (j := 2) rfl) (byt_of hW_drawn_b1 (j := 3) rfl) (byt_of hW_drawn_b1 (j := 4) rfl) rfl
theorem dW_drawn_37 : decode (mcc mW_drawn) 37 = .ok (.aload_n 0, 1) := o42 (byt_of hW_drawn_b1 (j := 5) rfl)
theorem dW_drawn_38 : decode (mcc mW_drawn) 38 = .ok (.getfield 56, 3) := o180 (a := 0) (b := 56) (byt_of hW_drawn_b1 (j := 6) rfl) (byt_of hW_drawn_b1 (j := 7) rfl) (byt_of hW_drawn_b1 (j := 8) rfl) rfl
theorem dW_drawn_41 : decode (mcc mW_drawn) 41 = .ok (.iload_n 1, 1) := o27 (byt_of hW_drawn_b1 (j := 9) rfl)
theorem dW_drawn_42 : decode (mcc mW_drawn) 42 = .ok (.invokevirtual 312, 3) := o182 (a := 1) (b := 56) (byt_of hW_drawn_b1 (j := 10) rfl) (byt_of hW_drawn_b1 (j := 11) rfl) (byt_of hW_drawn_b1 (j := 12) rfl) rfl
theorem dW_drawn_45 : decode (mcc mW_drawn) 45 = .ok (.aload_n 0, 1) := o42 (byt_of hW_drawn_b1 (j := 13) rfl)
theorem dW_drawn_46 : decode (mcc mW_drawn) 46 = .ok (.getfield 56, 3) := o180 (a := 0) (b := 56) (byt_of hW_drawn_b1 (j := 14) rfl) (byt_of hW_drawn_b1 (j := 15) rfl) (byt_of hW_drawn_b1 (j := 16) rfl) rfl
theorem dW_drawn_49 : decode (mcc mW_drawn) 49 = .ok (.iload_n 2, 1) := o28 (byt_of hW_drawn_b1 (j := 17) rfl)
theorem dW_drawn_50 : decode (mcc mW_drawn) 50 = .ok (.invokevirtual 238, 3) := o182 (a := 0) (b := 238) (byt_of hW_drawn_b1 (j := 18) rfl) (byt_of hW_drawn_b1 (j := 19) rfl) (byt_of hW_drawn_b1 (j := 20) rfl) rfl
theorem dW_drawn_53 : decode (mcc mW_drawn) 53 = .ok (.ireturn, 1) := o172 (byt_of hW_drawn_b1 (j := 21) rfl)
def bW_odds_b0 : List Nat := [42, 180, 0, 26, 27, 182, 0, 174, 153, 0, 34, 28, 3, 19, 1, 55, 184, 0, 101, 153, 0, 23, 29, 4, 16, 20, 184, 0, 101, 153, 0, 13, 21, 4, 3, 4, 184, 0]
theorem hW_odds_b0 : BL (mcc mW_odds) 0 bW_odds_b0 := by decide +kernel
theorem dW_odds_0 : decode (mcc mW_odds) 0 = .ok (.aload_n 0, 1) := o42 (byt_of hW_odds_b0 (j := 0) rfl)
theorem dW_odds_1 : decode (mcc mW_odds) 1 = .ok (.getfield 26, 3) := o180 (a := 0) (b := 26) (byt_of hW_odds_b0 (j := 1) rfl) (byt_of hW_odds_b0 (j := 2) rfl) (byt_of hW_odds_b0 (j := 3) rfl) rfl
theorem dW_odds_4 : decode (mcc mW_odds) 4 = .ok (.iload_n 1, 1) := o27 (byt_of hW_odds_b0 (j := 4) rfl)
theorem dW_odds_5 : decode (mcc mW_odds) 5 = .ok (.invokevirtual 174, 3) := o182 (a := 0) (b := 174) (byt_of hW_odds_b0 (j := 5) rfl) (byt_of hW_odds_b0 (j := 6) rfl) (byt_of hW_odds_b0 (j := 7) rfl) rfl
theorem dW_odds_8 : decode (mcc mW_odds) 8 = .ok (.ifCond .eq 34, 3) := o153 (a := 0) (b := 34) (byt_of hW_odds_b0 (j := 8) rfl) (byt_of hW_odds_b0 (j := 9) rfl) (byt_of hW_odds_b0 (j := 10) rfl) rfl
theorem dW_odds_11 : decode (mcc mW_odds) 11 = .ok (.iload_n 2, 1) := o28 (byt_of hW_odds_b0 (j := 11) rfl)
theorem dW_odds_12 : decode (mcc mW_odds) 12 = .ok (.iconst 0, 1) := o3 (byt_of hW_odds_b0 (j := 12) rfl)
theorem dW_odds_13 : decode (mcc mW_odds) 13 = .ok (.ldc_w 311, 3) := o19 (a := 1) (b := 55) (byt_of hW_odds_b0 (j := 13) rfl) (byt_of hW_odds_b0 (j := 14) rfl) (byt_of hW_odds_b0 (j := 15) rfl) rfl
theorem dW_odds_16 : decode (mcc mW_odds) 16 = .ok (.invokestatic 101, 3) := o184 (a := 0) (b := 101) (byt_of hW_odds_b0 (j := 16) rfl) (byt_of hW_odds_b0 (j := 17) rfl) (byt_of hW_odds_b0 (j := 18) rfl) rfl
theorem dW_odds_19 : decode (mcc mW_odds) 19 = .ok (.ifCond .eq 23, 3) := o153 (a := 0) (b := 23) (byt_of hW_odds_b0 (j := 19) rfl) (byt_of hW_odds_b0 (j := 20) rfl) (byt_of hW_odds_b0 (j := 21) rfl) rfl
theorem dW_odds_22 : decode (mcc mW_odds) 22 = .ok (.iload_n 3, 1) := o29 (byt_of hW_odds_b0 (j := 22) rfl)
theorem dW_odds_23 : decode (mcc mW_odds) 23 = .ok (.iconst 1, 1) := o4 (byt_of hW_odds_b0 (j := 23) rfl)
theorem dW_odds_24 : decode (mcc mW_odds) 24 = .ok (.bipush 20, 2) := o16 (a := 20) (byt_of hW_odds_b0 (j := 24) rfl) (byt_of hW_odds_b0 (j := 25) rfl) rfl
theorem dW_odds_26 : decode (mcc mW_odds) 26 = .ok (.invokestatic 101, 3) := o184 (a := 0) (b := 101) (byt_of hW_odds_b0 (j := 26) rfl) (byt_of hW_odds_b0 (j := 27) rfl) (byt_of hW_odds_b0 (j := 28) rfl) rfl
theorem dW_odds_29 : decode (mcc mW_odds) 29 = .ok (.ifCond .eq 13, 3) := o153 (a := 0) (b := 13) (byt_of hW_odds_b0 (j := 29) rfl) (byt_of hW_odds_b0 (j := 30) rfl) (byt_of hW_odds_b0 (j := 31) rfl) rfl
def bW_odds_b1 : List Nat := [21, 4, 3, 4, 184, 0, 101, 154, 0, 7, 20, 1, 31, 173, 42, 180, 0, 56, 42, 180, 0, 47, 180, 0, 127, 182, 0, 205, 3, 54, 5, 3, 54, 6, 21, 6, 29, 162]
theorem hW_odds_b1 : BL (mcc mW_odds) 32 bW_odds_b1 := by decide +kernel
theorem dW_odds_32 : decode (mcc mW_odds) 32 = .ok (.iload 4, 2) := o21 (a := 4) (byt_of hW_odds_b1 (j := 0) rfl) (byt_of hW_odds_b1 (j := 1) rfl)
theorem dW_odds_34 : decode (mcc mW_odds) 34 = .ok (.iconst 0, 1) := o3 (byt_of hW_odds_b1 (j := 2) rfl)
theorem dW_odds_35 : decode (mcc mW_odds) 35 = .ok (.iconst 1, 1) := o4 (byt_of hW_odds_b1 (j := 3) rfl)
theorem dW_odds_36 : decode (mcc mW_odds) 36 = .ok (.invokestatic 101, 3) := o184 (a := 0) (b := 101) (byt_of hW_odds_b1 (j := 4) rfl) (byt_of hW_odds_b1 (j := 5) rfl) (byt_of hW_odds_b1 (j := 6) rfl) rfl
theorem dW_odds_39 : decode (mcc mW_odds) 39 = .ok (.ifCond .ne 7, 3) := o154 (a := 0) (b := 7) (byt_of hW_odds_b1 (j := 7) rfl) (byt_of hW_odds_b1 (j := 8) rfl) (byt_of hW_odds_b1 (j := 9) rfl) rfl
theorem dW_odds_42 : decode (mcc mW_odds) 42 = .ok (.ldc2_w 287, 3) := o20 (a := 1) (b := 31) (byt_of hW_odds_b1 (j := 10) rfl) (byt_of hW_odds_b1 (j := 11) rfl) (byt_of hW_odds_b1 (j := 12) rfl) rfl
theorem dW_odds_45 : decode (mcc mW_odds) 45 = .ok (.lreturn, 1) := o173 (byt_of hW_odds_b1 (j := 13) rfl)
theorem dW_odds_46 : decode (mcc mW_odds) 46 = .ok (.aload_n 0, 1) := o42 (byt_of hW_odds_b1 (j := 14) rfl)
theorem dW_odds_47 : decode (mcc mW_odds) 47 = .ok (.getfield 56, 3) := o180 (a := 0) (b := 56) (byt_of hW_odds_b1 (j := 15) rfl) (byt_of hW_odds_b1 (j := 16) rfl) (byt_of hW_odds_b1 (j := 17) rfl) rfl
theorem dW_odds_50 : decode (mcc mW_odds) 50 = .ok (.aload_n 0, 1) := o42 (byt_of hW_odds_b1 (j := 18) rfl)
theorem dW_odds_51 : decode (mcc mW_odds) 51 = .ok (.getfield 47, 3) := o180 (a := 0) (b := 47) (byt_of hW_odds_b1 (j := 19) rfl) (byt_of hW_odds_b1 (j := 20) rfl) (byt_of hW_odds_b1 (j := 21) rfl) rfl
theorem dW_odds_54 : decode (mcc mW_odds) 54 = .ok (.getfield 127, 3) := o180 (a := 0) (b := 127) (byt_of hW_odds_b1 (j := 22) rfl) (byt_of hW_odds_b1 (j := 23) rfl) (byt_of hW_odds_b1 (j := 24) rfl) rfl
theorem dW_odds_57 : decode (mcc mW_odds) 57 = .ok (.invokevirtual 205, 3) := o182 (a := 0) (b := 205) (byt_of hW_odds_b1 (j := 25) rfl) (byt_of hW_odds_b1 (j := 26) rfl) (byt_of hW_odds_b1 (j := 27) rfl) rfl
theorem dW_odds_60 : decode (mcc mW_odds) 60 = .ok (.iconst 0, 1) := o3 (byt_of hW_odds_b1 (j := 28) rfl)
theorem dW_odds_61 : decode (mcc mW_odds) 61 = .ok (.istore 5, 2) := o54 (a := 5) (byt_of hW_odds_b1 (j := 29) rfl) (byt_of hW_odds_b1 (j := 30) rfl)
theorem dW_odds_63 : decode (mcc mW_odds) 63 = .ok (.iconst 0, 1) := o3 (byt_of hW_odds_b1 (j := 31) rfl)
def bW_odds_b2 : List Nat := [54, 6, 21, 6, 29, 162, 0, 40, 42, 180, 0, 56, 28, 21, 6, 96, 19, 1, 55, 184, 1, 59, 182, 1, 56, 42, 180, 0, 56, 27, 182, 0, 248, 153, 0, 6, 132, 5]
theorem hW_odds_b2 : BL (mcc mW_odds) 64 bW_odds_b2 := by decide +kernel
theorem dW_odds_64 : decode (mcc mW_odds) 64 = .ok (.istore 6, 2) := o54 (a := 6) (byt_of hW_odds_b2 (j := 0) rfl) (byt_of hW_odds_b2 (j := 1) rfl)
theorem dW_odds_66 : decode (mcc mW_odds) 66 = .ok (.iload 6, 2) := o21 (a := 6) (byt_of hW_odds_b2 (j := 2) rfl) (byt_of hW_odds_b2 (j := 3) rfl)
theorem dW_odds_68 : decode (mcc mW_odds) 68 = .ok (.iload_n 3, 1) := o29 (byt_of hW_odds_b2 (j := 4) rfl)
theorem dW_odds_69 : decode (mcc mW_odds) 69 = .ok (.if_icmp .ge 40, 3) := o162 (a := 0) (b := 40) (byt_of hW_odds_b2 (j := 5) rfl) (byt_of hW_odds_b2 (j := 6) rfl) (byt_of hW_odds_b2 (j := 7) rfl) rfl
theorem dW_odds_72 : decode (mcc mW_odds) 72 = .ok (.aload_n 0, 1) := o42 (byt_of hW_odds_b2 (j := 8) rfl)
theorem dW_odds_73 : decode (mcc mW_odds) 73 = .ok (.getfield 56, 3) := o180 (a := 0) (b := 56) (byt_of hW_odds_b2 (j := 9) rfl) (byt_of hW_odds_b2 (j := 10) rfl) (byt_of hW_odds_b2 (j := 11) rfl) rfl
theorem dW_odds_76 : decode (mcc mW_odds) 76 = .ok (.iload_n 2, 1) := o28 (byt_of hW_odds_b2 (j := 12) rfl)
theorem dW_odds_77 : decode (mcc mW_odds) 77 = .ok (.iload 6, 2) := o21 (a := 6) (byt_of hW_odds_b2 (j := 13) rfl) (byt_of hW_odds_b2 (j := 14) rfl)
theorem dW_odds_79 : decode (mcc mW_odds) 79 = .ok (.iadd, 1) := o96 (byt_of hW_odds_b2 (j := 15) rfl)
theorem dW_odds_80 : decode (mcc mW_odds) 80 = .ok (.ldc_w 311, 3) := o19 (a := 1) (b := 55) (byt_of hW_odds_b2 (j := 16) rfl) (byt_of hW_odds_b2 (j := 17) rfl) (byt_of hW_odds_b2 (j := 18) rfl) rfl
theorem dW_odds_83 : decode (mcc mW_odds) 83 = .ok (.invokestatic 315, 3) := o184 (a := 1) (b := 59) (byt_of hW_odds_b2 (j := 19) rfl) (byt_of hW_odds_b2 (j := 20) rfl) (byt_of hW_odds_b2 (j := 21) rfl) rfl
theorem dW_odds_86 : decode (mcc mW_odds) 86 = .ok (.invokevirtual 312, 3) := o182 (a := 1) (b := 56) (byt_of hW_odds_b2 (j := 22) rfl) (byt_of hW_odds_b2 (j := 23) rfl) (byt_of hW_odds_b2 (j := 24) rfl) rfl
theorem dW_odds_89 : decode (mcc mW_odds) 89 = .ok (.aload_n 0, 1) := o42 (byt_of hW_odds_b2 (j := 25) rfl)
theorem dW_odds_90 : decode (mcc mW_odds) 90 = .ok (.getfield 56, 3) := o180 (a := 0) (b := 56) (byt_of hW_odds_b2 (j := 26) rfl) (byt_of hW_odds_b2 (j := 27) rfl) (byt_of hW_odds_b2 (j := 28) rfl) rfl
theorem dW_odds_93 : decode (mcc mW_odds) 93 = .ok (.iload_n 1, 1) := o27 (byt_of hW_odds_b2 (j := 29) rfl)
theorem dW_odds_94 : decode (mcc mW_odds) 94 = .ok (.invokevirtual 248, 3) := o182 (a := 0) (b := 248) (byt_of hW_odds_b2 (j := 30) rfl) (byt_of hW_odds_b2 (j := 31) rfl) (byt_of hW_odds_b2 (j := 32) rfl) rfl
def bW_odds_b3 : List Nat := [248, 153, 0, 6, 132, 5, 1, 132, 6, 1, 167, 255, 216, 21, 5, 29, 184, 1, 62, 54, 6, 21, 4, 154, 0, 12, 21, 5, 21, 6, 108, 133, 167, 0, 8, 29, 21, 6]
theorem hW_odds_b3 : BL (mcc mW_odds) 96 bW_odds_b3 := by decide +kernel
theorem dW_odds_97 : decode (mcc mW_odds) 97 = .ok (.ifCond .eq 6, 3) := o153 (a := 0) (b := 6) (byt_of hW_odds_b3 (j := 1) rfl) (byt_of hW_odds_b3 (j := 2) rfl) (byt_of hW_odds_b3 (j := 3) rfl) rfl
theorem dW_odds_100 : decode (mcc mW_odds) 100 = .ok (.iinc 5 1, 3) := o132 (a := 5) (b := 1) (byt_of hW_odds_b3 (j := 4) rfl) (byt_of hW_odds_b3 (j := 5) rfl) (byt_of hW_odds_b3 (j := 6) rfl) rfl
theorem dW_odds_103 : decode (mcc mW_odds) 103 = .ok (.iinc 6 1, 3) := o132 (a := 6) (b := 1) (byt_of hW_odds_b3 (j := 7) rfl) (byt_of hW_odds_b3 (j := 8) rfl) (byt_of hW_odds_b3 (j := 9) rfl) rfl
theorem dW_odds_106 : decode (mcc mW_odds) 106 = .ok (.goto (-40), 3) := o167 (a := 255) (b := 216) (byt_of hW_odds_b3 (j := 10) rfl) (byt_of hW_odds_b3 (j := 11) rfl) (byt_of hW_odds_b3 (j := 12) rfl) rfl
theorem dW_odds_109 : decode (mcc mW_odds) 109 = .ok (.iload 5, 2) := o21 (a := 5) (byt_of hW_odds_b3 (j := 13) rfl) (byt_of hW_odds_b3 (j := 14) rfl)
theorem dW_odds_111 : decode (mcc mW_odds) 111 = .ok (.iload_n 3, 1) := o29 (byt_of hW_odds_b3 (j := 15) rfl)
theorem dW_odds_112 : decode (mcc mW_odds) 112 = .ok (.invokestatic 318, 3) := o184 (a := 1) (b := 62) (byt_of hW_odds_b3 (j := 16) rfl) (byt_of hW_odds_b3 (j := 17) rfl) (byt_of hW_odds_b3 (j := 18) rfl) rfl
theorem dW_odds_115 : decode (mcc mW_odds) 115 = .ok (.istore 6, 2) := o54 (a := 6) (byt_of hW_odds_b3 (j := 19) rfl) (byt_of hW_odds_b3 (j := 20) rfl)
theorem dW_odds_117 : decode (mcc mW_odds) 117 = .ok (.iload 4, 2) := o21 (a := 4) (byt_of hW_odds_b3 (j := 21) rfl) (byt_of hW_odds_b3 (j := 22) rfl)
theorem dW_odds_119 : decode (mcc mW_odds) 119 = .ok (.ifCond .ne 12, 3) := o154 (a := 0) (b := 12) (byt_of hW_odds_b3 (j := 23) rfl) (byt_of hW_odds_b3 (j := 24) rfl) (byt_of hW_odds_b3 (j := 25) rfl) rfl
theorem dW_odds_122 : decode (mcc mW_odds) 122 = .ok (.iload 5, 2) := o21 (a := 5) (byt_of hW_odds_b3 (j := 26) rfl) (byt_of hW_odds_b3 (j := 27) rfl)
theorem dW_odds_124 : decode (mcc mW_odds) 124 = .ok (.iload 6, 2) := o21 (a := 6) (byt_of hW_odds_b3 (j := 28) rfl) (byt_of hW_odds_b3 (j := 29) rfl)
theorem dW_odds_126 : decode (mcc mW_odds) 126 = .ok (.idiv, 1) := o108 (byt_of hW_odds_b3 (j := 30) rfl)
theorem dW_odds_127 : decode (mcc mW_odds) 127 = .ok (.i2l, 1) := o133 (byt_of hW_odds_b3 (j := 31) rfl)
def bW_odds_b4 : List Nat := [167, 0, 8, 29, 21, 6, 108, 133, 173]
theorem hW_odds_b4 : BL (mcc mW_odds) 128 bW_odds_b4 := by decide +kernel
theorem dW_odds_128 : decode (mcc mW_odds) 128 = .ok (.goto 8, 3) := o167 (a := 0) (b := 8) (byt_of hW_odds_b4 (j := 0) rfl) (byt_of hW_odds_b4 (j := 1) rfl) (byt_of hW_odds_b4 (j := 2) rfl) rfl
theorem dW_odds_131 : decode (mcc mW_odds) 131 = .ok (.iload_n 3, 1) := o29 (byt_of hW_odds_b4 (j := 3) rfl)
theorem dW_odds_132 : decode (mcc mW_odds) 132 = .ok (.iload 6, 2) := o21 (a := 6) (byt_of hW_odds_b4 (j := 4) rfl) (byt_of hW_odds_b4 (j := 5) rfl)
theorem dW_odds_134 : decode (mcc mW_odds) 134 = .ok (.idiv, 1) := o108 (byt_of hW_odds_b4 (j := 6) rfl)
theorem dW_odds_135 : decode (mcc mW_odds) 135 = .ok (.i2l, 1) := o133 (byt_of hW_odds_b4 (j := 7) rfl)
theorem dW_odds_136 : decode (mcc mW_odds) 136 = .ok (.lreturn, 1) := o173 (byt_of hW_odds_b4 (j := 8) rfl)
def bW_image_b0 : List Nat := [42, 180, 0, 63, 42, 180, 0, 12, 42, 180, 0, 19, 42, 180, 0, 33, 42, 180, 0, 47, 182, 1, 65, 42, 180, 0, 33, 180, 0, 125, 172]
theorem hW_image_b0 : BL (mcc mW_image) 0 bW_image_b0 := by decide +kernel
theorem dW_image_0 : decode (mcc mW_image) 0 = .ok (.aload_n 0, 1) := o42 (byt_of hW_image_b0 (j := 0) rfl)
theorem dW_image_1 : decode (mcc mW_image) 1 = .ok (.getfield 63, 3) := o180 (a := 0) (b := 63) (byt_of hW_image_b0 (j := 1) rfl) (byt_of hW_image_b0 (j := 2) rfl) (byt_of hW_image_b0 (j := 3) rfl) rfl
theorem dW_image_4 : decode (mcc mW_image) 4 = .ok (.aload_n 0, 1) := o42 (byt_of hW_image_b0 (j := 4) rfl)
theorem dW_image_5 : decode (mcc mW_image) 5 = .ok (.getfield 12, 3) := o180 (a := 0) (b := 12) (byt_of hW_image_b0 (j := 5) rfl) (byt_of hW_image_b0 (j := 6) rfl) (byt_of hW_image_b0 (j := 7) rfl) rfl
theorem dW_image_8 : decode (mcc mW_image) 8 = .ok (.aload_n 0, 1) := o42 (byt_of hW_image_b0 (j := 8) rfl)
theorem dW_image_9 : decode (mcc mW_image) 9 = .ok (.getfield 19, 3) := o180 (a := 0) (b := 19) (byt_of hW_image_b0 (j := 9) rfl) (byt_of hW_image_b0 (j := 10) rfl) (byt_of hW_image_b0 (j := 11) rfl) rfl
theorem dW_image_12 : decode (mcc mW_image) 12 = .ok (.aload_n 0, 1) := o42 (byt_of hW_image_b0 (j := 12) rfl)
theorem dW_image_13 : decode (mcc mW_image) 13 = .ok (.getfield 33, 3) := o180 (a := 0) (b := 33) (byt_of hW_image_b0 (j := 13) rfl) (byt_of hW_image_b0 (j := 14) rfl) (byt_of hW_image_b0 (j := 15) rfl) rfl
theorem dW_image_16 : decode (mcc mW_image) 16 = .ok (.aload_n 0, 1) := o42 (byt_of hW_image_b0 (j := 16) rfl)
theorem dW_image_17 : decode (mcc mW_image) 17 = .ok (.getfield 47, 3) := o180 (a := 0) (b := 47) (byt_of hW_image_b0 (j := 17) rfl) (byt_of hW_image_b0 (j := 18) rfl) (byt_of hW_image_b0 (j := 19) rfl) rfl
theorem dW_image_20 : decode (mcc mW_image) 20 = .ok (.invokevirtual 321, 3) := o182 (a := 1) (b := 65) (byt_of hW_image_b0 (j := 20) rfl) (byt_of hW_image_b0 (j := 21) rfl) (byt_of hW_image_b0 (j := 22) rfl) rfl
theorem dW_image_23 : decode (mcc mW_image) 23 = .ok (.aload_n 0, 1) := o42 (byt_of hW_image_b0 (j := 23) rfl)
theorem dW_image_24 : decode (mcc mW_image) 24 = .ok (.getfield 33, 3) := o180 (a := 0) (b := 33) (byt_of hW_image_b0 (j := 24) rfl) (byt_of hW_image_b0 (j := 25) rfl) (byt_of hW_image_b0 (j := 26) rfl) rfl
theorem dW_image_27 : decode (mcc mW_image) 27 = .ok (.getfield 125, 3) := o180 (a := 0) (b := 125) (byt_of hW_image_b0 (j := 27) rfl) (byt_of hW_image_b0 (j := 28) rfl) (byt_of hW_image_b0 (j := 29) rfl) rfl
theorem dW_image_30 : decode (mcc mW_image) 30 = .ok (.ireturn, 1) := o172 (byt_of hW_image_b0 (j := 30) rfl)
def bW_back_b0 : List Nat := [42, 180, 0, 63, 180, 1, 69, 154, 0, 6, 16, 253, 172, 42, 180, 0, 63, 42, 180, 0, 12, 42, 180, 0, 19, 42, 180, 0, 33, 42, 180, 0, 47, 182, 1, 73, 42, 180]
theorem hW_back_b0 : BL (mcc mW_back) 0 bW_back_b0 := by decide +kernel
theorem dW_back_0 : decode (mcc mW_back) 0 = .ok (.aload_n 0, 1) := o42 (byt_of hW_back_b0 (j := 0) rfl)
theorem dW_back_1 : decode (mcc mW_back) 1 = .ok (.getfield 63, 3) := o180 (a := 0) (b := 63) (byt_of hW_back_b0 (j := 1) rfl) (byt_of hW_back_b0 (j := 2) rfl) (byt_of hW_back_b0 (j := 3) rfl) rfl
theorem dW_back_4 : decode (mcc mW_back) 4 = .ok (.getfield 325, 3) := o180 (a := 1) (b := 69) (byt_of hW_back_b0 (j := 4) rfl) (byt_of hW_back_b0 (j := 5) rfl) (byt_of hW_back_b0 (j := 6) rfl) rfl
theorem dW_back_7 : decode (mcc mW_back) 7 = .ok (.ifCond .ne 6, 3) := o154 (a := 0) (b := 6) (byt_of hW_back_b0 (j := 7) rfl) (byt_of hW_back_b0 (j := 8) rfl) (byt_of hW_back_b0 (j := 9) rfl) rfl
theorem dW_back_10 : decode (mcc mW_back) 10 = .ok (.bipush (-3), 2) := o16 (a := 253) (byt_of hW_back_b0 (j := 10) rfl) (byt_of hW_back_b0 (j := 11) rfl) rfl
theorem dW_back_12 : decode (mcc mW_back) 12 = .ok (.ireturn, 1) := o172 (byt_of hW_back_b0 (j := 12) rfl)
theorem dW_back_13 : decode (mcc mW_back) 13 = .ok (.aload_n 0, 1) := o42 (byt_of hW_back_b0 (j := 13) rfl)
theorem dW_back_14 : decode (mcc mW_back) 14 = .ok (.getfield 63, 3) := o180 (a := 0) (b := 63) (byt_of hW_back_b0 (j := 14) rfl) (byt_of hW_back_b0 (j := 15) rfl) (byt_of hW_back_b0 (j := 16) rfl) rfl
theorem dW_back_17 : decode (mcc mW_back) 17 = .ok (.aload_n 0, 1) := o42 (byt_of hW_back_b0 (j := 17) rfl)
theorem dW_back_18 : decode (mcc mW_back) 18 = .ok (.getfield 12, 3) := o180 (a := 0) (b := 12) (byt_of hW_back_b0 (j := 18) rfl) (byt_of hW_back_b0 (j := 19) rfl) (byt_of hW_back_b0 (j := 20) rfl) rfl
theorem dW_back_21 : decode (mcc mW_back) 21 = .ok (.aload_n 0, 1) := o42 (byt_of hW_back_b0 (j := 21) rfl)
theorem dW_back_22 : decode (mcc mW_back) 22 = .ok (.getfield 19, 3) := o180 (a := 0) (b := 19) (byt_of hW_back_b0 (j := 22) rfl) (byt_of hW_back_b0 (j := 23) rfl) (byt_of hW_back_b0 (j := 24) rfl) rfl
theorem dW_back_25 : decode (mcc mW_back) 25 = .ok (.aload_n 0, 1) := o42 (byt_of hW_back_b0 (j := 25) rfl)
theorem dW_back_26 : decode (mcc mW_back) 26 = .ok (.getfield 33, 3) := o180 (a := 0) (b := 33) (byt_of hW_back_b0 (j := 26) rfl) (byt_of hW_back_b0 (j := 27) rfl) (byt_of hW_back_b0 (j := 28) rfl) rfl
theorem dW_back_29 : decode (mcc mW_back) 29 = .ok (.aload_n 0, 1) := o42 (byt_of hW_back_b0 (j := 29) rfl)
theorem dW_back_30 : decode (mcc mW_back) 30 = .ok (.getfield 47, 3) := o180 (a := 0) (b := 47) (byt_of hW_back_b0 (j := 30) rfl) (byt_of hW_back_b0 (j := 31) rfl) (byt_of hW_back_b0 (j := 32) rfl) rfl
def bW_back_b1 : List Nat := [47, 182, 1, 73, 42, 180, 0, 33, 180, 0, 125, 172]
theorem hW_back_b1 : BL (mcc mW_back) 32 bW_back_b1 := by decide +kernel
theorem dW_back_33 : decode (mcc mW_back) 33 = .ok (.invokevirtual 329, 3) := o182 (a := 1) (b := 73) (byt_of hW_back_b1 (j := 1) rfl) (byt_of hW_back_b1 (j := 2) rfl) (byt_of hW_back_b1 (j := 3) rfl) rfl
theorem dW_back_36 : decode (mcc mW_back) 36 = .ok (.aload_n 0, 1) := o42 (byt_of hW_back_b1 (j := 4) rfl)
theorem dW_back_37 : decode (mcc mW_back) 37 = .ok (.getfield 33, 3) := o180 (a := 0) (b := 33) (byt_of hW_back_b1 (j := 5) rfl) (byt_of hW_back_b1 (j := 6) rfl) (byt_of hW_back_b1 (j := 7) rfl) rfl
theorem dW_back_40 : decode (mcc mW_back) 40 = .ok (.getfield 125, 3) := o180 (a := 0) (b := 125) (byt_of hW_back_b1 (j := 8) rfl) (byt_of hW_back_b1 (j := 9) rfl) (byt_of hW_back_b1 (j := 10) rfl) rfl
theorem dW_back_43 : decode (mcc mW_back) 43 = .ok (.ireturn, 1) := o172 (byt_of hW_back_b1 (j := 11) rfl)
def bW_sheet_b0 : List Nat := [27, 3, 6, 184, 0, 101, 153, 0, 12, 28, 2, 5, 184, 0, 101, 154, 0, 6, 16, 254, 172, 28, 2, 159, 0, 12, 29, 16, 40, 164, 0, 6, 16, 254, 172, 28, 2, 159]
theorem hW_sheet_b0 : BL (mcc mW_sheet) 0 bW_sheet_b0 := by decide +kernel
theorem dW_sheet_0 : decode (mcc mW_sheet) 0 = .ok (.iload_n 1, 1) := o27 (byt_of hW_sheet_b0 (j := 0) rfl)
theorem dW_sheet_1 : decode (mcc mW_sheet) 1 = .ok (.iconst 0, 1) := o3 (byt_of hW_sheet_b0 (j := 1) rfl)
theorem dW_sheet_2 : decode (mcc mW_sheet) 2 = .ok (.iconst 3, 1) := o6 (byt_of hW_sheet_b0 (j := 2) rfl)
theorem dW_sheet_3 : decode (mcc mW_sheet) 3 = .ok (.invokestatic 101, 3) := o184 (a := 0) (b := 101) (byt_of hW_sheet_b0 (j := 3) rfl) (byt_of hW_sheet_b0 (j := 4) rfl) (byt_of hW_sheet_b0 (j := 5) rfl) rfl
theorem dW_sheet_6 : decode (mcc mW_sheet) 6 = .ok (.ifCond .eq 12, 3) := o153 (a := 0) (b := 12) (byt_of hW_sheet_b0 (j := 6) rfl) (byt_of hW_sheet_b0 (j := 7) rfl) (byt_of hW_sheet_b0 (j := 8) rfl) rfl
theorem dW_sheet_9 : decode (mcc mW_sheet) 9 = .ok (.iload_n 2, 1) := o28 (byt_of hW_sheet_b0 (j := 9) rfl)
theorem dW_sheet_10 : decode (mcc mW_sheet) 10 = .ok (.iconst (-1), 1) := o2 (byt_of hW_sheet_b0 (j := 10) rfl)
theorem dW_sheet_11 : decode (mcc mW_sheet) 11 = .ok (.iconst 2, 1) := o5 (byt_of hW_sheet_b0 (j := 11) rfl)
theorem dW_sheet_12 : decode (mcc mW_sheet) 12 = .ok (.invokestatic 101, 3) := o184 (a := 0) (b := 101) (byt_of hW_sheet_b0 (j := 12) rfl) (byt_of hW_sheet_b0 (j := 13) rfl) (byt_of hW_sheet_b0 (j := 14) rfl) rfl
theorem dW_sheet_15 : decode (mcc mW_sheet) 15 = .ok (.ifCond .ne 6, 3) := o154 (a := 0) (b := 6) (byt_of hW_sheet_b0 (j := 15) rfl) (byt_of hW_sheet_b0 (j := 16) rfl) (byt_of hW_sheet_b0 (j := 17) rfl) rfl
theorem dW_sheet_18 : decode (mcc mW_sheet) 18 = .ok (.bipush (-2), 2) := o16 (a := 254) (byt_of hW_sheet_b0 (j := 18) rfl) (byt_of hW_sheet_b0 (j := 19) rfl) rfl
theorem dW_sheet_20 : decode (mcc mW_sheet) 20 = .ok (.ireturn, 1) := o172 (byt_of hW_sheet_b0 (j := 20) rfl)
theorem dW_sheet_21 : decode (mcc mW_sheet) 21 = .ok (.iload_n 2, 1) := o28 (byt_of hW_sheet_b0 (j := 21) rfl)
theorem dW_sheet_22 : decode (mcc mW_sheet) 22 = .ok (.iconst (-1), 1) := o2 (byt_of hW_sheet_b0 (j := 22) rfl)
theorem dW_sheet_23 : decode (mcc mW_sheet) 23 = .ok (.if_icmp .eq 12, 3) := o159 (a := 0) (b := 12) (byt_of hW_sheet_b0 (j := 23) rfl) (byt_of hW_sheet_b0 (j := 24) rfl) (byt_of hW_sheet_b0 (j := 25) rfl) rfl
theorem dW_sheet_26 : decode (mcc mW_sheet) 26 = .ok (.iload_n 3, 1) := o29 (byt_of hW_sheet_b0 (j := 26) rfl)
theorem dW_sheet_27 : decode (mcc mW_sheet) 27 = .ok (.bipush 40, 2) := o16 (a := 40) (byt_of hW_sheet_b0 (j := 27) rfl) (byt_of hW_sheet_b0 (j := 28) rfl) rfl
theorem dW_sheet_29 : decode (mcc mW_sheet) 29 = .ok (.if_icmp .le 6, 3) := o164 (a := 0) (b := 6) (byt_of hW_sheet_b0 (j := 29) rfl) (byt_of hW_sheet_b0 (j := 30) rfl) (byt_of hW_sheet_b0 (j := 31) rfl) rfl
def bW_sheet_b1 : List Nat := [16, 254, 172, 28, 2, 159, 0, 10, 29, 156, 0, 6, 16, 242, 172, 42, 180, 0, 70, 27, 28, 28, 2, 160, 0, 7, 3, 167, 0, 4, 29, 182, 1, 76, 4, 172]
theorem hW_sheet_b1 : BL (mcc mW_sheet) 32 bW_sheet_b1 := by decide +kernel
theorem dW_sheet_32 : decode (mcc mW_sheet) 32 = .ok (.bipush (-2), 2) := o16 (a := 254) (byt_of hW_sheet_b1 (j := 0) rfl) (byt_of hW_sheet_b1 (j := 1) rfl) rfl
theorem dW_sheet_34 : decode (mcc mW_sheet) 34 = .ok (.ireturn, 1) := o172 (byt_of hW_sheet_b1 (j := 2) rfl)
theorem dW_sheet_35 : decode (mcc mW_sheet) 35 = .ok (.iload_n 2, 1) := o28 (byt_of hW_sheet_b1 (j := 3) rfl)
theorem dW_sheet_36 : decode (mcc mW_sheet) 36 = .ok (.iconst (-1), 1) := o2 (byt_of hW_sheet_b1 (j := 4) rfl)
theorem dW_sheet_37 : decode (mcc mW_sheet) 37 = .ok (.if_icmp .eq 10, 3) := o159 (a := 0) (b := 10) (byt_of hW_sheet_b1 (j := 5) rfl) (byt_of hW_sheet_b1 (j := 6) rfl) (byt_of hW_sheet_b1 (j := 7) rfl) rfl
theorem dW_sheet_40 : decode (mcc mW_sheet) 40 = .ok (.iload_n 3, 1) := o29 (byt_of hW_sheet_b1 (j := 8) rfl)
theorem dW_sheet_41 : decode (mcc mW_sheet) 41 = .ok (.ifCond .ge 6, 3) := o156 (a := 0) (b := 6) (byt_of hW_sheet_b1 (j := 9) rfl) (byt_of hW_sheet_b1 (j := 10) rfl) (byt_of hW_sheet_b1 (j := 11) rfl) rfl
theorem dW_sheet_44 : decode (mcc mW_sheet) 44 = .ok (.bipush (-14), 2) := o16 (a := 242) (byt_of hW_sheet_b1 (j := 12) rfl) (byt_of hW_sheet_b1 (j := 13) rfl) rfl
theorem dW_sheet_46 : decode (mcc mW_sheet) 46 = .ok (.ireturn, 1) := o172 (byt_of hW_sheet_b1 (j := 14) rfl)
theorem dW_sheet_47 : decode (mcc mW_sheet) 47 = .ok (.aload_n 0, 1) := o42 (byt_of hW_sheet_b1 (j := 15) rfl)
theorem dW_sheet_48 : decode (mcc mW_sheet) 48 = .ok (.getfield 70, 3) := o180 (a := 0) (b := 70) (byt_of hW_sheet_b1 (j := 16) rfl) (byt_of hW_sheet_b1 (j := 17) rfl) (byt_of hW_sheet_b1 (j := 18) rfl) rfl
theorem dW_sheet_51 : decode (mcc mW_sheet) 51 = .ok (.iload_n 1, 1) := o27 (byt_of hW_sheet_b1 (j := 19) rfl)
theorem dW_sheet_52 : decode (mcc mW_sheet) 52 = .ok (.iload_n 2, 1) := o28 (byt_of hW_sheet_b1 (j := 20) rfl)
theorem dW_sheet_53 : decode (mcc mW_sheet) 53 = .ok (.iload_n 2, 1) := o28 (byt_of hW_sheet_b1 (j := 21) rfl)
theorem dW_sheet_54 : decode (mcc mW_sheet) 54 = .ok (.iconst (-1), 1) := o2 (byt_of hW_sheet_b1 (j := 22) rfl)
theorem dW_sheet_55 : decode (mcc mW_sheet) 55 = .ok (.if_icmp .ne 7, 3) := o160 (a := 0) (b := 7) (byt_of hW_sheet_b1 (j := 23) rfl) (byt_of hW_sheet_b1 (j := 24) rfl) (byt_of hW_sheet_b1 (j := 25) rfl) rfl
theorem dW_sheet_58 : decode (mcc mW_sheet) 58 = .ok (.iconst 0, 1) := o3 (byt_of hW_sheet_b1 (j := 26) rfl)
theorem dW_sheet_59 : decode (mcc mW_sheet) 59 = .ok (.goto 4, 3) := o167 (a := 0) (b := 4) (byt_of hW_sheet_b1 (j := 27) rfl) (byt_of hW_sheet_b1 (j := 28) rfl) (byt_of hW_sheet_b1 (j := 29) rfl) rfl
theorem dW_sheet_62 : decode (mcc mW_sheet) 62 = .ok (.iload_n 3, 1) := o29 (byt_of hW_sheet_b1 (j := 30) rfl)
theorem dW_sheet_63 : decode (mcc mW_sheet) 63 = .ok (.invokevirtual 332, 3) := o182 (a := 1) (b := 76) (byt_of hW_sheet_b1 (j := 31) rfl) (byt_of hW_sheet_b1 (j := 32) rfl) (byt_of hW_sheet_b1 (j := 33) rfl) rfl
def bW_sheet_b2 : List Nat := [1, 76, 4, 172]
theorem hW_sheet_b2 : BL (mcc mW_sheet) 64 bW_sheet_b2 := by decide +kernel
theorem dW_sheet_66 : decode (mcc mW_sheet) 66 = .ok (.iconst 1, 1) := o4 (byt_of hW_sheet_b2 (j := 2) rfl)
theorem dW_sheet_67 : decode (mcc mW_sheet) 67 = .ok (.ireturn, 1) := o172 (byt_of hW_sheet_b2 (j := 3) rfl)
def bW_cell_b0 : List Nat := [27, 3, 6, 184, 0, 101, 154, 0, 6, 16, 254, 172, 42, 180, 0, 70, 27, 182, 1, 79, 153, 0, 6, 16, 245, 172, 28, 3, 42, 180, 0, 70, 180, 1, 82, 27, 46, 4]
theorem hW_cell_b0 : BL (mcc mW_cell) 0 bW_cell_b0 := by decide +kernel
theorem dW_cell_0 : decode (mcc mW_cell) 0 = .ok (.iload_n 1, 1) := o27 (byt_of hW_cell_b0 (j := 0) rfl)
theorem dW_cell_1 : decode (mcc mW_cell) 1 = .ok (.iconst 0, 1) := o3 (byt_of hW_cell_b0 (j := 1) rfl)
theorem dW_cell_2 : decode (mcc mW_cell) 2 = .ok (.iconst 3, 1) := o6 (byt_of hW_cell_b0 (j := 2) rfl)
theorem dW_cell_3 : decode (mcc mW_cell) 3 = .ok (.invokestatic 101, 3) := o184 (a := 0) (b := 101) (byt_of hW_cell_b0 (j := 3) rfl) (byt_of hW_cell_b0 (j := 4) rfl) (byt_of hW_cell_b0 (j := 5) rfl) rfl
theorem dW_cell_6 : decode (mcc mW_cell) 6 = .ok (.ifCond .ne 6, 3) := o154 (a := 0) (b := 6) (byt_of hW_cell_b0 (j := 6) rfl) (byt_of hW_cell_b0 (j := 7) rfl) (byt_of hW_cell_b0 (j := 8) rfl) rfl
theorem dW_cell_9 : decode (mcc mW_cell) 9 = .ok (.bipush (-2), 2) := o16 (a := 254) (byt_of hW_cell_b0 (j := 9) rfl) (byt_of hW_cell_b0 (j := 10) rfl) rfl
theorem dW_cell_11 : decode (mcc mW_cell) 11 = .ok (.ireturn, 1) := o172 (byt_of hW_cell_b0 (j := 11) rfl)
theorem dW_cell_12 : decode (mcc mW_cell) 12 = .ok (.aload_n 0, 1) := o42 (byt_of hW_cell_b0 (j := 12) rfl)
theorem dW_cell_13 : decode (mcc mW_cell) 13 = .ok (.getfield 70, 3) := o180 (a := 0) (b := 70) (byt_of hW_cell_b0 (j := 13) rfl) (byt_of hW_cell_b0 (j := 14) rfl) (byt_of hW_cell_b0 (j := 15) rfl) rfl
theorem dW_cell_16 : decode (mcc mW_cell) 16 = .ok (.iload_n 1, 1) := o27 (byt_of hW_cell_b0 (j := 16) rfl)
theorem dW_cell_17 : decode (mcc mW_cell) 17 = .ok (.invokevirtual 335, 3) := o182 (a := 1) (b := 79) (byt_of hW_cell_b0 (j := 17) rfl) (byt_of hW_cell_b0 (j := 18) rfl) (byt_of hW_cell_b0 (j := 19) rfl) rfl
theorem dW_cell_20 : decode (mcc mW_cell) 20 = .ok (.ifCond .eq 6, 3) := o153 (a := 0) (b := 6) (byt_of hW_cell_b0 (j := 20) rfl) (byt_of hW_cell_b0 (j := 21) rfl) (byt_of hW_cell_b0 (j := 22) rfl) rfl
theorem dW_cell_23 : decode (mcc mW_cell) 23 = .ok (.bipush (-11), 2) := o16 (a := 245) (byt_of hW_cell_b0 (j := 23) rfl) (byt_of hW_cell_b0 (j := 24) rfl) rfl
theorem dW_cell_25 : decode (mcc mW_cell) 25 = .ok (.ireturn, 1) := o172 (byt_of hW_cell_b0 (j := 25) rfl)
theorem dW_cell_26 : decode (mcc mW_cell) 26 = .ok (.iload_n 2, 1) := o28 (byt_of hW_cell_b0 (j := 26) rfl)
theorem dW_cell_27 : decode (mcc mW_cell) 27 = .ok (.iconst 0, 1) := o3 (byt_of hW_cell_b0 (j := 27) rfl)
theorem dW_cell_28 : decode (mcc mW_cell) 28 = .ok (.aload_n 0, 1) := o42 (byt_of hW_cell_b0 (j := 28) rfl)
theorem dW_cell_29 : decode (mcc mW_cell) 29 = .ok (.getfield 70, 3) := o180 (a := 0) (b := 70) (byt_of hW_cell_b0 (j := 29) rfl) (byt_of hW_cell_b0 (j := 30) rfl) (byt_of hW_cell_b0 (j := 31) rfl) rfl
def bW_cell_b1 : List Nat := [180, 1, 82, 27, 46, 4, 100, 184, 0, 101, 154, 0, 6, 16, 244, 172, 42, 180, 0, 70, 27, 28, 29, 182, 1, 84, 4, 172]
theorem hW_cell_b1 : BL (mcc mW_cell) 32 bW_cell_b1 := by decide +kernel
theorem dW_cell_32 : decode (mcc mW_cell) 32 = .ok (.getfield 338, 3) := o180 (a := 1) (b := 82) (byt_of hW_cell_b1 (j := 0) rfl) (byt_of hW_cell_b1 (j := 1) rfl) (byt_of hW_cell_b1 (j := 2) rfl) rfl
theorem dW_cell_35 : decode (mcc mW_cell) 35 = .ok (.iload_n 1, 1) := o27 (byt_of hW_cell_b1 (j := 3) rfl)
theorem dW_cell_36 : decode (mcc mW_cell) 36 = .ok (.iaload, 1) := o46 (byt_of hW_cell_b1 (j := 4) rfl)
theorem dW_cell_37 : decode (mcc mW_cell) 37 = .ok (.iconst 1, 1) := o4 (byt_of hW_cell_b1 (j := 5) rfl)
theorem dW_cell_38 : decode (mcc mW_cell) 38 = .ok (.isub, 1) := o100 (byt_of hW_cell_b1 (j := 6) rfl)
theorem dW_cell_39 : decode (mcc mW_cell) 39 = .ok (.invokestatic 101, 3) := o184 (a := 0) (b := 101) (byt_of hW_cell_b1 (j := 7) rfl) (byt_of hW_cell_b1 (j := 8) rfl) (byt_of hW_cell_b1 (j := 9) rfl) rfl
theorem dW_cell_42 : decode (mcc mW_cell) 42 = .ok (.ifCond .ne 6, 3) := o154 (a := 0) (b := 6) (byt_of hW_cell_b1 (j := 10) rfl) (byt_of hW_cell_b1 (j := 11) rfl) (byt_of hW_cell_b1 (j := 12) rfl) rfl
theorem dW_cell_45 : decode (mcc mW_cell) 45 = .ok (.bipush (-12), 2) := o16 (a := 244) (byt_of hW_cell_b1 (j := 13) rfl) (byt_of hW_cell_b1 (j := 14) rfl) rfl
theorem dW_cell_47 : decode (mcc mW_cell) 47 = .ok (.ireturn, 1) := o172 (byt_of hW_cell_b1 (j := 15) rfl)
theorem dW_cell_48 : decode (mcc mW_cell) 48 = .ok (.aload_n 0, 1) := o42 (byt_of hW_cell_b1 (j := 16) rfl)
theorem dW_cell_49 : decode (mcc mW_cell) 49 = .ok (.getfield 70, 3) := o180 (a := 0) (b := 70) (byt_of hW_cell_b1 (j := 17) rfl) (byt_of hW_cell_b1 (j := 18) rfl) (byt_of hW_cell_b1 (j := 19) rfl) rfl
theorem dW_cell_52 : decode (mcc mW_cell) 52 = .ok (.iload_n 1, 1) := o27 (byt_of hW_cell_b1 (j := 20) rfl)
theorem dW_cell_53 : decode (mcc mW_cell) 53 = .ok (.iload_n 2, 1) := o28 (byt_of hW_cell_b1 (j := 21) rfl)
theorem dW_cell_54 : decode (mcc mW_cell) 54 = .ok (.iload_n 3, 1) := o29 (byt_of hW_cell_b1 (j := 22) rfl)
theorem dW_cell_55 : decode (mcc mW_cell) 55 = .ok (.invokevirtual 340, 3) := o182 (a := 1) (b := 84) (byt_of hW_cell_b1 (j := 23) rfl) (byt_of hW_cell_b1 (j := 24) rfl) (byt_of hW_cell_b1 (j := 25) rfl) rfl
theorem dW_cell_58 : decode (mcc mW_cell) 58 = .ok (.iconst 1, 1) := o4 (byt_of hW_cell_b1 (j := 26) rfl)
theorem dW_cell_59 : decode (mcc mW_cell) 59 = .ok (.ireturn, 1) := o172 (byt_of hW_cell_b1 (j := 27) rfl)
def bW_copy_b0 : List Nat := [27, 3, 6, 184, 0, 101, 153, 0, 12, 29, 3, 6, 184, 0, 101, 154, 0, 6, 16, 254, 172, 42, 180, 0, 70, 27, 182, 1, 79, 154, 0, 14, 42, 180, 0, 70, 29, 182]
theorem hW_copy_b0 : BL (mcc mW_copy) 0 bW_copy_b0 := by decide +kernel
theorem dW_copy_0 : decode (mcc mW_copy) 0 = .ok (.iload_n 1, 1) := o27 (byt_of hW_copy_b0 (j := 0) rfl)
theorem dW_copy_1 : decode (mcc mW_copy) 1 = .ok (.iconst 0, 1) := o3 (byt_of hW_copy_b0 (j := 1) rfl)
theorem dW_copy_2 : decode (mcc mW_copy) 2 = .ok (.iconst 3, 1) := o6 (byt_of hW_copy_b0 (j := 2) rfl)
theorem dW_copy_3 : decode (mcc mW_copy) 3 = .ok (.invokestatic 101, 3) := o184 (a := 0) (b := 101) (byt_of hW_copy_b0 (j := 3) rfl) (byt_of hW_copy_b0 (j := 4) rfl) (byt_of hW_copy_b0 (j := 5) rfl) rfl
theorem dW_copy_6 : decode (mcc mW_copy) 6 = .ok (.ifCond .eq 12, 3) := o153 (a := 0) (b := 12) (byt_of hW_copy_b0 (j := 6) rfl) (byt_of hW_copy_b0 (j := 7) rfl) (byt_of hW_copy_b0 (j := 8) rfl) rfl
theorem dW_copy_9 : decode (mcc mW_copy) 9 = .ok (.iload_n 3, 1) := o29 (byt_of hW_copy_b0 (j := 9) rfl)
theorem dW_copy_10 : decode (mcc mW_copy) 10 = .ok (.iconst 0, 1) := o3 (byt_of hW_copy_b0 (j := 10) rfl)
theorem dW_copy_11 : decode (mcc mW_copy) 11 = .ok (.iconst 3, 1) := o6 (byt_of hW_copy_b0 (j := 11) rfl)
theorem dW_copy_12 : decode (mcc mW_copy) 12 = .ok (.invokestatic 101, 3) := o184 (a := 0) (b := 101) (byt_of hW_copy_b0 (j := 12) rfl) (byt_of hW_copy_b0 (j := 13) rfl) (byt_of hW_copy_b0 (j := 14) rfl) rfl
theorem dW_copy_15 : decode (mcc mW_copy) 15 = .ok (.ifCond .ne 6, 3) := o154 (a := 0) (b := 6) (byt_of hW_copy_b0 (j := 15) rfl) (byt_of hW_copy_b0 (j := 16) rfl) (byt_of hW_copy_b0 (j := 17) rfl) rfl
theorem dW_copy_18 : decode (mcc mW_copy) 18 = .ok (.bipush (-2), 2) := o16 (a := 254) (byt_of hW_copy_b0 (j := 18) rfl) (byt_of hW_copy_b0 (j := 19) rfl) rfl
theorem dW_copy_20 : decode (mcc mW_copy) 20 = .ok (.ireturn, 1) := o172 (byt_of hW_copy_b0 (j := 20) rfl)
theorem dW_copy_21 : decode (mcc mW_copy) 21 = .ok (.aload_n 0, 1) := o42 (byt_of hW_copy_b0 (j := 21) rfl)
theorem dW_copy_22 : decode (mcc mW_copy) 22 = .ok (.getfield 70, 3) := o180 (a := 0) (b := 70) (byt_of hW_copy_b0 (j := 22) rfl) (byt_of hW_copy_b0 (j := 23) rfl) (byt_of hW_copy_b0 (j := 24) rfl) rfl
theorem dW_copy_25 : decode (mcc mW_copy) 25 = .ok (.iload_n 1, 1) := o27 (byt_of hW_copy_b0 (j := 25) rfl)
theorem dW_copy_26 : decode (mcc mW_copy) 26 = .ok (.invokevirtual 335, 3) := o182 (a := 1) (b := 79) (byt_of hW_copy_b0 (j := 26) rfl) (byt_of hW_copy_b0 (j := 27) rfl) (byt_of hW_copy_b0 (j := 28) rfl) rfl
theorem dW_copy_29 : decode (mcc mW_copy) 29 = .ok (.ifCond .ne 14, 3) := o154 (a := 0) (b := 14) (byt_of hW_copy_b0 (j := 29) rfl) (byt_of hW_copy_b0 (j := 30) rfl) (byt_of hW_copy_b0 (j := 31) rfl) rfl
def bW_copy_b1 : List Nat := [42, 180, 0, 70, 29, 182, 1, 79, 153, 0, 6, 16, 245, 172, 42, 180, 0, 70, 180, 1, 87, 27, 46, 42, 180, 0, 70, 180, 1, 87, 29, 46, 159, 0, 6, 16, 243, 172]
theorem hW_copy_b1 : BL (mcc mW_copy) 32 bW_copy_b1 := by decide +kernel
theorem dW_copy_32 : decode (mcc mW_copy) 32 = .ok (.aload_n 0, 1) := o42 (byt_of hW_copy_b1 (j := 0) rfl)
theorem dW_copy_33 : decode (mcc mW_copy) 33 = .ok (.getfield 70, 3) := o180 (a := 0) (b := 70) (byt_of hW_copy_b1 (j := 1) rfl) (byt_of hW_copy_b1 (j := 2) rfl) (byt_of hW_copy_b1 (j := 3) rfl) rfl
theorem dW_copy_36 : decode (mcc mW_copy) 36 = .ok (.iload_n 3, 1) := o29 (byt_of hW_copy_b1 (j := 4) rfl)
theorem dW_copy_37 : decode (mcc mW_copy) 37 = .ok (.invokevirtual 335, 3) := o182 (a := 1) (b := 79) (byt_of hW_copy_b1 (j := 5) rfl) (byt_of hW_copy_b1 (j := 6) rfl) (byt_of hW_copy_b1 (j := 7) rfl) rfl
theorem dW_copy_40 : decode (mcc mW_copy) 40 = .ok (.ifCond .eq 6, 3) := o153 (a := 0) (b := 6) (byt_of hW_copy_b1 (j := 8) rfl) (byt_of hW_copy_b1 (j := 9) rfl) (byt_of hW_copy_b1 (j := 10) rfl) rfl
theorem dW_copy_43 : decode (mcc mW_copy) 43 = .ok (.bipush (-11), 2) := o16 (a := 245) (byt_of hW_copy_b1 (j := 11) rfl) (byt_of hW_copy_b1 (j := 12) rfl) rfl
theorem dW_copy_45 : decode (mcc mW_copy) 45 = .ok (.ireturn, 1) := o172 (byt_of hW_copy_b1 (j := 13) rfl)
theorem dW_copy_46 : decode (mcc mW_copy) 46 = .ok (.aload_n 0, 1) := o42 (byt_of hW_copy_b1 (j := 14) rfl)
theorem dW_copy_47 : decode (mcc mW_copy) 47 = .ok (.getfield 70, 3) := o180 (a := 0) (b := 70) (byt_of hW_copy_b1 (j := 15) rfl) (byt_of hW_copy_b1 (j := 16) rfl) (byt_of hW_copy_b1 (j := 17) rfl) rfl
theorem dW_copy_50 : decode (mcc mW_copy) 50 = .ok (.getfield 343, 3) := o180 (a := 1) (b := 87) (byt_of hW_copy_b1 (j := 18) rfl) (byt_of hW_copy_b1 (j := 19) rfl) (byt_of hW_copy_b1 (j := 20) rfl) rfl
theorem dW_copy_53 : decode (mcc mW_copy) 53 = .ok (.iload_n 1, 1) := o27 (byt_of hW_copy_b1 (j := 21) rfl)
theorem dW_copy_54 : decode (mcc mW_copy) 54 = .ok (.iaload, 1) := o46 (byt_of hW_copy_b1 (j := 22) rfl)
theorem dW_copy_55 : decode (mcc mW_copy) 55 = .ok (.aload_n 0, 1) := o42 (byt_of hW_copy_b1 (j := 23) rfl)
theorem dW_copy_56 : decode (mcc mW_copy) 56 = .ok (.getfield 70, 3) := o180 (a := 0) (b := 70) (byt_of hW_copy_b1 (j := 24) rfl) (byt_of hW_copy_b1 (j := 25) rfl) (byt_of hW_copy_b1 (j := 26) rfl) rfl
theorem dW_copy_59 : decode (mcc mW_copy) 59 = .ok (.getfield 343, 3) := o180 (a := 1) (b := 87) (byt_of hW_copy_b1 (j := 27) rfl) (byt_of hW_copy_b1 (j := 28) rfl) (byt_of hW_copy_b1 (j := 29) rfl) rfl
theorem dW_copy_62 : decode (mcc mW_copy) 62 = .ok (.iload_n 3, 1) := o29 (byt_of hW_copy_b1 (j := 30) rfl)
theorem dW_copy_63 : decode (mcc mW_copy) 63 = .ok (.iaload, 1) := o46 (byt_of hW_copy_b1 (j := 31) rfl)
def bW_copy_b2 : List Nat := [159, 0, 6, 16, 243, 172, 21, 5, 155, 0, 44, 28, 3, 42, 180, 0, 70, 180, 1, 82, 27, 46, 21, 5, 100, 184, 0, 101, 153, 0, 24, 21, 4, 3, 42, 180, 0, 70]
theorem hW_copy_b2 : BL (mcc mW_copy) 64 bW_copy_b2 := by decide +kernel
theorem dW_copy_64 : decode (mcc mW_copy) 64 = .ok (.if_icmp .eq 6, 3) := o159 (a := 0) (b := 6) (byt_of hW_copy_b2 (j := 0) rfl) (byt_of hW_copy_b2 (j := 1) rfl) (byt_of hW_copy_b2 (j := 2) rfl) rfl
theorem dW_copy_67 : decode (mcc mW_copy) 67 = .ok (.bipush (-13), 2) := o16 (a := 243) (byt_of hW_copy_b2 (j := 3) rfl) (byt_of hW_copy_b2 (j := 4) rfl) rfl
theorem dW_copy_69 : decode (mcc mW_copy) 69 = .ok (.ireturn, 1) := o172 (byt_of hW_copy_b2 (j := 5) rfl)
theorem dW_copy_70 : decode (mcc mW_copy) 70 = .ok (.iload 5, 2) := o21 (a := 5) (byt_of hW_copy_b2 (j := 6) rfl) (byt_of hW_copy_b2 (j := 7) rfl)
theorem dW_copy_72 : decode (mcc mW_copy) 72 = .ok (.ifCond .lt 44, 3) := o155 (a := 0) (b := 44) (byt_of hW_copy_b2 (j := 8) rfl) (byt_of hW_copy_b2 (j := 9) rfl) (byt_of hW_copy_b2 (j := 10) rfl) rfl
theorem dW_copy_75 : decode (mcc mW_copy) 75 = .ok (.iload_n 2, 1) := o28 (byt_of hW_copy_b2 (j := 11) rfl)
theorem dW_copy_76 : decode (mcc mW_copy) 76 = .ok (.iconst 0, 1) := o3 (byt_of hW_copy_b2 (j := 12) rfl)
theorem dW_copy_77 : decode (mcc mW_copy) 77 = .ok (.aload_n 0, 1) := o42 (byt_of hW_copy_b2 (j := 13) rfl)
theorem dW_copy_78 : decode (mcc mW_copy) 78 = .ok (.getfield 70, 3) := o180 (a := 0) (b := 70) (byt_of hW_copy_b2 (j := 14) rfl) (byt_of hW_copy_b2 (j := 15) rfl) (byt_of hW_copy_b2 (j := 16) rfl) rfl
theorem dW_copy_81 : decode (mcc mW_copy) 81 = .ok (.getfield 338, 3) := o180 (a := 1) (b := 82) (byt_of hW_copy_b2 (j := 17) rfl) (byt_of hW_copy_b2 (j := 18) rfl) (byt_of hW_copy_b2 (j := 19) rfl) rfl
theorem dW_copy_84 : decode (mcc mW_copy) 84 = .ok (.iload_n 1, 1) := o27 (byt_of hW_copy_b2 (j := 20) rfl)
theorem dW_copy_85 : decode (mcc mW_copy) 85 = .ok (.iaload, 1) := o46 (byt_of hW_copy_b2 (j := 21) rfl)
theorem dW_copy_86 : decode (mcc mW_copy) 86 = .ok (.iload 5, 2) := o21 (a := 5) (byt_of hW_copy_b2 (j := 22) rfl) (byt_of hW_copy_b2 (j := 23) rfl)
theorem dW_copy_88 : decode (mcc mW_copy) 88 = .ok (.isub, 1) := o100 (byt_of hW_copy_b2 (j := 24) rfl)
theorem dW_copy_89 : decode (mcc mW_copy) 89 = .ok (.invokestatic 101, 3) := o184 (a := 0) (b := 101) (byt_of hW_copy_b2 (j := 25) rfl) (byt_of hW_copy_b2 (j := 26) rfl) (byt_of hW_copy_b2 (j := 27) rfl) rfl
theorem dW_copy_92 : decode (mcc mW_copy) 92 = .ok (.ifCond .eq 24, 3) := o153 (a := 0) (b := 24) (byt_of hW_copy_b2 (j := 28) rfl) (byt_of hW_copy_b2 (j := 29) rfl) (byt_of hW_copy_b2 (j := 30) rfl) rfl
theorem dW_copy_95 : decode (mcc mW_copy) 95 = .ok (.iload 4, 2) := o21 (a := 4) (byt_of hW_copy_b2 (j := 31) rfl) (byt_of hW_copy_b2 (j := 32) rfl)
def bW_copy_b3 : List Nat := [4, 3, 42, 180, 0, 70, 180, 1, 82, 29, 46, 21, 5, 100, 184, 0, 101, 154, 0, 6, 16, 244, 172, 42, 180, 0, 70, 180, 1, 90, 27, 16, 40, 104, 28, 96, 42, 180]
theorem hW_copy_b3 : BL (mcc mW_copy) 96 bW_copy_b3 := by decide +kernel
theorem dW_copy_97 : decode (mcc mW_copy) 97 = .ok (.iconst 0, 1) := o3 (byt_of hW_copy_b3 (j := 1) rfl)
theorem dW_copy_98 : decode (mcc mW_copy) 98 = .ok (.aload_n 0, 1) := o42 (byt_of hW_copy_b3 (j := 2) rfl)
theorem dW_copy_99 : decode (mcc mW_copy) 99 = .ok (.getfield 70, 3) := o180 (a := 0) (b := 70) (byt_of hW_copy_b3 (j := 3) rfl) (byt_of hW_copy_b3 (j := 4) rfl) (byt_of hW_copy_b3 (j := 5) rfl) rfl
theorem dW_copy_102 : decode (mcc mW_copy) 102 = .ok (.getfield 338, 3) := o180 (a := 1) (b := 82) (byt_of hW_copy_b3 (j := 6) rfl) (byt_of hW_copy_b3 (j := 7) rfl) (byt_of hW_copy_b3 (j := 8) rfl) rfl
theorem dW_copy_105 : decode (mcc mW_copy) 105 = .ok (.iload_n 3, 1) := o29 (byt_of hW_copy_b3 (j := 9) rfl)
theorem dW_copy_106 : decode (mcc mW_copy) 106 = .ok (.iaload, 1) := o46 (byt_of hW_copy_b3 (j := 10) rfl)
theorem dW_copy_107 : decode (mcc mW_copy) 107 = .ok (.iload 5, 2) := o21 (a := 5) (byt_of hW_copy_b3 (j := 11) rfl) (byt_of hW_copy_b3 (j := 12) rfl)
theorem dW_copy_109 : decode (mcc mW_copy) 109 = .ok (.isub, 1) := o100 (byt_of hW_copy_b3 (j := 13) rfl)
theorem dW_copy_110 : decode (mcc mW_copy) 110 = .ok (.invokestatic 101, 3) := o184 (a := 0) (b := 101) (byt_of hW_copy_b3 (j := 14) rfl) (byt_of hW_copy_b3 (j := 15) rfl) (byt_of hW_copy_b3 (j := 16) rfl) rfl
theorem dW_copy_113 : decode (mcc mW_copy) 113 = .ok (.ifCond .ne 6, 3) := o154 (a := 0) (b := 6) (byt_of hW_copy_b3 (j := 17) rfl) (byt_of hW_copy_b3 (j := 18) rfl) (byt_of hW_copy_b3 (j := 19) rfl) rfl
theorem dW_copy_116 : decode (mcc mW_copy) 116 = .ok (.bipush (-12), 2) := o16 (a := 244) (byt_of hW_copy_b3 (j := 20) rfl) (byt_of hW_copy_b3 (j := 21) rfl) rfl
theorem dW_copy_118 : decode (mcc mW_copy) 118 = .ok (.ireturn, 1) := o172 (byt_of hW_copy_b3 (j := 22) rfl)
theorem dW_copy_119 : decode (mcc mW_copy) 119 = .ok (.aload_n 0, 1) := o42 (byt_of hW_copy_b3 (j := 23) rfl)
theorem dW_copy_120 : decode (mcc mW_copy) 120 = .ok (.getfield 70, 3) := o180 (a := 0) (b := 70) (byt_of hW_copy_b3 (j := 24) rfl) (byt_of hW_copy_b3 (j := 25) rfl) (byt_of hW_copy_b3 (j := 26) rfl) rfl
theorem dW_copy_123 : decode (mcc mW_copy) 123 = .ok (.getfield 346, 3) := o180 (a := 1) (b := 90) (byt_of hW_copy_b3 (j := 27) rfl) (byt_of hW_copy_b3 (j := 28) rfl) (byt_of hW_copy_b3 (j := 29) rfl) rfl
theorem dW_copy_126 : decode (mcc mW_copy) 126 = .ok (.iload_n 1, 1) := o27 (byt_of hW_copy_b3 (j := 30) rfl)
theorem dW_copy_127 : decode (mcc mW_copy) 127 = .ok (.bipush 40, 2) := o16 (a := 40) (byt_of hW_copy_b3 (j := 31) rfl) (byt_of hW_copy_b3 (j := 32) rfl) rfl
def bW_copy_b4 : List Nat := [40, 104, 28, 96, 42, 180, 0, 70, 180, 1, 90, 29, 16, 40, 104, 21, 4, 96, 21, 5, 184, 1, 93, 21, 5, 172]
theorem hW_copy_b4 : BL (mcc mW_copy) 128 bW_copy_b4 := by decide +kernel
theorem dW_copy_129 : decode (mcc mW_copy) 129 = .ok (.imul, 1) := o104 (byt_of hW_copy_b4 (j := 1) rfl)
theorem dW_copy_130 : decode (mcc mW_copy) 130 = .ok (.iload_n 2, 1) := o28 (byt_of hW_copy_b4 (j := 2) rfl)
theorem dW_copy_131 : decode (mcc mW_copy) 131 = .ok (.iadd, 1) := o96 (byt_of hW_copy_b4 (j := 3) rfl)
theorem dW_copy_132 : decode (mcc mW_copy) 132 = .ok (.aload_n 0, 1) := o42 (byt_of hW_copy_b4 (j := 4) rfl)
theorem dW_copy_133 : decode (mcc mW_copy) 133 = .ok (.getfield 70, 3) := o180 (a := 0) (b := 70) (byt_of hW_copy_b4 (j := 5) rfl) (byt_of hW_copy_b4 (j := 6) rfl) (byt_of hW_copy_b4 (j := 7) rfl) rfl
theorem dW_copy_136 : decode (mcc mW_copy) 136 = .ok (.getfield 346, 3) := o180 (a := 1) (b := 90) (byt_of hW_copy_b4 (j := 8) rfl) (byt_of hW_copy_b4 (j := 9) rfl) (byt_of hW_copy_b4 (j := 10) rfl) rfl
theorem dW_copy_139 : decode (mcc mW_copy) 139 = .ok (.iload_n 3, 1) := o29 (byt_of hW_copy_b4 (j := 11) rfl)
theorem dW_copy_140 : decode (mcc mW_copy) 140 = .ok (.bipush 40, 2) := o16 (a := 40) (byt_of hW_copy_b4 (j := 12) rfl) (byt_of hW_copy_b4 (j := 13) rfl) rfl
theorem dW_copy_142 : decode (mcc mW_copy) 142 = .ok (.imul, 1) := o104 (byt_of hW_copy_b4 (j := 14) rfl)
theorem dW_copy_143 : decode (mcc mW_copy) 143 = .ok (.iload 4, 2) := o21 (a := 4) (byt_of hW_copy_b4 (j := 15) rfl) (byt_of hW_copy_b4 (j := 16) rfl)
theorem dW_copy_145 : decode (mcc mW_copy) 145 = .ok (.iadd, 1) := o96 (byt_of hW_copy_b4 (j := 17) rfl)
theorem dW_copy_146 : decode (mcc mW_copy) 146 = .ok (.iload 5, 2) := o21 (a := 5) (byt_of hW_copy_b4 (j := 18) rfl) (byt_of hW_copy_b4 (j := 19) rfl)
theorem dW_copy_148 : decode (mcc mW_copy) 148 = .ok (.invokestatic 349, 3) := o184 (a := 1) (b := 93) (byt_of hW_copy_b4 (j := 20) rfl) (byt_of hW_copy_b4 (j := 21) rfl) (byt_of hW_copy_b4 (j := 22) rfl) rfl
theorem dW_copy_151 : decode (mcc mW_copy) 151 = .ok (.iload 5, 2) := o21 (a := 5) (byt_of hW_copy_b4 (j := 23) rfl) (byt_of hW_copy_b4 (j := 24) rfl)
theorem dW_copy_153 : decode (mcc mW_copy) 153 = .ok (.ireturn, 1) := o172 (byt_of hW_copy_b4 (j := 25) rfl)
def bW_promisesBy_b0 : List Nat := [27, 3, 6, 184, 0, 101, 153, 0, 23, 28, 3, 5, 184, 0, 101, 153, 0, 14, 21, 4, 3, 16, 8, 184, 0, 101, 154, 0, 6, 16, 254, 172, 42, 180, 0, 70, 27, 182]
theorem hW_promisesBy_b0 : BL (mcc mW_promisesBy) 0 bW_promisesBy_b0 := by decide +kernel
theorem dW_promisesBy_0 : decode (mcc mW_promisesBy) 0 = .ok (.iload_n 1, 1) := o27 (byt_of hW_promisesBy_b0 (j := 0) rfl)
theorem dW_promisesBy_1 : decode (mcc mW_promisesBy) 1 = .ok (.iconst 0, 1) := o3 (byt_of hW_promisesBy_b0 (j := 1) rfl)
theorem dW_promisesBy_2 : decode (mcc mW_promisesBy) 2 = .ok (.iconst 3, 1) := o6 (byt_of hW_promisesBy_b0 (j := 2) rfl)
theorem dW_promisesBy_3 : decode (mcc mW_promisesBy) 3 = .ok (.invokestatic 101, 3) := o184 (a := 0) (b := 101) (byt_of hW_promisesBy_b0 (j := 3) rfl) (byt_of hW_promisesBy_b0 (j := 4) rfl) (byt_of hW_promisesBy_b0 (j := 5) rfl) rfl
theorem dW_promisesBy_6 : decode (mcc mW_promisesBy) 6 = .ok (.ifCond .eq 23, 3) := o153 (a := 0) (b := 23) (byt_of hW_promisesBy_b0 (j := 6) rfl) (byt_of hW_promisesBy_b0 (j := 7) rfl) (byt_of hW_promisesBy_b0 (j := 8) rfl) rfl
theorem dW_promisesBy_9 : decode (mcc mW_promisesBy) 9 = .ok (.iload_n 2, 1) := o28 (byt_of hW_promisesBy_b0 (j := 9) rfl)
theorem dW_promisesBy_10 : decode (mcc mW_promisesBy) 10 = .ok (.iconst 0, 1) := o3 (byt_of hW_promisesBy_b0 (j := 10) rfl)
theorem dW_promisesBy_11 : decode (mcc mW_promisesBy) 11 = .ok (.iconst 2, 1) := o5 (byt_of hW_promisesBy_b0 (j := 11) rfl)
theorem dW_promisesBy_12 : decode (mcc mW_promisesBy) 12 = .ok (.invokestatic 101, 3) := o184 (a := 0) (b := 101) (byt_of hW_promisesBy_b0 (j := 12) rfl) (byt_of hW_promisesBy_b0 (j := 13) rfl) (byt_of hW_promisesBy_b0 (j := 14) rfl) rfl
theorem dW_promisesBy_15 : decode (mcc mW_promisesBy) 15 = .ok (.ifCond .eq 14, 3) := o153 (a := 0) (b := 14) (byt_of hW_promisesBy_b0 (j := 15) rfl) (byt_of hW_promisesBy_b0 (j := 16) rfl) (byt_of hW_promisesBy_b0 (j := 17) rfl) rfl
theorem dW_promisesBy_18 : decode (mcc mW_promisesBy) 18 = .ok (.iload 4, 2) := o21 (a := 4) (byt_of hW_promisesBy_b0 (j := 18) rfl) (byt_of hW_promisesBy_b0 (j := 19) rfl)
theorem dW_promisesBy_20 : decode (mcc mW_promisesBy) 20 = .ok (.iconst 0, 1) := o3 (byt_of hW_promisesBy_b0 (j := 20) rfl)
theorem dW_promisesBy_21 : decode (mcc mW_promisesBy) 21 = .ok (.bipush 8, 2) := o16 (a := 8) (byt_of hW_promisesBy_b0 (j := 21) rfl) (byt_of hW_promisesBy_b0 (j := 22) rfl) rfl
theorem dW_promisesBy_23 : decode (mcc mW_promisesBy) 23 = .ok (.invokestatic 101, 3) := o184 (a := 0) (b := 101) (byt_of hW_promisesBy_b0 (j := 23) rfl) (byt_of hW_promisesBy_b0 (j := 24) rfl) (byt_of hW_promisesBy_b0 (j := 25) rfl) rfl
theorem dW_promisesBy_26 : decode (mcc mW_promisesBy) 26 = .ok (.ifCond .ne 6, 3) := o154 (a := 0) (b := 6) (byt_of hW_promisesBy_b0 (j := 26) rfl) (byt_of hW_promisesBy_b0 (j := 27) rfl) (byt_of hW_promisesBy_b0 (j := 28) rfl) rfl
theorem dW_promisesBy_29 : decode (mcc mW_promisesBy) 29 = .ok (.bipush (-2), 2) := o16 (a := 254) (byt_of hW_promisesBy_b0 (j := 29) rfl) (byt_of hW_promisesBy_b0 (j := 30) rfl) rfl
theorem dW_promisesBy_31 : decode (mcc mW_promisesBy) 31 = .ok (.ireturn, 1) := o172 (byt_of hW_promisesBy_b0 (j := 31) rfl)
def bW_promisesBy_b1 : List Nat := [42, 180, 0, 70, 27, 182, 1, 79, 153, 0, 6, 16, 245, 172, 42, 180, 0, 70, 180, 1, 87, 27, 46, 28, 159, 0, 6, 16, 243, 172, 3, 54, 5, 3, 54, 6, 21, 6]
theorem hW_promisesBy_b1 : BL (mcc mW_promisesBy) 32 bW_promisesBy_b1 := by decide +kernel
theorem dW_promisesBy_32 : decode (mcc mW_promisesBy) 32 = .ok (.aload_n 0, 1) := o42 (byt_of hW_promisesBy_b1 (j := 0) rfl)
theorem dW_promisesBy_33 : decode (mcc mW_promisesBy) 33 = .ok (.getfield 70, 3) := o180 (a := 0) (b := 70) (byt_of hW_promisesBy_b1 (j := 1) rfl) (byt_of hW_promisesBy_b1 (j := 2) rfl) (byt_of hW_promisesBy_b1 (j := 3) rfl) rfl
theorem dW_promisesBy_36 : decode (mcc mW_promisesBy) 36 = .ok (.iload_n 1, 1) := o27 (byt_of hW_promisesBy_b1 (j := 4) rfl)
theorem dW_promisesBy_37 : decode (mcc mW_promisesBy) 37 = .ok (.invokevirtual 335, 3) := o182 (a := 1) (b := 79) (byt_of hW_promisesBy_b1 (j := 5) rfl) (byt_of hW_promisesBy_b1 (j := 6) rfl) (byt_of hW_promisesBy_b1 (j := 7) rfl) rfl
theorem dW_promisesBy_40 : decode (mcc mW_promisesBy) 40 = .ok (.ifCond .eq 6, 3) := o153 (a := 0) (b := 6) (byt_of hW_promisesBy_b1 (j := 8) rfl) (byt_of hW_promisesBy_b1 (j := 9) rfl) (byt_of hW_promisesBy_b1 (j := 10) rfl) rfl
theorem dW_promisesBy_43 : decode (mcc mW_promisesBy) 43 = .ok (.bipush (-11), 2) := o16 (a := 245) (byt_of hW_promisesBy_b1 (j := 11) rfl) (byt_of hW_promisesBy_b1 (j := 12) rfl) rfl
theorem dW_promisesBy_45 : decode (mcc mW_promisesBy) 45 = .ok (.ireturn, 1) := o172 (byt_of hW_promisesBy_b1 (j := 13) rfl)
theorem dW_promisesBy_46 : decode (mcc mW_promisesBy) 46 = .ok (.aload_n 0, 1) := o42 (byt_of hW_promisesBy_b1 (j := 14) rfl)
theorem dW_promisesBy_47 : decode (mcc mW_promisesBy) 47 = .ok (.getfield 70, 3) := o180 (a := 0) (b := 70) (byt_of hW_promisesBy_b1 (j := 15) rfl) (byt_of hW_promisesBy_b1 (j := 16) rfl) (byt_of hW_promisesBy_b1 (j := 17) rfl) rfl
theorem dW_promisesBy_50 : decode (mcc mW_promisesBy) 50 = .ok (.getfield 343, 3) := o180 (a := 1) (b := 87) (byt_of hW_promisesBy_b1 (j := 18) rfl) (byt_of hW_promisesBy_b1 (j := 19) rfl) (byt_of hW_promisesBy_b1 (j := 20) rfl) rfl
theorem dW_promisesBy_53 : decode (mcc mW_promisesBy) 53 = .ok (.iload_n 1, 1) := o27 (byt_of hW_promisesBy_b1 (j := 21) rfl)
theorem dW_promisesBy_54 : decode (mcc mW_promisesBy) 54 = .ok (.iaload, 1) := o46 (byt_of hW_promisesBy_b1 (j := 22) rfl)
theorem dW_promisesBy_55 : decode (mcc mW_promisesBy) 55 = .ok (.iload_n 2, 1) := o28 (byt_of hW_promisesBy_b1 (j := 23) rfl)
theorem dW_promisesBy_56 : decode (mcc mW_promisesBy) 56 = .ok (.if_icmp .eq 6, 3) := o159 (a := 0) (b := 6) (byt_of hW_promisesBy_b1 (j := 24) rfl) (byt_of hW_promisesBy_b1 (j := 25) rfl) (byt_of hW_promisesBy_b1 (j := 26) rfl) rfl
theorem dW_promisesBy_59 : decode (mcc mW_promisesBy) 59 = .ok (.bipush (-13), 2) := o16 (a := 243) (byt_of hW_promisesBy_b1 (j := 27) rfl) (byt_of hW_promisesBy_b1 (j := 28) rfl) rfl
theorem dW_promisesBy_61 : decode (mcc mW_promisesBy) 61 = .ok (.ireturn, 1) := o172 (byt_of hW_promisesBy_b1 (j := 29) rfl)
theorem dW_promisesBy_62 : decode (mcc mW_promisesBy) 62 = .ok (.iconst 0, 1) := o3 (byt_of hW_promisesBy_b1 (j := 30) rfl)
theorem dW_promisesBy_63 : decode (mcc mW_promisesBy) 63 = .ok (.istore 5, 2) := o54 (a := 5) (byt_of hW_promisesBy_b1 (j := 31) rfl) (byt_of hW_promisesBy_b1 (j := 32) rfl)
def bW_promisesBy_b2 : List Nat := [5, 3, 54, 6, 21, 6, 21, 4, 162, 0, 96, 7, 21, 6, 104, 54, 7, 29, 3, 42, 180, 0, 70, 180, 1, 82, 27, 46, 7, 100, 21, 7, 100, 184, 0, 101, 154, 0]
theorem hW_promisesBy_b2 : BL (mcc mW_promisesBy) 64 bW_promisesBy_b2 := by decide +kernel
theorem dW_promisesBy_65 : decode (mcc mW_promisesBy) 65 = .ok (.iconst 0, 1) := o3 (byt_of hW_promisesBy_b2 (j := 1) rfl)
theorem dW_promisesBy_66 : decode (mcc mW_promisesBy) 66 = .ok (.istore 6, 2) := o54 (a := 6) (byt_of hW_promisesBy_b2 (j := 2) rfl) (byt_of hW_promisesBy_b2 (j := 3) rfl)
theorem dW_promisesBy_68 : decode (mcc mW_promisesBy) 68 = .ok (.iload 6, 2) := o21 (a := 6) (byt_of hW_promisesBy_b2 (j := 4) rfl) (byt_of hW_promisesBy_b2 (j := 5) rfl)
theorem dW_promisesBy_70 : decode (mcc mW_promisesBy) 70 = .ok (.iload 4, 2) := o21 (a := 4) (byt_of hW_promisesBy_b2 (j := 6) rfl) (byt_of hW_promisesBy_b2 (j := 7) rfl)
theorem dW_promisesBy_72 : decode (mcc mW_promisesBy) 72 = .ok (.if_icmp .ge 96, 3) := o162 (a := 0) (b := 96) (byt_of hW_promisesBy_b2 (j := 8) rfl) (byt_of hW_promisesBy_b2 (j := 9) rfl) (byt_of hW_promisesBy_b2 (j := 10) rfl) rfl
theorem dW_promisesBy_75 : decode (mcc mW_promisesBy) 75 = .ok (.iconst 4, 1) := o7 (byt_of hW_promisesBy_b2 (j := 11) rfl)
theorem dW_promisesBy_76 : decode (mcc mW_promisesBy) 76 = .ok (.iload 6, 2) := o21 (a := 6) (byt_of hW_promisesBy_b2 (j := 12) rfl) (byt_of hW_promisesBy_b2 (j := 13) rfl)
theorem dW_promisesBy_78 : decode (mcc mW_promisesBy) 78 = .ok (.imul, 1) := o104 (byt_of hW_promisesBy_b2 (j := 14) rfl)
theorem dW_promisesBy_79 : decode (mcc mW_promisesBy) 79 = .ok (.istore 7, 2) := o54 (a := 7) (byt_of hW_promisesBy_b2 (j := 15) rfl) (byt_of hW_promisesBy_b2 (j := 16) rfl)
theorem dW_promisesBy_81 : decode (mcc mW_promisesBy) 81 = .ok (.iload_n 3, 1) := o29 (byt_of hW_promisesBy_b2 (j := 17) rfl)
theorem dW_promisesBy_82 : decode (mcc mW_promisesBy) 82 = .ok (.iconst 0, 1) := o3 (byt_of hW_promisesBy_b2 (j := 18) rfl)
theorem dW_promisesBy_83 : decode (mcc mW_promisesBy) 83 = .ok (.aload_n 0, 1) := o42 (byt_of hW_promisesBy_b2 (j := 19) rfl)
theorem dW_promisesBy_84 : decode (mcc mW_promisesBy) 84 = .ok (.getfield 70, 3) := o180 (a := 0) (b := 70) (byt_of hW_promisesBy_b2 (j := 20) rfl) (byt_of hW_promisesBy_b2 (j := 21) rfl) (byt_of hW_promisesBy_b2 (j := 22) rfl) rfl
theorem dW_promisesBy_87 : decode (mcc mW_promisesBy) 87 = .ok (.getfield 338, 3) := o180 (a := 1) (b := 82) (byt_of hW_promisesBy_b2 (j := 23) rfl) (byt_of hW_promisesBy_b2 (j := 24) rfl) (byt_of hW_promisesBy_b2 (j := 25) rfl) rfl
theorem dW_promisesBy_90 : decode (mcc mW_promisesBy) 90 = .ok (.iload_n 1, 1) := o27 (byt_of hW_promisesBy_b2 (j := 26) rfl)
theorem dW_promisesBy_91 : decode (mcc mW_promisesBy) 91 = .ok (.iaload, 1) := o46 (byt_of hW_promisesBy_b2 (j := 27) rfl)
theorem dW_promisesBy_92 : decode (mcc mW_promisesBy) 92 = .ok (.iconst 4, 1) := o7 (byt_of hW_promisesBy_b2 (j := 28) rfl)
theorem dW_promisesBy_93 : decode (mcc mW_promisesBy) 93 = .ok (.isub, 1) := o100 (byt_of hW_promisesBy_b2 (j := 29) rfl)
theorem dW_promisesBy_94 : decode (mcc mW_promisesBy) 94 = .ok (.iload 7, 2) := o21 (a := 7) (byt_of hW_promisesBy_b2 (j := 30) rfl) (byt_of hW_promisesBy_b2 (j := 31) rfl)
def bW_promisesBy_b3 : List Nat := [100, 184, 0, 101, 154, 0, 6, 16, 244, 172, 27, 16, 40, 104, 29, 96, 21, 7, 96, 54, 8, 42, 180, 0, 70, 180, 1, 90, 58, 9, 42, 25, 9, 21, 8, 46, 25, 9]
theorem hW_promisesBy_b3 : BL (mcc mW_promisesBy) 96 bW_promisesBy_b3 := by decide +kernel
theorem dW_promisesBy_96 : decode (mcc mW_promisesBy) 96 = .ok (.isub, 1) := o100 (byt_of hW_promisesBy_b3 (j := 0) rfl)
theorem dW_promisesBy_97 : decode (mcc mW_promisesBy) 97 = .ok (.invokestatic 101, 3) := o184 (a := 0) (b := 101) (byt_of hW_promisesBy_b3 (j := 1) rfl) (byt_of hW_promisesBy_b3 (j := 2) rfl) (byt_of hW_promisesBy_b3 (j := 3) rfl) rfl
theorem dW_promisesBy_100 : decode (mcc mW_promisesBy) 100 = .ok (.ifCond .ne 6, 3) := o154 (a := 0) (b := 6) (byt_of hW_promisesBy_b3 (j := 4) rfl) (byt_of hW_promisesBy_b3 (j := 5) rfl) (byt_of hW_promisesBy_b3 (j := 6) rfl) rfl
theorem dW_promisesBy_103 : decode (mcc mW_promisesBy) 103 = .ok (.bipush (-12), 2) := o16 (a := 244) (byt_of hW_promisesBy_b3 (j := 7) rfl) (byt_of hW_promisesBy_b3 (j := 8) rfl) rfl
theorem dW_promisesBy_105 : decode (mcc mW_promisesBy) 105 = .ok (.ireturn, 1) := o172 (byt_of hW_promisesBy_b3 (j := 9) rfl)
theorem dW_promisesBy_106 : decode (mcc mW_promisesBy) 106 = .ok (.iload_n 1, 1) := o27 (byt_of hW_promisesBy_b3 (j := 10) rfl)
theorem dW_promisesBy_107 : decode (mcc mW_promisesBy) 107 = .ok (.bipush 40, 2) := o16 (a := 40) (byt_of hW_promisesBy_b3 (j := 11) rfl) (byt_of hW_promisesBy_b3 (j := 12) rfl) rfl
theorem dW_promisesBy_109 : decode (mcc mW_promisesBy) 109 = .ok (.imul, 1) := o104 (byt_of hW_promisesBy_b3 (j := 13) rfl)
theorem dW_promisesBy_110 : decode (mcc mW_promisesBy) 110 = .ok (.iload_n 3, 1) := o29 (byt_of hW_promisesBy_b3 (j := 14) rfl)
theorem dW_promisesBy_111 : decode (mcc mW_promisesBy) 111 = .ok (.iadd, 1) := o96 (byt_of hW_promisesBy_b3 (j := 15) rfl)
theorem dW_promisesBy_112 : decode (mcc mW_promisesBy) 112 = .ok (.iload 7, 2) := o21 (a := 7) (byt_of hW_promisesBy_b3 (j := 16) rfl) (byt_of hW_promisesBy_b3 (j := 17) rfl)
theorem dW_promisesBy_114 : decode (mcc mW_promisesBy) 114 = .ok (.iadd, 1) := o96 (byt_of hW_promisesBy_b3 (j := 18) rfl)
theorem dW_promisesBy_115 : decode (mcc mW_promisesBy) 115 = .ok (.istore 8, 2) := o54 (a := 8) (byt_of hW_promisesBy_b3 (j := 19) rfl) (byt_of hW_promisesBy_b3 (j := 20) rfl)
theorem dW_promisesBy_117 : decode (mcc mW_promisesBy) 117 = .ok (.aload_n 0, 1) := o42 (byt_of hW_promisesBy_b3 (j := 21) rfl)
theorem dW_promisesBy_118 : decode (mcc mW_promisesBy) 118 = .ok (.getfield 70, 3) := o180 (a := 0) (b := 70) (byt_of hW_promisesBy_b3 (j := 22) rfl) (byt_of hW_promisesBy_b3 (j := 23) rfl) (byt_of hW_promisesBy_b3 (j := 24) rfl) rfl
theorem dW_promisesBy_121 : decode (mcc mW_promisesBy) 121 = .ok (.getfield 346, 3) := o180 (a := 1) (b := 90) (byt_of hW_promisesBy_b3 (j := 25) rfl) (byt_of hW_promisesBy_b3 (j := 26) rfl) (byt_of hW_promisesBy_b3 (j := 27) rfl) rfl
theorem dW_promisesBy_124 : decode (mcc mW_promisesBy) 124 = .ok (.astore 9, 2) := o58 (a := 9) (byt_of hW_promisesBy_b3 (j := 28) rfl) (byt_of hW_promisesBy_b3 (j := 29) rfl)
theorem dW_promisesBy_126 : decode (mcc mW_promisesBy) 126 = .ok (.aload_n 0, 1) := o42 (byt_of hW_promisesBy_b3 (j := 30) rfl)
theorem dW_promisesBy_127 : decode (mcc mW_promisesBy) 127 = .ok (.aload 9, 2) := o25 (a := 9) (byt_of hW_promisesBy_b3 (j := 31) rfl) (byt_of hW_promisesBy_b3 (j := 32) rfl)
def bW_promisesBy_b4 : List Nat := [9, 21, 8, 46, 25, 9, 21, 8, 4, 96, 46, 25, 9, 21, 8, 5, 96, 46, 25, 9, 21, 8, 6, 96, 46, 182, 1, 99, 155, 0, 6, 132, 5, 1, 132, 6, 1, 167]
theorem hW_promisesBy_b4 : BL (mcc mW_promisesBy) 128 bW_promisesBy_b4 := by decide +kernel
theorem dW_promisesBy_129 : decode (mcc mW_promisesBy) 129 = .ok (.iload 8, 2) := o21 (a := 8) (byt_of hW_promisesBy_b4 (j := 1) rfl) (byt_of hW_promisesBy_b4 (j := 2) rfl)
theorem dW_promisesBy_131 : decode (mcc mW_promisesBy) 131 = .ok (.iaload, 1) := o46 (byt_of hW_promisesBy_b4 (j := 3) rfl)
theorem dW_promisesBy_132 : decode (mcc mW_promisesBy) 132 = .ok (.aload 9, 2) := o25 (a := 9) (byt_of hW_promisesBy_b4 (j := 4) rfl) (byt_of hW_promisesBy_b4 (j := 5) rfl)
theorem dW_promisesBy_134 : decode (mcc mW_promisesBy) 134 = .ok (.iload 8, 2) := o21 (a := 8) (byt_of hW_promisesBy_b4 (j := 6) rfl) (byt_of hW_promisesBy_b4 (j := 7) rfl)
theorem dW_promisesBy_136 : decode (mcc mW_promisesBy) 136 = .ok (.iconst 1, 1) := o4 (byt_of hW_promisesBy_b4 (j := 8) rfl)
theorem dW_promisesBy_137 : decode (mcc mW_promisesBy) 137 = .ok (.iadd, 1) := o96 (byt_of hW_promisesBy_b4 (j := 9) rfl)
theorem dW_promisesBy_138 : decode (mcc mW_promisesBy) 138 = .ok (.iaload, 1) := o46 (byt_of hW_promisesBy_b4 (j := 10) rfl)
theorem dW_promisesBy_139 : decode (mcc mW_promisesBy) 139 = .ok (.aload 9, 2) := o25 (a := 9) (byt_of hW_promisesBy_b4 (j := 11) rfl) (byt_of hW_promisesBy_b4 (j := 12) rfl)
theorem dW_promisesBy_141 : decode (mcc mW_promisesBy) 141 = .ok (.iload 8, 2) := o21 (a := 8) (byt_of hW_promisesBy_b4 (j := 13) rfl) (byt_of hW_promisesBy_b4 (j := 14) rfl)
theorem dW_promisesBy_143 : decode (mcc mW_promisesBy) 143 = .ok (.iconst 2, 1) := o5 (byt_of hW_promisesBy_b4 (j := 15) rfl)
theorem dW_promisesBy_144 : decode (mcc mW_promisesBy) 144 = .ok (.iadd, 1) := o96 (byt_of hW_promisesBy_b4 (j := 16) rfl)
theorem dW_promisesBy_145 : decode (mcc mW_promisesBy) 145 = .ok (.iaload, 1) := o46 (byt_of hW_promisesBy_b4 (j := 17) rfl)
theorem dW_promisesBy_146 : decode (mcc mW_promisesBy) 146 = .ok (.aload 9, 2) := o25 (a := 9) (byt_of hW_promisesBy_b4 (j := 18) rfl) (byt_of hW_promisesBy_b4 (j := 19) rfl)
theorem dW_promisesBy_148 : decode (mcc mW_promisesBy) 148 = .ok (.iload 8, 2) := o21 (a := 8) (byt_of hW_promisesBy_b4 (j := 20) rfl) (byt_of hW_promisesBy_b4 (j := 21) rfl)
theorem dW_promisesBy_150 : decode (mcc mW_promisesBy) 150 = .ok (.iconst 3, 1) := o6 (byt_of hW_promisesBy_b4 (j := 22) rfl)
theorem dW_promisesBy_151 : decode (mcc mW_promisesBy) 151 = .ok (.iadd, 1) := o96 (byt_of hW_promisesBy_b4 (j := 23) rfl)
theorem dW_promisesBy_152 : decode (mcc mW_promisesBy) 152 = .ok (.iaload, 1) := o46 (byt_of hW_promisesBy_b4 (j := 24) rfl)
theorem dW_promisesBy_153 : decode (mcc mW_promisesBy) 153 = .ok (.invokevirtual 355, 3) := o182 (a := 1) (b := 99) (byt_of hW_promisesBy_b4 (j := 25) rfl) (byt_of hW_promisesBy_b4 (j := 26) rfl) (byt_of hW_promisesBy_b4 (j := 27) rfl) rfl
theorem dW_promisesBy_156 : decode (mcc mW_promisesBy) 156 = .ok (.ifCond .lt 6, 3) := o155 (a := 0) (b := 6) (byt_of hW_promisesBy_b4 (j := 28) rfl) (byt_of hW_promisesBy_b4 (j := 29) rfl) (byt_of hW_promisesBy_b4 (j := 30) rfl) rfl
theorem dW_promisesBy_159 : decode (mcc mW_promisesBy) 159 = .ok (.iinc 5 1, 3) := o132 (a := 5) (b := 1) (byt_of hW_promisesBy_b4 (j := 31) rfl) (byt_of hW_promisesBy_b4 (j := 32) rfl) (byt_of hW_promisesBy_b4 (j := 33) rfl) rfl
def bW_promisesBy_b5 : List Nat := [5, 1, 132, 6, 1, 167, 255, 159, 21, 5, 172]
theorem hW_promisesBy_b5 : BL (mcc mW_promisesBy) 160 bW_promisesBy_b5 := by decide +kernel
theorem dW_promisesBy_162 : decode (mcc mW_promisesBy) 162 = .ok (.iinc 6 1, 3) := o132 (a := 6) (b := 1) (byt_of hW_promisesBy_b5 (j := 2) rfl) (byt_of hW_promisesBy_b5 (j := 3) rfl) (byt_of hW_promisesBy_b5 (j := 4) rfl) rfl
theorem dW_promisesBy_165 : decode (mcc mW_promisesBy) 165 = .ok (.goto (-97), 3) := o167 (a := 255) (b := 159) (byt_of hW_promisesBy_b5 (j := 5) rfl) (byt_of hW_promisesBy_b5 (j := 6) rfl) (byt_of hW_promisesBy_b5 (j := 7) rfl) rfl
theorem dW_promisesBy_168 : decode (mcc mW_promisesBy) 168 = .ok (.iload 5, 2) := o21 (a := 5) (byt_of hW_promisesBy_b5 (j := 8) rfl) (byt_of hW_promisesBy_b5 (j := 9) rfl)
theorem dW_promisesBy_170 : decode (mcc mW_promisesBy) 170 = .ok (.ireturn, 1) := o172 (byt_of hW_promisesBy_b5 (j := 10) rfl)
def bW_taken_b0 : List Nat := [28, 3, 16, 6, 184, 0, 101, 154, 0, 6, 16, 254, 172, 27, 3, 16, 15, 184, 0, 101, 154, 0, 6, 16, 244, 172, 27, 16, 8, 162, 0, 40, 42, 180, 0, 26, 27, 182]
theorem hW_taken_b0 : BL (mcc mW_taken) 0 bW_taken_b0 := by decide +kernel
theorem dW_taken_0 : decode (mcc mW_taken) 0 = .ok (.iload_n 2, 1) := o28 (byt_of hW_taken_b0 (j := 0) rfl)
theorem dW_taken_1 : decode (mcc mW_taken) 1 = .ok (.iconst 0, 1) := o3 (byt_of hW_taken_b0 (j := 1) rfl)
theorem dW_taken_2 : decode (mcc mW_taken) 2 = .ok (.bipush 6, 2) := o16 (a := 6) (byt_of hW_taken_b0 (j := 2) rfl) (byt_of hW_taken_b0 (j := 3) rfl) rfl
theorem dW_taken_4 : decode (mcc mW_taken) 4 = .ok (.invokestatic 101, 3) := o184 (a := 0) (b := 101) (byt_of hW_taken_b0 (j := 4) rfl) (byt_of hW_taken_b0 (j := 5) rfl) (byt_of hW_taken_b0 (j := 6) rfl) rfl
theorem dW_taken_7 : decode (mcc mW_taken) 7 = .ok (.ifCond .ne 6, 3) := o154 (a := 0) (b := 6) (byt_of hW_taken_b0 (j := 7) rfl) (byt_of hW_taken_b0 (j := 8) rfl) (byt_of hW_taken_b0 (j := 9) rfl) rfl
theorem dW_taken_10 : decode (mcc mW_taken) 10 = .ok (.bipush (-2), 2) := o16 (a := 254) (byt_of hW_taken_b0 (j := 10) rfl) (byt_of hW_taken_b0 (j := 11) rfl) rfl
theorem dW_taken_12 : decode (mcc mW_taken) 12 = .ok (.ireturn, 1) := o172 (byt_of hW_taken_b0 (j := 12) rfl)
theorem dW_taken_13 : decode (mcc mW_taken) 13 = .ok (.iload_n 1, 1) := o27 (byt_of hW_taken_b0 (j := 13) rfl)
theorem dW_taken_14 : decode (mcc mW_taken) 14 = .ok (.iconst 0, 1) := o3 (byt_of hW_taken_b0 (j := 14) rfl)
theorem dW_taken_15 : decode (mcc mW_taken) 15 = .ok (.bipush 15, 2) := o16 (a := 15) (byt_of hW_taken_b0 (j := 15) rfl) (byt_of hW_taken_b0 (j := 16) rfl) rfl
theorem dW_taken_17 : decode (mcc mW_taken) 17 = .ok (.invokestatic 101, 3) := o184 (a := 0) (b := 101) (byt_of hW_taken_b0 (j := 17) rfl) (byt_of hW_taken_b0 (j := 18) rfl) (byt_of hW_taken_b0 (j := 19) rfl) rfl
theorem dW_taken_20 : decode (mcc mW_taken) 20 = .ok (.ifCond .ne 6, 3) := o154 (a := 0) (b := 6) (byt_of hW_taken_b0 (j := 20) rfl) (byt_of hW_taken_b0 (j := 21) rfl) (byt_of hW_taken_b0 (j := 22) rfl) rfl
theorem dW_taken_23 : decode (mcc mW_taken) 23 = .ok (.bipush (-12), 2) := o16 (a := 244) (byt_of hW_taken_b0 (j := 23) rfl) (byt_of hW_taken_b0 (j := 24) rfl) rfl
theorem dW_taken_25 : decode (mcc mW_taken) 25 = .ok (.ireturn, 1) := o172 (byt_of hW_taken_b0 (j := 25) rfl)
theorem dW_taken_26 : decode (mcc mW_taken) 26 = .ok (.iload_n 1, 1) := o27 (byt_of hW_taken_b0 (j := 26) rfl)
theorem dW_taken_27 : decode (mcc mW_taken) 27 = .ok (.bipush 8, 2) := o16 (a := 8) (byt_of hW_taken_b0 (j := 27) rfl) (byt_of hW_taken_b0 (j := 28) rfl) rfl
theorem dW_taken_29 : decode (mcc mW_taken) 29 = .ok (.if_icmp .ge 40, 3) := o162 (a := 0) (b := 40) (byt_of hW_taken_b0 (j := 29) rfl) (byt_of hW_taken_b0 (j := 30) rfl) (byt_of hW_taken_b0 (j := 31) rfl) rfl
def bW_taken_b1 : List Nat := [42, 180, 0, 26, 27, 182, 0, 174, 154, 0, 8, 16, 245, 167, 0, 23, 28, 16, 6, 160, 0, 15, 42, 180, 0, 26, 180, 0, 178, 27, 46, 167, 0, 5, 16, 243, 172, 27]
theorem hW_taken_b1 : BL (mcc mW_taken) 32 bW_taken_b1 := by decide +kernel
theorem dW_taken_32 : decode (mcc mW_taken) 32 = .ok (.aload_n 0, 1) := o42 (byt_of hW_taken_b1 (j := 0) rfl)
theorem dW_taken_33 : decode (mcc mW_taken) 33 = .ok (.getfield 26, 3) := o180 (a := 0) (b := 26) (byt_of hW_taken_b1 (j := 1) rfl) (byt_of hW_taken_b1 (j := 2) rfl) (byt_of hW_taken_b1 (j := 3) rfl) rfl
theorem dW_taken_36 : decode (mcc mW_taken) 36 = .ok (.iload_n 1, 1) := o27 (byt_of hW_taken_b1 (j := 4) rfl)
theorem dW_taken_37 : decode (mcc mW_taken) 37 = .ok (.invokevirtual 174, 3) := o182 (a := 0) (b := 174) (byt_of hW_taken_b1 (j := 5) rfl) (byt_of hW_taken_b1 (j := 6) rfl) (byt_of hW_taken_b1 (j := 7) rfl) rfl
theorem dW_taken_40 : decode (mcc mW_taken) 40 = .ok (.ifCond .ne 8, 3) := o154 (a := 0) (b := 8) (byt_of hW_taken_b1 (j := 8) rfl) (byt_of hW_taken_b1 (j := 9) rfl) (byt_of hW_taken_b1 (j := 10) rfl) rfl
theorem dW_taken_43 : decode (mcc mW_taken) 43 = .ok (.bipush (-11), 2) := o16 (a := 245) (byt_of hW_taken_b1 (j := 11) rfl) (byt_of hW_taken_b1 (j := 12) rfl) rfl
theorem dW_taken_45 : decode (mcc mW_taken) 45 = .ok (.goto 23, 3) := o167 (a := 0) (b := 23) (byt_of hW_taken_b1 (j := 13) rfl) (byt_of hW_taken_b1 (j := 14) rfl) (byt_of hW_taken_b1 (j := 15) rfl) rfl
theorem dW_taken_48 : decode (mcc mW_taken) 48 = .ok (.iload_n 2, 1) := o28 (byt_of hW_taken_b1 (j := 16) rfl)
theorem dW_taken_49 : decode (mcc mW_taken) 49 = .ok (.bipush 6, 2) := o16 (a := 6) (byt_of hW_taken_b1 (j := 17) rfl) (byt_of hW_taken_b1 (j := 18) rfl) rfl
theorem dW_taken_51 : decode (mcc mW_taken) 51 = .ok (.if_icmp .ne 15, 3) := o160 (a := 0) (b := 15) (byt_of hW_taken_b1 (j := 19) rfl) (byt_of hW_taken_b1 (j := 20) rfl) (byt_of hW_taken_b1 (j := 21) rfl) rfl
theorem dW_taken_54 : decode (mcc mW_taken) 54 = .ok (.aload_n 0, 1) := o42 (byt_of hW_taken_b1 (j := 22) rfl)
theorem dW_taken_55 : decode (mcc mW_taken) 55 = .ok (.getfield 26, 3) := o180 (a := 0) (b := 26) (byt_of hW_taken_b1 (j := 23) rfl) (byt_of hW_taken_b1 (j := 24) rfl) (byt_of hW_taken_b1 (j := 25) rfl) rfl
theorem dW_taken_58 : decode (mcc mW_taken) 58 = .ok (.getfield 178, 3) := o180 (a := 0) (b := 178) (byt_of hW_taken_b1 (j := 26) rfl) (byt_of hW_taken_b1 (j := 27) rfl) (byt_of hW_taken_b1 (j := 28) rfl) rfl
theorem dW_taken_61 : decode (mcc mW_taken) 61 = .ok (.iload_n 1, 1) := o27 (byt_of hW_taken_b1 (j := 29) rfl)
theorem dW_taken_62 : decode (mcc mW_taken) 62 = .ok (.iaload, 1) := o46 (byt_of hW_taken_b1 (j := 30) rfl)
theorem dW_taken_63 : decode (mcc mW_taken) 63 = .ok (.goto 5, 3) := o167 (a := 0) (b := 5) (byt_of hW_taken_b1 (j := 31) rfl) (byt_of hW_taken_b1 (j := 32) rfl) (byt_of hW_taken_b1 (j := 33) rfl) rfl
def bW_taken_b2 : List Nat := [0, 5, 16, 243, 172, 27, 16, 8, 100, 62, 42, 180, 0, 19, 29, 182, 0, 143, 154, 0, 6, 16, 245, 172, 28, 16, 6, 162, 0, 19, 42, 180, 0, 19, 29, 28, 182, 1]
theorem hW_taken_b2 : BL (mcc mW_taken) 64 bW_taken_b2 := by decide +kernel
theorem dW_taken_66 : decode (mcc mW_taken) 66 = .ok (.bipush (-13), 2) := o16 (a := 243) (byt_of hW_taken_b2 (j := 2) rfl) (byt_of hW_taken_b2 (j := 3) rfl) rfl
theorem dW_taken_68 : decode (mcc mW_taken) 68 = .ok (.ireturn, 1) := o172 (byt_of hW_taken_b2 (j := 4) rfl)
theorem dW_taken_69 : decode (mcc mW_taken) 69 = .ok (.iload_n 1, 1) := o27 (byt_of hW_taken_b2 (j := 5) rfl)
theorem dW_taken_70 : decode (mcc mW_taken) 70 = .ok (.bipush 8, 2) := o16 (a := 8) (byt_of hW_taken_b2 (j := 6) rfl) (byt_of hW_taken_b2 (j := 7) rfl) rfl
theorem dW_taken_72 : decode (mcc mW_taken) 72 = .ok (.isub, 1) := o100 (byt_of hW_taken_b2 (j := 8) rfl)
theorem dW_taken_73 : decode (mcc mW_taken) 73 = .ok (.istore_n 3, 1) := o62 (byt_of hW_taken_b2 (j := 9) rfl)
theorem dW_taken_74 : decode (mcc mW_taken) 74 = .ok (.aload_n 0, 1) := o42 (byt_of hW_taken_b2 (j := 10) rfl)
theorem dW_taken_75 : decode (mcc mW_taken) 75 = .ok (.getfield 19, 3) := o180 (a := 0) (b := 19) (byt_of hW_taken_b2 (j := 11) rfl) (byt_of hW_taken_b2 (j := 12) rfl) (byt_of hW_taken_b2 (j := 13) rfl) rfl
theorem dW_taken_78 : decode (mcc mW_taken) 78 = .ok (.iload_n 3, 1) := o29 (byt_of hW_taken_b2 (j := 14) rfl)
theorem dW_taken_79 : decode (mcc mW_taken) 79 = .ok (.invokevirtual 143, 3) := o182 (a := 0) (b := 143) (byt_of hW_taken_b2 (j := 15) rfl) (byt_of hW_taken_b2 (j := 16) rfl) (byt_of hW_taken_b2 (j := 17) rfl) rfl
theorem dW_taken_82 : decode (mcc mW_taken) 82 = .ok (.ifCond .ne 6, 3) := o154 (a := 0) (b := 6) (byt_of hW_taken_b2 (j := 18) rfl) (byt_of hW_taken_b2 (j := 19) rfl) (byt_of hW_taken_b2 (j := 20) rfl) rfl
theorem dW_taken_85 : decode (mcc mW_taken) 85 = .ok (.bipush (-11), 2) := o16 (a := 245) (byt_of hW_taken_b2 (j := 21) rfl) (byt_of hW_taken_b2 (j := 22) rfl) rfl
theorem dW_taken_87 : decode (mcc mW_taken) 87 = .ok (.ireturn, 1) := o172 (byt_of hW_taken_b2 (j := 23) rfl)
theorem dW_taken_88 : decode (mcc mW_taken) 88 = .ok (.iload_n 2, 1) := o28 (byt_of hW_taken_b2 (j := 24) rfl)
theorem dW_taken_89 : decode (mcc mW_taken) 89 = .ok (.bipush 6, 2) := o16 (a := 6) (byt_of hW_taken_b2 (j := 25) rfl) (byt_of hW_taken_b2 (j := 26) rfl) rfl
theorem dW_taken_91 : decode (mcc mW_taken) 91 = .ok (.if_icmp .ge 19, 3) := o162 (a := 0) (b := 19) (byt_of hW_taken_b2 (j := 27) rfl) (byt_of hW_taken_b2 (j := 28) rfl) (byt_of hW_taken_b2 (j := 29) rfl) rfl
theorem dW_taken_94 : decode (mcc mW_taken) 94 = .ok (.aload_n 0, 1) := o42 (byt_of hW_taken_b2 (j := 30) rfl)
theorem dW_taken_95 : decode (mcc mW_taken) 95 = .ok (.getfield 19, 3) := o180 (a := 0) (b := 19) (byt_of hW_taken_b2 (j := 31) rfl) (byt_of hW_taken_b2 (j := 32) rfl) (byt_of hW_taken_b2 (j := 33) rfl) rfl
def bW_taken_b3 : List Nat := [0, 19, 29, 28, 182, 1, 102, 153, 0, 7, 29, 167, 0, 5, 16, 243, 172]
theorem hW_taken_b3 : BL (mcc mW_taken) 96 bW_taken_b3 := by decide +kernel
theorem dW_taken_98 : decode (mcc mW_taken) 98 = .ok (.iload_n 3, 1) := o29 (byt_of hW_taken_b3 (j := 2) rfl)
theorem dW_taken_99 : decode (mcc mW_taken) 99 = .ok (.iload_n 2, 1) := o28 (byt_of hW_taken_b3 (j := 3) rfl)
theorem dW_taken_100 : decode (mcc mW_taken) 100 = .ok (.invokevirtual 358, 3) := o182 (a := 1) (b := 102) (byt_of hW_taken_b3 (j := 4) rfl) (byt_of hW_taken_b3 (j := 5) rfl) (byt_of hW_taken_b3 (j := 6) rfl) rfl
theorem dW_taken_103 : decode (mcc mW_taken) 103 = .ok (.ifCond .eq 7, 3) := o153 (a := 0) (b := 7) (byt_of hW_taken_b3 (j := 7) rfl) (byt_of hW_taken_b3 (j := 8) rfl) (byt_of hW_taken_b3 (j := 9) rfl) rfl
theorem dW_taken_106 : decode (mcc mW_taken) 106 = .ok (.iload_n 3, 1) := o29 (byt_of hW_taken_b3 (j := 10) rfl)
theorem dW_taken_107 : decode (mcc mW_taken) 107 = .ok (.goto 5, 3) := o167 (a := 0) (b := 5) (byt_of hW_taken_b3 (j := 11) rfl) (byt_of hW_taken_b3 (j := 12) rfl) (byt_of hW_taken_b3 (j := 13) rfl) rfl
theorem dW_taken_110 : decode (mcc mW_taken) 110 = .ok (.bipush (-13), 2) := o16 (a := 243) (byt_of hW_taken_b3 (j := 14) rfl) (byt_of hW_taken_b3 (j := 15) rfl) rfl
theorem dW_taken_112 : decode (mcc mW_taken) 112 = .ok (.ireturn, 1) := o172 (byt_of hW_taken_b3 (j := 16) rfl)
def bW_within_b0 : List Nat := [27, 26, 163, 0, 12, 26, 28, 163, 0, 7, 4, 167, 0, 4, 3, 172]
theorem hW_within_b0 : BL (mcc mW_within) 0 bW_within_b0 := by decide +kernel
theorem dW_within_0 : decode (mcc mW_within) 0 = .ok (.iload_n 1, 1) := o27 (byt_of hW_within_b0 (j := 0) rfl)
theorem dW_within_1 : decode (mcc mW_within) 1 = .ok (.iload_n 0, 1) := o26 (byt_of hW_within_b0 (j := 1) rfl)
theorem dW_within_2 : decode (mcc mW_within) 2 = .ok (.if_icmp .gt 12, 3) := o163 (a := 0) (b := 12) (byt_of hW_within_b0 (j := 2) rfl) (byt_of hW_within_b0 (j := 3) rfl) (byt_of hW_within_b0 (j := 4) rfl) rfl
theorem dW_within_5 : decode (mcc mW_within) 5 = .ok (.iload_n 0, 1) := o26 (byt_of hW_within_b0 (j := 5) rfl)
theorem dW_within_6 : decode (mcc mW_within) 6 = .ok (.iload_n 2, 1) := o28 (byt_of hW_within_b0 (j := 6) rfl)
theorem dW_within_7 : decode (mcc mW_within) 7 = .ok (.if_icmp .gt 7, 3) := o163 (a := 0) (b := 7) (byt_of hW_within_b0 (j := 7) rfl) (byt_of hW_within_b0 (j := 8) rfl) (byt_of hW_within_b0 (j := 9) rfl) rfl
theorem dW_within_10 : decode (mcc mW_within) 10 = .ok (.iconst 1, 1) := o4 (byt_of hW_within_b0 (j := 10) rfl)
theorem dW_within_11 : decode (mcc mW_within) 11 = .ok (.goto 4, 3) := o167 (a := 0) (b := 4) (byt_of hW_within_b0 (j := 11) rfl) (byt_of hW_within_b0 (j := 12) rfl) (byt_of hW_within_b0 (j := 13) rfl) rfl
theorem dW_within_14 : decode (mcc mW_within) 14 = .ok (.iconst 0, 1) := o3 (byt_of hW_within_b0 (j := 14) rfl)
theorem dW_within_15 : decode (mcc mW_within) 15 = .ok (.ireturn, 1) := o172 (byt_of hW_within_b0 (j := 15) rfl)
def bW_isByte_b0 : List Nat := [26, 3, 17, 0, 255, 184, 0, 101, 172]
theorem hW_isByte_b0 : BL (mcc mW_isByte) 0 bW_isByte_b0 := by decide +kernel
theorem dW_isByte_0 : decode (mcc mW_isByte) 0 = .ok (.iload_n 0, 1) := o26 (byt_of hW_isByte_b0 (j := 0) rfl)
theorem dW_isByte_1 : decode (mcc mW_isByte) 1 = .ok (.iconst 0, 1) := o3 (byt_of hW_isByte_b0 (j := 1) rfl)
theorem dW_isByte_2 : decode (mcc mW_isByte) 2 = .ok (.sipush 255, 3) := o17 (a := 0) (b := 255) (byt_of hW_isByte_b0 (j := 2) rfl) (byt_of hW_isByte_b0 (j := 3) rfl) (byt_of hW_isByte_b0 (j := 4) rfl) rfl
theorem dW_isByte_5 : decode (mcc mW_isByte) 5 = .ok (.invokestatic 101, 3) := o184 (a := 0) (b := 101) (byt_of hW_isByte_b0 (j := 5) rfl) (byt_of hW_isByte_b0 (j := 6) rfl) (byt_of hW_isByte_b0 (j := 7) rfl) rfl
theorem dW_isByte_8 : decode (mcc mW_isByte) 8 = .ok (.ireturn, 1) := o172 (byt_of hW_isByte_b0 (j := 8) rfl)
def bW_isHow_b0 : List Nat := [26, 3, 17, 2, 87, 184, 0, 101, 153, 0, 26, 26, 16, 10, 108, 16, 10, 112, 16, 6, 162, 0, 14, 26, 16, 10, 112, 158, 0, 7, 4, 167, 0, 4, 3, 172]
theorem hW_isHow_b0 : BL (mcc mW_isHow) 0 bW_isHow_b0 := by decide +kernel
theorem dW_isHow_0 : decode (mcc mW_isHow) 0 = .ok (.iload_n 0, 1) := o26 (byt_of hW_isHow_b0 (j := 0) rfl)
theorem dW_isHow_1 : decode (mcc mW_isHow) 1 = .ok (.iconst 0, 1) := o3 (byt_of hW_isHow_b0 (j := 1) rfl)
theorem dW_isHow_2 : decode (mcc mW_isHow) 2 = .ok (.sipush 599, 3) := o17 (a := 2) (b := 87) (byt_of hW_isHow_b0 (j := 2) rfl) (byt_of hW_isHow_b0 (j := 3) rfl) (byt_of hW_isHow_b0 (j := 4) rfl) rfl
theorem dW_isHow_5 : decode (mcc mW_isHow) 5 = .ok (.invokestatic 101, 3) := o184 (a := 0) (b := 101) (byt_of hW_isHow_b0 (j := 5) rfl) (byt_of hW_isHow_b0 (j := 6) rfl) (byt_of hW_isHow_b0 (j := 7) rfl) rfl
theorem dW_isHow_8 : decode (mcc mW_isHow) 8 = .ok (.ifCond .eq 26, 3) := o153 (a := 0) (b := 26) (byt_of hW_isHow_b0 (j := 8) rfl) (byt_of hW_isHow_b0 (j := 9) rfl) (byt_of hW_isHow_b0 (j := 10) rfl) rfl
theorem dW_isHow_11 : decode (mcc mW_isHow) 11 = .ok (.iload_n 0, 1) := o26 (byt_of hW_isHow_b0 (j := 11) rfl)
theorem dW_isHow_12 : decode (mcc mW_isHow) 12 = .ok (.bipush 10, 2) := o16 (a := 10) (byt_of hW_isHow_b0 (j := 12) rfl) (byt_of hW_isHow_b0 (j := 13) rfl) rfl
theorem dW_isHow_14 : decode (mcc mW_isHow) 14 = .ok (.idiv, 1) := o108 (byt_of hW_isHow_b0 (j := 14) rfl)
theorem dW_isHow_15 : decode (mcc mW_isHow) 15 = .ok (.bipush 10, 2) := o16 (a := 10) (byt_of hW_isHow_b0 (j := 15) rfl) (byt_of hW_isHow_b0 (j := 16) rfl) rfl
theorem dW_isHow_17 : decode (mcc mW_isHow) 17 = .ok (.irem, 1) := o112 (byt_of hW_isHow_b0 (j := 17) rfl)
theorem dW_isHow_18 : decode (mcc mW_isHow) 18 = .ok (.bipush 6, 2) := o16 (a := 6) (byt_of hW_isHow_b0 (j := 18) rfl) (byt_of hW_isHow_b0 (j := 19) rfl) rfl
theorem dW_isHow_20 : decode (mcc mW_isHow) 20 = .ok (.if_icmp .ge 14, 3) := o162 (a := 0) (b := 14) (byt_of hW_isHow_b0 (j := 20) rfl) (byt_of hW_isHow_b0 (j := 21) rfl) (byt_of hW_isHow_b0 (j := 22) rfl) rfl
theorem dW_isHow_23 : decode (mcc mW_isHow) 23 = .ok (.iload_n 0, 1) := o26 (byt_of hW_isHow_b0 (j := 23) rfl)
theorem dW_isHow_24 : decode (mcc mW_isHow) 24 = .ok (.bipush 10, 2) := o16 (a := 10) (byt_of hW_isHow_b0 (j := 24) rfl) (byt_of hW_isHow_b0 (j := 25) rfl) rfl
theorem dW_isHow_26 : decode (mcc mW_isHow) 26 = .ok (.irem, 1) := o112 (byt_of hW_isHow_b0 (j := 26) rfl)
theorem dW_isHow_27 : decode (mcc mW_isHow) 27 = .ok (.ifCond .le 7, 3) := o158 (a := 0) (b := 7) (byt_of hW_isHow_b0 (j := 27) rfl) (byt_of hW_isHow_b0 (j := 28) rfl) (byt_of hW_isHow_b0 (j := 29) rfl) rfl
theorem dW_isHow_30 : decode (mcc mW_isHow) 30 = .ok (.iconst 1, 1) := o4 (byt_of hW_isHow_b0 (j := 30) rfl)
theorem dW_isHow_31 : decode (mcc mW_isHow) 31 = .ok (.goto 4, 3) := o167 (a := 0) (b := 4) (byt_of hW_isHow_b0 (j := 31) rfl) (byt_of hW_isHow_b0 (j := 32) rfl) (byt_of hW_isHow_b0 (j := 33) rfl) rfl
def bW_isHow_b1 : List Nat := [0, 4, 3, 172]
theorem hW_isHow_b1 : BL (mcc mW_isHow) 32 bW_isHow_b1 := by decide +kernel
theorem dW_isHow_34 : decode (mcc mW_isHow) 34 = .ok (.iconst 0, 1) := o3 (byt_of hW_isHow_b1 (j := 2) rfl)
theorem dW_isHow_35 : decode (mcc mW_isHow) 35 = .ok (.ireturn, 1) := o172 (byt_of hW_isHow_b1 (j := 3) rfl)
def bW_bounded_b0 : List Nat := [3, 26, 27, 184, 1, 59, 184, 1, 10, 172]
theorem hW_bounded_b0 : BL (mcc mW_bounded) 0 bW_bounded_b0 := by decide +kernel
theorem dW_bounded_0 : decode (mcc mW_bounded) 0 = .ok (.iconst 0, 1) := o3 (byt_of hW_bounded_b0 (j := 0) rfl)
theorem dW_bounded_1 : decode (mcc mW_bounded) 1 = .ok (.iload_n 0, 1) := o26 (byt_of hW_bounded_b0 (j := 1) rfl)
theorem dW_bounded_2 : decode (mcc mW_bounded) 2 = .ok (.iload_n 1, 1) := o27 (byt_of hW_bounded_b0 (j := 2) rfl)
theorem dW_bounded_3 : decode (mcc mW_bounded) 3 = .ok (.invokestatic 315, 3) := o184 (a := 1) (b := 59) (byt_of hW_bounded_b0 (j := 3) rfl) (byt_of hW_bounded_b0 (j := 4) rfl) (byt_of hW_bounded_b0 (j := 5) rfl) rfl
theorem dW_bounded_6 : decode (mcc mW_bounded) 6 = .ok (.invokestatic 266, 3) := o184 (a := 1) (b := 10) (byt_of hW_bounded_b0 (j := 6) rfl) (byt_of hW_bounded_b0 (j := 7) rfl) (byt_of hW_bounded_b0 (j := 8) rfl) rfl
theorem dW_bounded_9 : decode (mcc mW_bounded) 9 = .ok (.ireturn, 1) := o172 (byt_of hW_bounded_b0 (j := 9) rfl)
def bW_leastOf_b0 : List Nat := [3, 60, 4, 61, 28, 42, 190, 162, 0, 20, 42, 28, 46, 42, 27, 46, 162, 0, 5, 28, 60, 132, 2, 1, 167, 255, 236, 27, 172]
theorem hW_leastOf_b0 : BL (mcc mW_leastOf) 0 bW_leastOf_b0 := by decide +kernel
theorem dW_leastOf_0 : decode (mcc mW_leastOf) 0 = .ok (.iconst 0, 1) := o3 (byt_of hW_leastOf_b0 (j := 0) rfl)
theorem dW_leastOf_1 : decode (mcc mW_leastOf) 1 = .ok (.istore_n 1, 1) := o60 (byt_of hW_leastOf_b0 (j := 1) rfl)
theorem dW_leastOf_2 : decode (mcc mW_leastOf) 2 = .ok (.iconst 1, 1) := o4 (byt_of hW_leastOf_b0 (j := 2) rfl)
theorem dW_leastOf_3 : decode (mcc mW_leastOf) 3 = .ok (.istore_n 2, 1) := o61 (byt_of hW_leastOf_b0 (j := 3) rfl)
theorem dW_leastOf_4 : decode (mcc mW_leastOf) 4 = .ok (.iload_n 2, 1) := o28 (byt_of hW_leastOf_b0 (j := 4) rfl)
theorem dW_leastOf_5 : decode (mcc mW_leastOf) 5 = .ok (.aload_n 0, 1) := o42 (byt_of hW_leastOf_b0 (j := 5) rfl)
theorem dW_leastOf_6 : decode (mcc mW_leastOf) 6 = .ok (.arraylength, 1) := o190 (byt_of hW_leastOf_b0 (j := 6) rfl)
theorem dW_leastOf_7 : decode (mcc mW_leastOf) 7 = .ok (.if_icmp .ge 20, 3) := o162 (a := 0) (b := 20) (byt_of hW_leastOf_b0 (j := 7) rfl) (byt_of hW_leastOf_b0 (j := 8) rfl) (byt_of hW_leastOf_b0 (j := 9) rfl) rfl
theorem dW_leastOf_10 : decode (mcc mW_leastOf) 10 = .ok (.aload_n 0, 1) := o42 (byt_of hW_leastOf_b0 (j := 10) rfl)
theorem dW_leastOf_11 : decode (mcc mW_leastOf) 11 = .ok (.iload_n 2, 1) := o28 (byt_of hW_leastOf_b0 (j := 11) rfl)
theorem dW_leastOf_12 : decode (mcc mW_leastOf) 12 = .ok (.iaload, 1) := o46 (byt_of hW_leastOf_b0 (j := 12) rfl)
theorem dW_leastOf_13 : decode (mcc mW_leastOf) 13 = .ok (.aload_n 0, 1) := o42 (byt_of hW_leastOf_b0 (j := 13) rfl)
theorem dW_leastOf_14 : decode (mcc mW_leastOf) 14 = .ok (.iload_n 1, 1) := o27 (byt_of hW_leastOf_b0 (j := 14) rfl)
theorem dW_leastOf_15 : decode (mcc mW_leastOf) 15 = .ok (.iaload, 1) := o46 (byt_of hW_leastOf_b0 (j := 15) rfl)
theorem dW_leastOf_16 : decode (mcc mW_leastOf) 16 = .ok (.if_icmp .ge 5, 3) := o162 (a := 0) (b := 5) (byt_of hW_leastOf_b0 (j := 16) rfl) (byt_of hW_leastOf_b0 (j := 17) rfl) (byt_of hW_leastOf_b0 (j := 18) rfl) rfl
theorem dW_leastOf_19 : decode (mcc mW_leastOf) 19 = .ok (.iload_n 2, 1) := o28 (byt_of hW_leastOf_b0 (j := 19) rfl)
theorem dW_leastOf_20 : decode (mcc mW_leastOf) 20 = .ok (.istore_n 1, 1) := o60 (byt_of hW_leastOf_b0 (j := 20) rfl)
theorem dW_leastOf_21 : decode (mcc mW_leastOf) 21 = .ok (.iinc 2 1, 3) := o132 (a := 2) (b := 1) (byt_of hW_leastOf_b0 (j := 21) rfl) (byt_of hW_leastOf_b0 (j := 22) rfl) (byt_of hW_leastOf_b0 (j := 23) rfl) rfl
theorem dW_leastOf_24 : decode (mcc mW_leastOf) 24 = .ok (.goto (-20), 3) := o167 (a := 255) (b := 236) (byt_of hW_leastOf_b0 (j := 24) rfl) (byt_of hW_leastOf_b0 (j := 25) rfl) (byt_of hW_leastOf_b0 (j := 26) rfl) rfl
theorem dW_leastOf_27 : decode (mcc mW_leastOf) 27 = .ok (.iload_n 1, 1) := o27 (byt_of hW_leastOf_b0 (j := 27) rfl)
theorem dW_leastOf_28 : decode (mcc mW_leastOf) 28 = .ok (.ireturn, 1) := o172 (byt_of hW_leastOf_b0 (j := 28) rfl)
def bW_mostOf_b0 : List Nat := [3, 60, 4, 61, 28, 42, 190, 162, 0, 20, 42, 28, 46, 42, 27, 46, 164, 0, 5, 28, 60, 132, 2, 1, 167, 255, 236, 27, 172]
theorem hW_mostOf_b0 : BL (mcc mW_mostOf) 0 bW_mostOf_b0 := by decide +kernel
theorem dW_mostOf_0 : decode (mcc mW_mostOf) 0 = .ok (.iconst 0, 1) := o3 (byt_of hW_mostOf_b0 (j := 0) rfl)
theorem dW_mostOf_1 : decode (mcc mW_mostOf) 1 = .ok (.istore_n 1, 1) := o60 (byt_of hW_mostOf_b0 (j := 1) rfl)
theorem dW_mostOf_2 : decode (mcc mW_mostOf) 2 = .ok (.iconst 1, 1) := o4 (byt_of hW_mostOf_b0 (j := 2) rfl)
theorem dW_mostOf_3 : decode (mcc mW_mostOf) 3 = .ok (.istore_n 2, 1) := o61 (byt_of hW_mostOf_b0 (j := 3) rfl)
theorem dW_mostOf_4 : decode (mcc mW_mostOf) 4 = .ok (.iload_n 2, 1) := o28 (byt_of hW_mostOf_b0 (j := 4) rfl)
theorem dW_mostOf_5 : decode (mcc mW_mostOf) 5 = .ok (.aload_n 0, 1) := o42 (byt_of hW_mostOf_b0 (j := 5) rfl)
theorem dW_mostOf_6 : decode (mcc mW_mostOf) 6 = .ok (.arraylength, 1) := o190 (byt_of hW_mostOf_b0 (j := 6) rfl)
theorem dW_mostOf_7 : decode (mcc mW_mostOf) 7 = .ok (.if_icmp .ge 20, 3) := o162 (a := 0) (b := 20) (byt_of hW_mostOf_b0 (j := 7) rfl) (byt_of hW_mostOf_b0 (j := 8) rfl) (byt_of hW_mostOf_b0 (j := 9) rfl) rfl
theorem dW_mostOf_10 : decode (mcc mW_mostOf) 10 = .ok (.aload_n 0, 1) := o42 (byt_of hW_mostOf_b0 (j := 10) rfl)
theorem dW_mostOf_11 : decode (mcc mW_mostOf) 11 = .ok (.iload_n 2, 1) := o28 (byt_of hW_mostOf_b0 (j := 11) rfl)
theorem dW_mostOf_12 : decode (mcc mW_mostOf) 12 = .ok (.iaload, 1) := o46 (byt_of hW_mostOf_b0 (j := 12) rfl)
theorem dW_mostOf_13 : decode (mcc mW_mostOf) 13 = .ok (.aload_n 0, 1) := o42 (byt_of hW_mostOf_b0 (j := 13) rfl)
theorem dW_mostOf_14 : decode (mcc mW_mostOf) 14 = .ok (.iload_n 1, 1) := o27 (byt_of hW_mostOf_b0 (j := 14) rfl)
theorem dW_mostOf_15 : decode (mcc mW_mostOf) 15 = .ok (.iaload, 1) := o46 (byt_of hW_mostOf_b0 (j := 15) rfl)
theorem dW_mostOf_16 : decode (mcc mW_mostOf) 16 = .ok (.if_icmp .le 5, 3) := o164 (a := 0) (b := 5) (byt_of hW_mostOf_b0 (j := 16) rfl) (byt_of hW_mostOf_b0 (j := 17) rfl) (byt_of hW_mostOf_b0 (j := 18) rfl) rfl
theorem dW_mostOf_19 : decode (mcc mW_mostOf) 19 = .ok (.iload_n 2, 1) := o28 (byt_of hW_mostOf_b0 (j := 19) rfl)
theorem dW_mostOf_20 : decode (mcc mW_mostOf) 20 = .ok (.istore_n 1, 1) := o60 (byt_of hW_mostOf_b0 (j := 20) rfl)
theorem dW_mostOf_21 : decode (mcc mW_mostOf) 21 = .ok (.iinc 2 1, 3) := o132 (a := 2) (b := 1) (byt_of hW_mostOf_b0 (j := 21) rfl) (byt_of hW_mostOf_b0 (j := 22) rfl) (byt_of hW_mostOf_b0 (j := 23) rfl) rfl
theorem dW_mostOf_24 : decode (mcc mW_mostOf) 24 = .ok (.goto (-20), 3) := o167 (a := 255) (b := 236) (byt_of hW_mostOf_b0 (j := 24) rfl) (byt_of hW_mostOf_b0 (j := 25) rfl) (byt_of hW_mostOf_b0 (j := 26) rfl) rfl
theorem dW_mostOf_27 : decode (mcc mW_mostOf) 27 = .ok (.iload_n 1, 1) := o27 (byt_of hW_mostOf_b0 (j := 27) rfl)
theorem dW_mostOf_28 : decode (mcc mW_mostOf) 28 = .ok (.ireturn, 1) := o172 (byt_of hW_mostOf_b0 (j := 28) rfl)
def bW_commonDivisor_b0 : List Nat := [27, 61, 26, 62, 3, 54, 4, 21, 4, 16, 32, 162, 0, 23, 29, 158, 0, 19, 28, 29, 112, 54, 5, 29, 61, 21, 5, 62, 132, 4, 1, 167, 255, 232, 4, 28, 184, 1]
theorem hW_commonDivisor_b0 : BL (mcc mW_commonDivisor) 0 bW_commonDivisor_b0 := by decide +kernel
theorem dW_commonDivisor_0 : decode (mcc mW_commonDivisor) 0 = .ok (.iload_n 1, 1) := o27 (byt_of hW_commonDivisor_b0 (j := 0) rfl)
theorem dW_commonDivisor_1 : decode (mcc mW_commonDivisor) 1 = .ok (.istore_n 2, 1) := o61 (byt_of hW_commonDivisor_b0 (j := 1) rfl)
theorem dW_commonDivisor_2 : decode (mcc mW_commonDivisor) 2 = .ok (.iload_n 0, 1) := o26 (byt_of hW_commonDivisor_b0 (j := 2) rfl)
theorem dW_commonDivisor_3 : decode (mcc mW_commonDivisor) 3 = .ok (.istore_n 3, 1) := o62 (byt_of hW_commonDivisor_b0 (j := 3) rfl)
theorem dW_commonDivisor_4 : decode (mcc mW_commonDivisor) 4 = .ok (.iconst 0, 1) := o3 (byt_of hW_commonDivisor_b0 (j := 4) rfl)
theorem dW_commonDivisor_5 : decode (mcc mW_commonDivisor) 5 = .ok (.istore 4, 2) := o54 (a := 4) (byt_of hW_commonDivisor_b0 (j := 5) rfl) (byt_of hW_commonDivisor_b0 (j := 6) rfl)
theorem dW_commonDivisor_7 : decode (mcc mW_commonDivisor) 7 = .ok (.iload 4, 2) := o21 (a := 4) (byt_of hW_commonDivisor_b0 (j := 7) rfl) (byt_of hW_commonDivisor_b0 (j := 8) rfl)
theorem dW_commonDivisor_9 : decode (mcc mW_commonDivisor) 9 = .ok (.bipush 32, 2) := o16 (a := 32) (byt_of hW_commonDivisor_b0 (j := 9) rfl) (byt_of hW_commonDivisor_b0 (j := 10) rfl) rfl
theorem dW_commonDivisor_11 : decode (mcc mW_commonDivisor) 11 = .ok (.if_icmp .ge 23, 3) := o162 (a := 0) (b := 23) (byt_of hW_commonDivisor_b0 (j := 11) rfl) (byt_of hW_commonDivisor_b0 (j := 12) rfl) (byt_of hW_commonDivisor_b0 (j := 13) rfl) rfl
theorem dW_commonDivisor_14 : decode (mcc mW_commonDivisor) 14 = .ok (.iload_n 3, 1) := o29 (byt_of hW_commonDivisor_b0 (j := 14) rfl)
theorem dW_commonDivisor_15 : decode (mcc mW_commonDivisor) 15 = .ok (.ifCond .le 19, 3) := o158 (a := 0) (b := 19) (byt_of hW_commonDivisor_b0 (j := 15) rfl) (byt_of hW_commonDivisor_b0 (j := 16) rfl) (byt_of hW_commonDivisor_b0 (j := 17) rfl) rfl
theorem dW_commonDivisor_18 : decode (mcc mW_commonDivisor) 18 = .ok (.iload_n 2, 1) := o28 (byt_of hW_commonDivisor_b0 (j := 18) rfl)
theorem dW_commonDivisor_19 : decode (mcc mW_commonDivisor) 19 = .ok (.iload_n 3, 1) := o29 (byt_of hW_commonDivisor_b0 (j := 19) rfl)
theorem dW_commonDivisor_20 : decode (mcc mW_commonDivisor) 20 = .ok (.irem, 1) := o112 (byt_of hW_commonDivisor_b0 (j := 20) rfl)
theorem dW_commonDivisor_21 : decode (mcc mW_commonDivisor) 21 = .ok (.istore 5, 2) := o54 (a := 5) (byt_of hW_commonDivisor_b0 (j := 21) rfl) (byt_of hW_commonDivisor_b0 (j := 22) rfl)
theorem dW_commonDivisor_23 : decode (mcc mW_commonDivisor) 23 = .ok (.iload_n 3, 1) := o29 (byt_of hW_commonDivisor_b0 (j := 23) rfl)
theorem dW_commonDivisor_24 : decode (mcc mW_commonDivisor) 24 = .ok (.istore_n 2, 1) := o61 (byt_of hW_commonDivisor_b0 (j := 24) rfl)
theorem dW_commonDivisor_25 : decode (mcc mW_commonDivisor) 25 = .ok (.iload 5, 2) := o21 (a := 5) (byt_of hW_commonDivisor_b0 (j := 25) rfl) (byt_of hW_commonDivisor_b0 (j := 26) rfl)
theorem dW_commonDivisor_27 : decode (mcc mW_commonDivisor) 27 = .ok (.istore_n 3, 1) := o62 (byt_of hW_commonDivisor_b0 (j := 27) rfl)
theorem dW_commonDivisor_28 : decode (mcc mW_commonDivisor) 28 = .ok (.iinc 4 1, 3) := o132 (a := 4) (b := 1) (byt_of hW_commonDivisor_b0 (j := 28) rfl) (byt_of hW_commonDivisor_b0 (j := 29) rfl) (byt_of hW_commonDivisor_b0 (j := 30) rfl) rfl
theorem dW_commonDivisor_31 : decode (mcc mW_commonDivisor) 31 = .ok (.goto (-24), 3) := o167 (a := 255) (b := 232) (byt_of hW_commonDivisor_b0 (j := 31) rfl) (byt_of hW_commonDivisor_b0 (j := 32) rfl) (byt_of hW_commonDivisor_b0 (j := 33) rfl) rfl
def bW_commonDivisor_b1 : List Nat := [255, 232, 4, 28, 184, 1, 10, 172]
theorem hW_commonDivisor_b1 : BL (mcc mW_commonDivisor) 32 bW_commonDivisor_b1 := by decide +kernel
theorem dW_commonDivisor_34 : decode (mcc mW_commonDivisor) 34 = .ok (.iconst 1, 1) := o4 (byt_of hW_commonDivisor_b1 (j := 2) rfl)
theorem dW_commonDivisor_35 : decode (mcc mW_commonDivisor) 35 = .ok (.iload_n 2, 1) := o28 (byt_of hW_commonDivisor_b1 (j := 3) rfl)
theorem dW_commonDivisor_36 : decode (mcc mW_commonDivisor) 36 = .ok (.invokestatic 266, 3) := o184 (a := 1) (b := 10) (byt_of hW_commonDivisor_b1 (j := 4) rfl) (byt_of hW_commonDivisor_b1 (j := 5) rfl) (byt_of hW_commonDivisor_b1 (j := 6) rfl) rfl
theorem dW_commonDivisor_39 : decode (mcc mW_commonDivisor) 39 = .ok (.ireturn, 1) := o172 (byt_of hW_commonDivisor_b1 (j := 7) rfl)
def bW_wayTo_b0 : List Nat := [42, 180, 0, 12, 42, 180, 0, 33, 180, 0, 196, 27, 4, 100, 46, 42, 180, 0, 33, 180, 0, 196, 27, 46, 182, 0, 105, 172]
theorem hW_wayTo_b0 : BL (mcc mW_wayTo) 0 bW_wayTo_b0 := by decide +kernel
theorem dW_wayTo_0 : decode (mcc mW_wayTo) 0 = .ok (.aload_n 0, 1) := o42 (byt_of hW_wayTo_b0 (j := 0) rfl)
theorem dW_wayTo_1 : decode (mcc mW_wayTo) 1 = .ok (.getfield 12, 3) := o180 (a := 0) (b := 12) (byt_of hW_wayTo_b0 (j := 1) rfl) (byt_of hW_wayTo_b0 (j := 2) rfl) (byt_of hW_wayTo_b0 (j := 3) rfl) rfl
theorem dW_wayTo_4 : decode (mcc mW_wayTo) 4 = .ok (.aload_n 0, 1) := o42 (byt_of hW_wayTo_b0 (j := 4) rfl)
theorem dW_wayTo_5 : decode (mcc mW_wayTo) 5 = .ok (.getfield 33, 3) := o180 (a := 0) (b := 33) (byt_of hW_wayTo_b0 (j := 5) rfl) (byt_of hW_wayTo_b0 (j := 6) rfl) (byt_of hW_wayTo_b0 (j := 7) rfl) rfl
theorem dW_wayTo_8 : decode (mcc mW_wayTo) 8 = .ok (.getfield 196, 3) := o180 (a := 0) (b := 196) (byt_of hW_wayTo_b0 (j := 8) rfl) (byt_of hW_wayTo_b0 (j := 9) rfl) (byt_of hW_wayTo_b0 (j := 10) rfl) rfl
theorem dW_wayTo_11 : decode (mcc mW_wayTo) 11 = .ok (.iload_n 1, 1) := o27 (byt_of hW_wayTo_b0 (j := 11) rfl)
theorem dW_wayTo_12 : decode (mcc mW_wayTo) 12 = .ok (.iconst 1, 1) := o4 (byt_of hW_wayTo_b0 (j := 12) rfl)
theorem dW_wayTo_13 : decode (mcc mW_wayTo) 13 = .ok (.isub, 1) := o100 (byt_of hW_wayTo_b0 (j := 13) rfl)
theorem dW_wayTo_14 : decode (mcc mW_wayTo) 14 = .ok (.iaload, 1) := o46 (byt_of hW_wayTo_b0 (j := 14) rfl)
theorem dW_wayTo_15 : decode (mcc mW_wayTo) 15 = .ok (.aload_n 0, 1) := o42 (byt_of hW_wayTo_b0 (j := 15) rfl)
theorem dW_wayTo_16 : decode (mcc mW_wayTo) 16 = .ok (.getfield 33, 3) := o180 (a := 0) (b := 33) (byt_of hW_wayTo_b0 (j := 16) rfl) (byt_of hW_wayTo_b0 (j := 17) rfl) (byt_of hW_wayTo_b0 (j := 18) rfl) rfl
theorem dW_wayTo_19 : decode (mcc mW_wayTo) 19 = .ok (.getfield 196, 3) := o180 (a := 0) (b := 196) (byt_of hW_wayTo_b0 (j := 19) rfl) (byt_of hW_wayTo_b0 (j := 20) rfl) (byt_of hW_wayTo_b0 (j := 21) rfl) rfl
theorem dW_wayTo_22 : decode (mcc mW_wayTo) 22 = .ok (.iload_n 1, 1) := o27 (byt_of hW_wayTo_b0 (j := 22) rfl)
theorem dW_wayTo_23 : decode (mcc mW_wayTo) 23 = .ok (.iaload, 1) := o46 (byt_of hW_wayTo_b0 (j := 23) rfl)
theorem dW_wayTo_24 : decode (mcc mW_wayTo) 24 = .ok (.invokevirtual 105, 3) := o182 (a := 0) (b := 105) (byt_of hW_wayTo_b0 (j := 24) rfl) (byt_of hW_wayTo_b0 (j := 25) rfl) (byt_of hW_wayTo_b0 (j := 26) rfl) rfl
theorem dW_wayTo_27 : decode (mcc mW_wayTo) 27 = .ok (.ireturn, 1) := o172 (byt_of hW_wayTo_b0 (j := 27) rfl)
def bW_movesAway_b0 : List Nat := [42, 180, 0, 56, 42, 180, 0, 47, 180, 0, 127, 182, 0, 205, 42, 180, 0, 56, 27, 182, 1, 15, 42, 180, 0, 56, 180, 1, 18, 184, 1, 21, 61, 42, 180, 0, 56, 180]
theorem hW_movesAway_b0 : BL (mcc mW_movesAway) 0 bW_movesAway_b0 := by decide +kernel
theorem dW_movesAway_0 : decode (mcc mW_movesAway) 0 = .ok (.aload_n 0, 1) := o42 (byt_of hW_movesAway_b0 (j := 0) rfl)
theorem dW_movesAway_1 : decode (mcc mW_movesAway) 1 = .ok (.getfield 56, 3) := o180 (a := 0) (b := 56) (byt_of hW_movesAway_b0 (j := 1) rfl) (byt_of hW_movesAway_b0 (j := 2) rfl) (byt_of hW_movesAway_b0 (j := 3) rfl) rfl
theorem dW_movesAway_4 : decode (mcc mW_movesAway) 4 = .ok (.aload_n 0, 1) := o42 (byt_of hW_movesAway_b0 (j := 4) rfl)
theorem dW_movesAway_5 : decode (mcc mW_movesAway) 5 = .ok (.getfield 47, 3) := o180 (a := 0) (b := 47) (byt_of hW_movesAway_b0 (j := 5) rfl) (byt_of hW_movesAway_b0 (j := 6) rfl) (byt_of hW_movesAway_b0 (j := 7) rfl) rfl
theorem dW_movesAway_8 : decode (mcc mW_movesAway) 8 = .ok (.getfield 127, 3) := o180 (a := 0) (b := 127) (byt_of hW_movesAway_b0 (j := 8) rfl) (byt_of hW_movesAway_b0 (j := 9) rfl) (byt_of hW_movesAway_b0 (j := 10) rfl) rfl
theorem dW_movesAway_11 : decode (mcc mW_movesAway) 11 = .ok (.invokevirtual 205, 3) := o182 (a := 0) (b := 205) (byt_of hW_movesAway_b0 (j := 11) rfl) (byt_of hW_movesAway_b0 (j := 12) rfl) (byt_of hW_movesAway_b0 (j := 13) rfl) rfl
theorem dW_movesAway_14 : decode (mcc mW_movesAway) 14 = .ok (.aload_n 0, 1) := o42 (byt_of hW_movesAway_b0 (j := 14) rfl)
theorem dW_movesAway_15 : decode (mcc mW_movesAway) 15 = .ok (.getfield 56, 3) := o180 (a := 0) (b := 56) (byt_of hW_movesAway_b0 (j := 15) rfl) (byt_of hW_movesAway_b0 (j := 16) rfl) (byt_of hW_movesAway_b0 (j := 17) rfl) rfl
theorem dW_movesAway_18 : decode (mcc mW_movesAway) 18 = .ok (.iload_n 1, 1) := o27 (byt_of hW_movesAway_b0 (j := 18) rfl)
theorem dW_movesAway_19 : decode (mcc mW_movesAway) 19 = .ok (.invokevirtual 271, 3) := o182 (a := 1) (b := 15) (byt_of hW_movesAway_b0 (j := 19) rfl) (byt_of hW_movesAway_b0 (j := 20) rfl) (byt_of hW_movesAway_b0 (j := 21) rfl) rfl
theorem dW_movesAway_22 : decode (mcc mW_movesAway) 22 = .ok (.aload_n 0, 1) := o42 (byt_of hW_movesAway_b0 (j := 22) rfl)
theorem dW_movesAway_23 : decode (mcc mW_movesAway) 23 = .ok (.getfield 56, 3) := o180 (a := 0) (b := 56) (byt_of hW_movesAway_b0 (j := 23) rfl) (byt_of hW_movesAway_b0 (j := 24) rfl) (byt_of hW_movesAway_b0 (j := 25) rfl) rfl
theorem dW_movesAway_26 : decode (mcc mW_movesAway) 26 = .ok (.getfield 274, 3) := o180 (a := 1) (b := 18) (byt_of hW_movesAway_b0 (j := 26) rfl) (byt_of hW_movesAway_b0 (j := 27) rfl) (byt_of hW_movesAway_b0 (j := 28) rfl) rfl
theorem dW_movesAway_29 : decode (mcc mW_movesAway) 29 = .ok (.invokestatic 277, 3) := o184 (a := 1) (b := 21) (byt_of hW_movesAway_b0 (j := 29) rfl) (byt_of hW_movesAway_b0 (j := 30) rfl) (byt_of hW_movesAway_b0 (j := 31) rfl) rfl
def bW_movesAway_b1 : List Nat := [61, 42, 180, 0, 56, 180, 1, 18, 28, 46, 42, 180, 0, 56, 180, 1, 18, 42, 180, 0, 19, 27, 182, 1, 105, 46, 161, 0, 5, 3, 172, 42, 180, 0, 19, 180, 0, 146]
theorem hW_movesAway_b1 : BL (mcc mW_movesAway) 32 bW_movesAway_b1 := by decide +kernel
theorem dW_movesAway_32 : decode (mcc mW_movesAway) 32 = .ok (.istore_n 2, 1) := o61 (byt_of hW_movesAway_b1 (j := 0) rfl)
theorem dW_movesAway_33 : decode (mcc mW_movesAway) 33 = .ok (.aload_n 0, 1) := o42 (byt_of hW_movesAway_b1 (j := 1) rfl)
theorem dW_movesAway_34 : decode (mcc mW_movesAway) 34 = .ok (.getfield 56, 3) := o180 (a := 0) (b := 56) (byt_of hW_movesAway_b1 (j := 2) rfl) (byt_of hW_movesAway_b1 (j := 3) rfl) (byt_of hW_movesAway_b1 (j := 4) rfl) rfl
theorem dW_movesAway_37 : decode (mcc mW_movesAway) 37 = .ok (.getfield 274, 3) := o180 (a := 1) (b := 18) (byt_of hW_movesAway_b1 (j := 5) rfl) (byt_of hW_movesAway_b1 (j := 6) rfl) (byt_of hW_movesAway_b1 (j := 7) rfl) rfl
theorem dW_movesAway_40 : decode (mcc mW_movesAway) 40 = .ok (.iload_n 2, 1) := o28 (byt_of hW_movesAway_b1 (j := 8) rfl)
theorem dW_movesAway_41 : decode (mcc mW_movesAway) 41 = .ok (.iaload, 1) := o46 (byt_of hW_movesAway_b1 (j := 9) rfl)
theorem dW_movesAway_42 : decode (mcc mW_movesAway) 42 = .ok (.aload_n 0, 1) := o42 (byt_of hW_movesAway_b1 (j := 10) rfl)
theorem dW_movesAway_43 : decode (mcc mW_movesAway) 43 = .ok (.getfield 56, 3) := o180 (a := 0) (b := 56) (byt_of hW_movesAway_b1 (j := 11) rfl) (byt_of hW_movesAway_b1 (j := 12) rfl) (byt_of hW_movesAway_b1 (j := 13) rfl) rfl
theorem dW_movesAway_46 : decode (mcc mW_movesAway) 46 = .ok (.getfield 274, 3) := o180 (a := 1) (b := 18) (byt_of hW_movesAway_b1 (j := 14) rfl) (byt_of hW_movesAway_b1 (j := 15) rfl) (byt_of hW_movesAway_b1 (j := 16) rfl) rfl
theorem dW_movesAway_49 : decode (mcc mW_movesAway) 49 = .ok (.aload_n 0, 1) := o42 (byt_of hW_movesAway_b1 (j := 17) rfl)
theorem dW_movesAway_50 : decode (mcc mW_movesAway) 50 = .ok (.getfield 19, 3) := o180 (a := 0) (b := 19) (byt_of hW_movesAway_b1 (j := 18) rfl) (byt_of hW_movesAway_b1 (j := 19) rfl) (byt_of hW_movesAway_b1 (j := 20) rfl) rfl
theorem dW_movesAway_53 : decode (mcc mW_movesAway) 53 = .ok (.iload_n 1, 1) := o27 (byt_of hW_movesAway_b1 (j := 21) rfl)
theorem dW_movesAway_54 : decode (mcc mW_movesAway) 54 = .ok (.invokevirtual 361, 3) := o182 (a := 1) (b := 105) (byt_of hW_movesAway_b1 (j := 22) rfl) (byt_of hW_movesAway_b1 (j := 23) rfl) (byt_of hW_movesAway_b1 (j := 24) rfl) rfl
theorem dW_movesAway_57 : decode (mcc mW_movesAway) 57 = .ok (.iaload, 1) := o46 (byt_of hW_movesAway_b1 (j := 25) rfl)
theorem dW_movesAway_58 : decode (mcc mW_movesAway) 58 = .ok (.if_icmp .lt 5, 3) := o161 (a := 0) (b := 5) (byt_of hW_movesAway_b1 (j := 26) rfl) (byt_of hW_movesAway_b1 (j := 27) rfl) (byt_of hW_movesAway_b1 (j := 28) rfl) rfl
theorem dW_movesAway_61 : decode (mcc mW_movesAway) 61 = .ok (.iconst 0, 1) := o3 (byt_of hW_movesAway_b1 (j := 29) rfl)
theorem dW_movesAway_62 : decode (mcc mW_movesAway) 62 = .ok (.ireturn, 1) := o172 (byt_of hW_movesAway_b1 (j := 30) rfl)
theorem dW_movesAway_63 : decode (mcc mW_movesAway) 63 = .ok (.aload_n 0, 1) := o42 (byt_of hW_movesAway_b1 (j := 31) rfl)
def bW_movesAway_b2 : List Nat := [180, 0, 19, 180, 0, 146, 27, 28, 79, 4, 172]
theorem hW_movesAway_b2 : BL (mcc mW_movesAway) 64 bW_movesAway_b2 := by decide +kernel
theorem dW_movesAway_64 : decode (mcc mW_movesAway) 64 = .ok (.getfield 19, 3) := o180 (a := 0) (b := 19) (byt_of hW_movesAway_b2 (j := 0) rfl) (byt_of hW_movesAway_b2 (j := 1) rfl) (byt_of hW_movesAway_b2 (j := 2) rfl) rfl
theorem dW_movesAway_67 : decode (mcc mW_movesAway) 67 = .ok (.getfield 146, 3) := o180 (a := 0) (b := 146) (byt_of hW_movesAway_b2 (j := 3) rfl) (byt_of hW_movesAway_b2 (j := 4) rfl) (byt_of hW_movesAway_b2 (j := 5) rfl) rfl
theorem dW_movesAway_70 : decode (mcc mW_movesAway) 70 = .ok (.iload_n 1, 1) := o27 (byt_of hW_movesAway_b2 (j := 6) rfl)
theorem dW_movesAway_71 : decode (mcc mW_movesAway) 71 = .ok (.iload_n 2, 1) := o28 (byt_of hW_movesAway_b2 (j := 7) rfl)
theorem dW_movesAway_72 : decode (mcc mW_movesAway) 72 = .ok (.iastore, 1) := o79 (byt_of hW_movesAway_b2 (j := 8) rfl)
theorem dW_movesAway_73 : decode (mcc mW_movesAway) 73 = .ok (.iconst 1, 1) := o4 (byt_of hW_movesAway_b2 (j := 9) rfl)
theorem dW_movesAway_74 : decode (mcc mW_movesAway) 74 = .ok (.ireturn, 1) := o172 (byt_of hW_movesAway_b2 (j := 10) rfl)
def bW_witnessRefusal_b0 : List Nat := [27, 3, 6, 184, 0, 101, 154, 0, 6, 16, 254, 172, 42, 180, 0, 70, 27, 182, 1, 79, 153, 0, 6, 16, 245, 172, 42, 180, 0, 70, 180, 1, 82, 27, 46, 42, 180, 0]
theorem hW_witnessRefusal_b0 : BL (mcc mW_witnessRefusal) 0 bW_witnessRefusal_b0 := by decide +kernel
theorem dW_witnessRefusal_0 : decode (mcc mW_witnessRefusal) 0 = .ok (.iload_n 1, 1) := o27 (byt_of hW_witnessRefusal_b0 (j := 0) rfl)
theorem dW_witnessRefusal_1 : decode (mcc mW_witnessRefusal) 1 = .ok (.iconst 0, 1) := o3 (byt_of hW_witnessRefusal_b0 (j := 1) rfl)
theorem dW_witnessRefusal_2 : decode (mcc mW_witnessRefusal) 2 = .ok (.iconst 3, 1) := o6 (byt_of hW_witnessRefusal_b0 (j := 2) rfl)
theorem dW_witnessRefusal_3 : decode (mcc mW_witnessRefusal) 3 = .ok (.invokestatic 101, 3) := o184 (a := 0) (b := 101) (byt_of hW_witnessRefusal_b0 (j := 3) rfl) (byt_of hW_witnessRefusal_b0 (j := 4) rfl) (byt_of hW_witnessRefusal_b0 (j := 5) rfl) rfl
theorem dW_witnessRefusal_6 : decode (mcc mW_witnessRefusal) 6 = .ok (.ifCond .ne 6, 3) := o154 (a := 0) (b := 6) (byt_of hW_witnessRefusal_b0 (j := 6) rfl) (byt_of hW_witnessRefusal_b0 (j := 7) rfl) (byt_of hW_witnessRefusal_b0 (j := 8) rfl) rfl
theorem dW_witnessRefusal_9 : decode (mcc mW_witnessRefusal) 9 = .ok (.bipush (-2), 2) := o16 (a := 254) (byt_of hW_witnessRefusal_b0 (j := 9) rfl) (byt_of hW_witnessRefusal_b0 (j := 10) rfl) rfl
theorem dW_witnessRefusal_11 : decode (mcc mW_witnessRefusal) 11 = .ok (.ireturn, 1) := o172 (byt_of hW_witnessRefusal_b0 (j := 11) rfl)
theorem dW_witnessRefusal_12 : decode (mcc mW_witnessRefusal) 12 = .ok (.aload_n 0, 1) := o42 (byt_of hW_witnessRefusal_b0 (j := 12) rfl)
theorem dW_witnessRefusal_13 : decode (mcc mW_witnessRefusal) 13 = .ok (.getfield 70, 3) := o180 (a := 0) (b := 70) (byt_of hW_witnessRefusal_b0 (j := 13) rfl) (byt_of hW_witnessRefusal_b0 (j := 14) rfl) (byt_of hW_witnessRefusal_b0 (j := 15) rfl) rfl
theorem dW_witnessRefusal_16 : decode (mcc mW_witnessRefusal) 16 = .ok (.iload_n 1, 1) := o27 (byt_of hW_witnessRefusal_b0 (j := 16) rfl)
theorem dW_witnessRefusal_17 : decode (mcc mW_witnessRefusal) 17 = .ok (.invokevirtual 335, 3) := o182 (a := 1) (b := 79) (byt_of hW_witnessRefusal_b0 (j := 17) rfl) (byt_of hW_witnessRefusal_b0 (j := 18) rfl) (byt_of hW_witnessRefusal_b0 (j := 19) rfl) rfl
theorem dW_witnessRefusal_20 : decode (mcc mW_witnessRefusal) 20 = .ok (.ifCond .eq 6, 3) := o153 (a := 0) (b := 6) (byt_of hW_witnessRefusal_b0 (j := 20) rfl) (byt_of hW_witnessRefusal_b0 (j := 21) rfl) (byt_of hW_witnessRefusal_b0 (j := 22) rfl) rfl
theorem dW_witnessRefusal_23 : decode (mcc mW_witnessRefusal) 23 = .ok (.bipush (-11), 2) := o16 (a := 245) (byt_of hW_witnessRefusal_b0 (j := 23) rfl) (byt_of hW_witnessRefusal_b0 (j := 24) rfl) rfl
theorem dW_witnessRefusal_25 : decode (mcc mW_witnessRefusal) 25 = .ok (.ireturn, 1) := o172 (byt_of hW_witnessRefusal_b0 (j := 25) rfl)
theorem dW_witnessRefusal_26 : decode (mcc mW_witnessRefusal) 26 = .ok (.aload_n 0, 1) := o42 (byt_of hW_witnessRefusal_b0 (j := 26) rfl)
theorem dW_witnessRefusal_27 : decode (mcc mW_witnessRefusal) 27 = .ok (.getfield 70, 3) := o180 (a := 0) (b := 70) (byt_of hW_witnessRefusal_b0 (j := 27) rfl) (byt_of hW_witnessRefusal_b0 (j := 28) rfl) (byt_of hW_witnessRefusal_b0 (j := 29) rfl) rfl
theorem dW_witnessRefusal_30 : decode (mcc mW_witnessRefusal) 30 = .ok (.getfield 338, 3) := o180 (a := 1) (b := 82) (byt_of hW_witnessRefusal_b0 (j := 30) rfl) (byt_of hW_witnessRefusal_b0 (j := 31) rfl) (byt_of hW_witnessRefusal_b0 (j := 32) rfl) rfl
def bW_witnessRefusal_b1 : List Nat := [82, 27, 46, 42, 180, 0, 33, 180, 0, 125, 160, 0, 7, 3, 167, 0, 5, 16, 254, 172]
theorem hW_witnessRefusal_b1 : BL (mcc mW_witnessRefusal) 32 bW_witnessRefusal_b1 := by decide +kernel
theorem dW_witnessRefusal_33 : decode (mcc mW_witnessRefusal) 33 = .ok (.iload_n 1, 1) := o27 (byt_of hW_witnessRefusal_b1 (j := 1) rfl)
theorem dW_witnessRefusal_34 : decode (mcc mW_witnessRefusal) 34 = .ok (.iaload, 1) := o46 (byt_of hW_witnessRefusal_b1 (j := 2) rfl)
theorem dW_witnessRefusal_35 : decode (mcc mW_witnessRefusal) 35 = .ok (.aload_n 0, 1) := o42 (byt_of hW_witnessRefusal_b1 (j := 3) rfl)
theorem dW_witnessRefusal_36 : decode (mcc mW_witnessRefusal) 36 = .ok (.getfield 33, 3) := o180 (a := 0) (b := 33) (byt_of hW_witnessRefusal_b1 (j := 4) rfl) (byt_of hW_witnessRefusal_b1 (j := 5) rfl) (byt_of hW_witnessRefusal_b1 (j := 6) rfl) rfl
theorem dW_witnessRefusal_39 : decode (mcc mW_witnessRefusal) 39 = .ok (.getfield 125, 3) := o180 (a := 0) (b := 125) (byt_of hW_witnessRefusal_b1 (j := 7) rfl) (byt_of hW_witnessRefusal_b1 (j := 8) rfl) (byt_of hW_witnessRefusal_b1 (j := 9) rfl) rfl
theorem dW_witnessRefusal_42 : decode (mcc mW_witnessRefusal) 42 = .ok (.if_icmp .ne 7, 3) := o160 (a := 0) (b := 7) (byt_of hW_witnessRefusal_b1 (j := 10) rfl) (byt_of hW_witnessRefusal_b1 (j := 11) rfl) (byt_of hW_witnessRefusal_b1 (j := 12) rfl) rfl
theorem dW_witnessRefusal_45 : decode (mcc mW_witnessRefusal) 45 = .ok (.iconst 0, 1) := o3 (byt_of hW_witnessRefusal_b1 (j := 13) rfl)
theorem dW_witnessRefusal_46 : decode (mcc mW_witnessRefusal) 46 = .ok (.goto 5, 3) := o167 (a := 0) (b := 5) (byt_of hW_witnessRefusal_b1 (j := 14) rfl) (byt_of hW_witnessRefusal_b1 (j := 15) rfl) (byt_of hW_witnessRefusal_b1 (j := 16) rfl) rfl
theorem dW_witnessRefusal_49 : decode (mcc mW_witnessRefusal) 49 = .ok (.bipush (-2), 2) := o16 (a := 254) (byt_of hW_witnessRefusal_b1 (j := 17) rfl) (byt_of hW_witnessRefusal_b1 (j := 18) rfl) rfl
theorem dW_witnessRefusal_51 : decode (mcc mW_witnessRefusal) 51 = .ok (.ireturn, 1) := o172 (byt_of hW_witnessRefusal_b1 (j := 19) rfl)
def bW_firstHeardByOthers_b0 : List Nat := [3, 61, 28, 42, 180, 0, 33, 180, 0, 125, 162, 0, 32, 42, 180, 0, 56, 180, 0, 211, 28, 46, 42, 180, 0, 70, 27, 28, 182, 1, 108, 159, 0, 5, 28, 172, 132, 2]
theorem hW_firstHeardByOthers_b0 : BL (mcc mW_firstHeardByOthers) 0 bW_firstHeardByOthers_b0 := by decide +kernel
theorem dW_firstHeardByOthers_0 : decode (mcc mW_firstHeardByOthers) 0 = .ok (.iconst 0, 1) := o3 (byt_of hW_firstHeardByOthers_b0 (j := 0) rfl)
theorem dW_firstHeardByOthers_1 : decode (mcc mW_firstHeardByOthers) 1 = .ok (.istore_n 2, 1) := o61 (byt_of hW_firstHeardByOthers_b0 (j := 1) rfl)
theorem dW_firstHeardByOthers_2 : decode (mcc mW_firstHeardByOthers) 2 = .ok (.iload_n 2, 1) := o28 (byt_of hW_firstHeardByOthers_b0 (j := 2) rfl)
theorem dW_firstHeardByOthers_3 : decode (mcc mW_firstHeardByOthers) 3 = .ok (.aload_n 0, 1) := o42 (byt_of hW_firstHeardByOthers_b0 (j := 3) rfl)
theorem dW_firstHeardByOthers_4 : decode (mcc mW_firstHeardByOthers) 4 = .ok (.getfield 33, 3) := o180 (a := 0) (b := 33) (byt_of hW_firstHeardByOthers_b0 (j := 4) rfl) (byt_of hW_firstHeardByOthers_b0 (j := 5) rfl) (byt_of hW_firstHeardByOthers_b0 (j := 6) rfl) rfl
theorem dW_firstHeardByOthers_7 : decode (mcc mW_firstHeardByOthers) 7 = .ok (.getfield 125, 3) := o180 (a := 0) (b := 125) (byt_of hW_firstHeardByOthers_b0 (j := 7) rfl) (byt_of hW_firstHeardByOthers_b0 (j := 8) rfl) (byt_of hW_firstHeardByOthers_b0 (j := 9) rfl) rfl
theorem dW_firstHeardByOthers_10 : decode (mcc mW_firstHeardByOthers) 10 = .ok (.if_icmp .ge 32, 3) := o162 (a := 0) (b := 32) (byt_of hW_firstHeardByOthers_b0 (j := 10) rfl) (byt_of hW_firstHeardByOthers_b0 (j := 11) rfl) (byt_of hW_firstHeardByOthers_b0 (j := 12) rfl) rfl
theorem dW_firstHeardByOthers_13 : decode (mcc mW_firstHeardByOthers) 13 = .ok (.aload_n 0, 1) := o42 (byt_of hW_firstHeardByOthers_b0 (j := 13) rfl)
theorem dW_firstHeardByOthers_14 : decode (mcc mW_firstHeardByOthers) 14 = .ok (.getfield 56, 3) := o180 (a := 0) (b := 56) (byt_of hW_firstHeardByOthers_b0 (j := 14) rfl) (byt_of hW_firstHeardByOthers_b0 (j := 15) rfl) (byt_of hW_firstHeardByOthers_b0 (j := 16) rfl) rfl
theorem dW_firstHeardByOthers_17 : decode (mcc mW_firstHeardByOthers) 17 = .ok (.getfield 211, 3) := o180 (a := 0) (b := 211) (byt_of hW_firstHeardByOthers_b0 (j := 17) rfl) (byt_of hW_firstHeardByOthers_b0 (j := 18) rfl) (byt_of hW_firstHeardByOthers_b0 (j := 19) rfl) rfl
theorem dW_firstHeardByOthers_20 : decode (mcc mW_firstHeardByOthers) 20 = .ok (.iload_n 2, 1) := o28 (byt_of hW_firstHeardByOthers_b0 (j := 20) rfl)
theorem dW_firstHeardByOthers_21 : decode (mcc mW_firstHeardByOthers) 21 = .ok (.iaload, 1) := o46 (byt_of hW_firstHeardByOthers_b0 (j := 21) rfl)
theorem dW_firstHeardByOthers_22 : decode (mcc mW_firstHeardByOthers) 22 = .ok (.aload_n 0, 1) := o42 (byt_of hW_firstHeardByOthers_b0 (j := 22) rfl)
theorem dW_firstHeardByOthers_23 : decode (mcc mW_firstHeardByOthers) 23 = .ok (.getfield 70, 3) := o180 (a := 0) (b := 70) (byt_of hW_firstHeardByOthers_b0 (j := 23) rfl) (byt_of hW_firstHeardByOthers_b0 (j := 24) rfl) (byt_of hW_firstHeardByOthers_b0 (j := 25) rfl) rfl
theorem dW_firstHeardByOthers_26 : decode (mcc mW_firstHeardByOthers) 26 = .ok (.iload_n 1, 1) := o27 (byt_of hW_firstHeardByOthers_b0 (j := 26) rfl)
theorem dW_firstHeardByOthers_27 : decode (mcc mW_firstHeardByOthers) 27 = .ok (.iload_n 2, 1) := o28 (byt_of hW_firstHeardByOthers_b0 (j := 27) rfl)
theorem dW_firstHeardByOthers_28 : decode (mcc mW_firstHeardByOthers) 28 = .ok (.invokevirtual 364, 3) := o182 (a := 1) (b := 108) (byt_of hW_firstHeardByOthers_b0 (j := 28) rfl) (byt_of hW_firstHeardByOthers_b0 (j := 29) rfl) (byt_of hW_firstHeardByOthers_b0 (j := 30) rfl) rfl
theorem dW_firstHeardByOthers_31 : decode (mcc mW_firstHeardByOthers) 31 = .ok (.if_icmp .eq 5, 3) := o159 (a := 0) (b := 5) (byt_of hW_firstHeardByOthers_b0 (j := 31) rfl) (byt_of hW_firstHeardByOthers_b0 (j := 32) rfl) (byt_of hW_firstHeardByOthers_b0 (j := 33) rfl) rfl
def bW_firstHeardByOthers_b1 : List Nat := [0, 5, 28, 172, 132, 2, 1, 167, 255, 219, 2, 172]
theorem hW_firstHeardByOthers_b1 : BL (mcc mW_firstHeardByOthers) 32 bW_firstHeardByOthers_b1 := by decide +kernel
theorem dW_firstHeardByOthers_34 : decode (mcc mW_firstHeardByOthers) 34 = .ok (.iload_n 2, 1) := o28 (byt_of hW_firstHeardByOthers_b1 (j := 2) rfl)
theorem dW_firstHeardByOthers_35 : decode (mcc mW_firstHeardByOthers) 35 = .ok (.ireturn, 1) := o172 (byt_of hW_firstHeardByOthers_b1 (j := 3) rfl)
theorem dW_firstHeardByOthers_36 : decode (mcc mW_firstHeardByOthers) 36 = .ok (.iinc 2 1, 3) := o132 (a := 2) (b := 1) (byt_of hW_firstHeardByOthers_b1 (j := 4) rfl) (byt_of hW_firstHeardByOthers_b1 (j := 5) rfl) (byt_of hW_firstHeardByOthers_b1 (j := 6) rfl) rfl
theorem dW_firstHeardByOthers_39 : decode (mcc mW_firstHeardByOthers) 39 = .ok (.goto (-37), 3) := o167 (a := 255) (b := 219) (byt_of hW_firstHeardByOthers_b1 (j := 7) rfl) (byt_of hW_firstHeardByOthers_b1 (j := 8) rfl) (byt_of hW_firstHeardByOthers_b1 (j := 9) rfl) rfl
theorem dW_firstHeardByOthers_42 : decode (mcc mW_firstHeardByOthers) 42 = .ok (.iconst (-1), 1) := o2 (byt_of hW_firstHeardByOthers_b1 (j := 10) rfl)
theorem dW_firstHeardByOthers_43 : decode (mcc mW_firstHeardByOthers) 43 = .ok (.ireturn, 1) := o172 (byt_of hW_firstHeardByOthers_b1 (j := 11) rfl)
def bInteger_bitCount_b0 : List Nat := [26, 26, 4, 124, 19, 1, 9, 126, 100, 59, 26, 19, 1, 10, 126, 26, 5, 124, 19, 1, 10, 126, 96, 59, 26, 26, 7, 124, 96, 19, 1, 11, 126, 59, 26, 26, 16, 8]
theorem hInteger_bitCount_b0 : BL (mcc mInteger_bitCount) 0 bInteger_bitCount_b0 := by decide +kernel
theorem dInteger_bitCount_0 : decode (mcc mInteger_bitCount) 0 = .ok (.iload_n 0, 1) := o26 (byt_of hInteger_bitCount_b0 (j := 0) rfl)
theorem dInteger_bitCount_1 : decode (mcc mInteger_bitCount) 1 = .ok (.iload_n 0, 1) := o26 (byt_of hInteger_bitCount_b0 (j := 1) rfl)
theorem dInteger_bitCount_2 : decode (mcc mInteger_bitCount) 2 = .ok (.iconst 1, 1) := o4 (byt_of hInteger_bitCount_b0 (j := 2) rfl)
theorem dInteger_bitCount_3 : decode (mcc mInteger_bitCount) 3 = .ok (.iushr, 1) := o124 (byt_of hInteger_bitCount_b0 (j := 3) rfl)
theorem dInteger_bitCount_4 : decode (mcc mInteger_bitCount) 4 = .ok (.ldc_w 265, 3) := o19 (a := 1) (b := 9) (byt_of hInteger_bitCount_b0 (j := 4) rfl) (byt_of hInteger_bitCount_b0 (j := 5) rfl) (byt_of hInteger_bitCount_b0 (j := 6) rfl) rfl
theorem dInteger_bitCount_7 : decode (mcc mInteger_bitCount) 7 = .ok (.iand, 1) := o126 (byt_of hInteger_bitCount_b0 (j := 7) rfl)
theorem dInteger_bitCount_8 : decode (mcc mInteger_bitCount) 8 = .ok (.isub, 1) := o100 (byt_of hInteger_bitCount_b0 (j := 8) rfl)
theorem dInteger_bitCount_9 : decode (mcc mInteger_bitCount) 9 = .ok (.istore_n 0, 1) := o59 (byt_of hInteger_bitCount_b0 (j := 9) rfl)
theorem dInteger_bitCount_10 : decode (mcc mInteger_bitCount) 10 = .ok (.iload_n 0, 1) := o26 (byt_of hInteger_bitCount_b0 (j := 10) rfl)
theorem dInteger_bitCount_11 : decode (mcc mInteger_bitCount) 11 = .ok (.ldc_w 266, 3) := o19 (a := 1) (b := 10) (byt_of hInteger_bitCount_b0 (j := 11) rfl) (byt_of hInteger_bitCount_b0 (j := 12) rfl) (byt_of hInteger_bitCount_b0 (j := 13) rfl) rfl
theorem dInteger_bitCount_14 : decode (mcc mInteger_bitCount) 14 = .ok (.iand, 1) := o126 (byt_of hInteger_bitCount_b0 (j := 14) rfl)
theorem dInteger_bitCount_15 : decode (mcc mInteger_bitCount) 15 = .ok (.iload_n 0, 1) := o26 (byt_of hInteger_bitCount_b0 (j := 15) rfl)
theorem dInteger_bitCount_16 : decode (mcc mInteger_bitCount) 16 = .ok (.iconst 2, 1) := o5 (byt_of hInteger_bitCount_b0 (j := 16) rfl)
theorem dInteger_bitCount_17 : decode (mcc mInteger_bitCount) 17 = .ok (.iushr, 1) := o124 (byt_of hInteger_bitCount_b0 (j := 17) rfl)
theorem dInteger_bitCount_18 : decode (mcc mInteger_bitCount) 18 = .ok (.ldc_w 266, 3) := o19 (a := 1) (b := 10) (byt_of hInteger_bitCount_b0 (j := 18) rfl) (byt_of hInteger_bitCount_b0 (j := 19) rfl) (byt_of hInteger_bitCount_b0 (j := 20) rfl) rfl
theorem dInteger_bitCount_21 : decode (mcc mInteger_bitCount) 21 = .ok (.iand, 1) := o126 (byt_of hInteger_bitCount_b0 (j := 21) rfl)
theorem dInteger_bitCount_22 : decode (mcc mInteger_bitCount) 22 = .ok (.iadd, 1) := o96 (byt_of hInteger_bitCount_b0 (j := 22) rfl)
theorem dInteger_bitCount_23 : decode (mcc mInteger_bitCount) 23 = .ok (.istore_n 0, 1) := o59 (byt_of hInteger_bitCount_b0 (j := 23) rfl)
theorem dInteger_bitCount_24 : decode (mcc mInteger_bitCount) 24 = .ok (.iload_n 0, 1) := o26 (byt_of hInteger_bitCount_b0 (j := 24) rfl)
theorem dInteger_bitCount_25 : decode (mcc mInteger_bitCount) 25 = .ok (.iload_n 0, 1) := o26 (byt_of hInteger_bitCount_b0 (j := 25) rfl)
theorem dInteger_bitCount_26 : decode (mcc mInteger_bitCount) 26 = .ok (.iconst 4, 1) := o7 (byt_of hInteger_bitCount_b0 (j := 26) rfl)
theorem dInteger_bitCount_27 : decode (mcc mInteger_bitCount) 27 = .ok (.iushr, 1) := o124 (byt_of hInteger_bitCount_b0 (j := 27) rfl)
theorem dInteger_bitCount_28 : decode (mcc mInteger_bitCount) 28 = .ok (.iadd, 1) := o96 (byt_of hInteger_bitCount_b0 (j := 28) rfl)
theorem dInteger_bitCount_29 : decode (mcc mInteger_bitCount) 29 = .ok (.ldc_w 267, 3) := o19 (a := 1) (b := 11) (byt_of hInteger_bitCount_b0 (j := 29) rfl) (byt_of hInteger_bitCount_b0 (j := 30) rfl) (byt_of hInteger_bitCount_b0 (j := 31) rfl) rfl
def bInteger_bitCount_b1 : List Nat := [126, 59, 26, 26, 16, 8, 124, 96, 59, 26, 26, 16, 16, 124, 96, 59, 26, 16, 63, 126, 172]
theorem hInteger_bitCount_b1 : BL (mcc mInteger_bitCount) 32 bInteger_bitCount_b1 := by decide +kernel
theorem dInteger_bitCount_32 : decode (mcc mInteger_bitCount) 32 = .ok (.iand, 1) := o126 (byt_of hInteger_bitCount_b1 (j := 0) rfl)
theorem dInteger_bitCount_33 : decode (mcc mInteger_bitCount) 33 = .ok (.istore_n 0, 1) := o59 (byt_of hInteger_bitCount_b1 (j := 1) rfl)
theorem dInteger_bitCount_34 : decode (mcc mInteger_bitCount) 34 = .ok (.iload_n 0, 1) := o26 (byt_of hInteger_bitCount_b1 (j := 2) rfl)
theorem dInteger_bitCount_35 : decode (mcc mInteger_bitCount) 35 = .ok (.iload_n 0, 1) := o26 (byt_of hInteger_bitCount_b1 (j := 3) rfl)
theorem dInteger_bitCount_36 : decode (mcc mInteger_bitCount) 36 = .ok (.bipush 8, 2) := o16 (a := 8) (byt_of hInteger_bitCount_b1 (j := 4) rfl) (byt_of hInteger_bitCount_b1 (j := 5) rfl) rfl
theorem dInteger_bitCount_38 : decode (mcc mInteger_bitCount) 38 = .ok (.iushr, 1) := o124 (byt_of hInteger_bitCount_b1 (j := 6) rfl)
theorem dInteger_bitCount_39 : decode (mcc mInteger_bitCount) 39 = .ok (.iadd, 1) := o96 (byt_of hInteger_bitCount_b1 (j := 7) rfl)
theorem dInteger_bitCount_40 : decode (mcc mInteger_bitCount) 40 = .ok (.istore_n 0, 1) := o59 (byt_of hInteger_bitCount_b1 (j := 8) rfl)
theorem dInteger_bitCount_41 : decode (mcc mInteger_bitCount) 41 = .ok (.iload_n 0, 1) := o26 (byt_of hInteger_bitCount_b1 (j := 9) rfl)
theorem dInteger_bitCount_42 : decode (mcc mInteger_bitCount) 42 = .ok (.iload_n 0, 1) := o26 (byt_of hInteger_bitCount_b1 (j := 10) rfl)
theorem dInteger_bitCount_43 : decode (mcc mInteger_bitCount) 43 = .ok (.bipush 16, 2) := o16 (a := 16) (byt_of hInteger_bitCount_b1 (j := 11) rfl) (byt_of hInteger_bitCount_b1 (j := 12) rfl) rfl
theorem dInteger_bitCount_45 : decode (mcc mInteger_bitCount) 45 = .ok (.iushr, 1) := o124 (byt_of hInteger_bitCount_b1 (j := 13) rfl)
theorem dInteger_bitCount_46 : decode (mcc mInteger_bitCount) 46 = .ok (.iadd, 1) := o96 (byt_of hInteger_bitCount_b1 (j := 14) rfl)
theorem dInteger_bitCount_47 : decode (mcc mInteger_bitCount) 47 = .ok (.istore_n 0, 1) := o59 (byt_of hInteger_bitCount_b1 (j := 15) rfl)
theorem dInteger_bitCount_48 : decode (mcc mInteger_bitCount) 48 = .ok (.iload_n 0, 1) := o26 (byt_of hInteger_bitCount_b1 (j := 16) rfl)
theorem dInteger_bitCount_49 : decode (mcc mInteger_bitCount) 49 = .ok (.bipush 63, 2) := o16 (a := 63) (byt_of hInteger_bitCount_b1 (j := 17) rfl) (byt_of hInteger_bitCount_b1 (j := 18) rfl) rfl
theorem dInteger_bitCount_51 : decode (mcc mInteger_bitCount) 51 = .ok (.iand, 1) := o126 (byt_of hInteger_bitCount_b1 (j := 19) rfl)
theorem dInteger_bitCount_52 : decode (mcc mInteger_bitCount) 52 = .ok (.ireturn, 1) := o172 (byt_of hInteger_bitCount_b1 (j := 20) rfl)
def bMath_abs_b0 : List Nat := [26, 156, 0, 8, 26, 116, 167, 0, 4, 26, 172]
theorem hMath_abs_b0 : BL (mcc mMath_abs) 0 bMath_abs_b0 := by decide +kernel
theorem dMath_abs_0 : decode (mcc mMath_abs) 0 = .ok (.iload_n 0, 1) := o26 (byt_of hMath_abs_b0 (j := 0) rfl)
theorem dMath_abs_1 : decode (mcc mMath_abs) 1 = .ok (.ifCond .ge 8, 3) := o156 (a := 0) (b := 8) (byt_of hMath_abs_b0 (j := 1) rfl) (byt_of hMath_abs_b0 (j := 2) rfl) (byt_of hMath_abs_b0 (j := 3) rfl) rfl
theorem dMath_abs_4 : decode (mcc mMath_abs) 4 = .ok (.iload_n 0, 1) := o26 (byt_of hMath_abs_b0 (j := 4) rfl)
theorem dMath_abs_5 : decode (mcc mMath_abs) 5 = .ok (.ineg, 1) := o116 (byt_of hMath_abs_b0 (j := 5) rfl)
theorem dMath_abs_6 : decode (mcc mMath_abs) 6 = .ok (.goto 4, 3) := o167 (a := 0) (b := 4) (byt_of hMath_abs_b0 (j := 6) rfl) (byt_of hMath_abs_b0 (j := 7) rfl) (byt_of hMath_abs_b0 (j := 8) rfl) rfl
theorem dMath_abs_9 : decode (mcc mMath_abs) 9 = .ok (.iload_n 0, 1) := o26 (byt_of hMath_abs_b0 (j := 9) rfl)
theorem dMath_abs_10 : decode (mcc mMath_abs) 10 = .ok (.ireturn, 1) := o172 (byt_of hMath_abs_b0 (j := 10) rfl)
def bMath_max_b0 : List Nat := [26, 27, 161, 0, 7, 26, 167, 0, 4, 27, 172]
theorem hMath_max_b0 : BL (mcc mMath_max) 0 bMath_max_b0 := by decide +kernel
theorem dMath_max_0 : decode (mcc mMath_max) 0 = .ok (.iload_n 0, 1) := o26 (byt_of hMath_max_b0 (j := 0) rfl)
theorem dMath_max_1 : decode (mcc mMath_max) 1 = .ok (.iload_n 1, 1) := o27 (byt_of hMath_max_b0 (j := 1) rfl)
theorem dMath_max_2 : decode (mcc mMath_max) 2 = .ok (.if_icmp .lt 7, 3) := o161 (a := 0) (b := 7) (byt_of hMath_max_b0 (j := 2) rfl) (byt_of hMath_max_b0 (j := 3) rfl) (byt_of hMath_max_b0 (j := 4) rfl) rfl
theorem dMath_max_5 : decode (mcc mMath_max) 5 = .ok (.iload_n 0, 1) := o26 (byt_of hMath_max_b0 (j := 5) rfl)
theorem dMath_max_6 : decode (mcc mMath_max) 6 = .ok (.goto 4, 3) := o167 (a := 0) (b := 4) (byt_of hMath_max_b0 (j := 6) rfl) (byt_of hMath_max_b0 (j := 7) rfl) (byt_of hMath_max_b0 (j := 8) rfl) rfl
theorem dMath_max_9 : decode (mcc mMath_max) 9 = .ok (.iload_n 1, 1) := o27 (byt_of hMath_max_b0 (j := 9) rfl)
theorem dMath_max_10 : decode (mcc mMath_max) 10 = .ok (.ireturn, 1) := o172 (byt_of hMath_max_b0 (j := 10) rfl)
def bMath_min_b0 : List Nat := [26, 27, 163, 0, 7, 26, 167, 0, 4, 27, 172]
theorem hMath_min_b0 : BL (mcc mMath_min) 0 bMath_min_b0 := by decide +kernel
theorem dMath_min_0 : decode (mcc mMath_min) 0 = .ok (.iload_n 0, 1) := o26 (byt_of hMath_min_b0 (j := 0) rfl)
theorem dMath_min_1 : decode (mcc mMath_min) 1 = .ok (.iload_n 1, 1) := o27 (byt_of hMath_min_b0 (j := 1) rfl)
theorem dMath_min_2 : decode (mcc mMath_min) 2 = .ok (.if_icmp .gt 7, 3) := o163 (a := 0) (b := 7) (byt_of hMath_min_b0 (j := 2) rfl) (byt_of hMath_min_b0 (j := 3) rfl) (byt_of hMath_min_b0 (j := 4) rfl) rfl
theorem dMath_min_5 : decode (mcc mMath_min) 5 = .ok (.iload_n 0, 1) := o26 (byt_of hMath_min_b0 (j := 5) rfl)
theorem dMath_min_6 : decode (mcc mMath_min) 6 = .ok (.goto 4, 3) := o167 (a := 0) (b := 4) (byt_of hMath_min_b0 (j := 6) rfl) (byt_of hMath_min_b0 (j := 7) rfl) (byt_of hMath_min_b0 (j := 8) rfl) rfl
theorem dMath_min_9 : decode (mcc mMath_min) 9 = .ok (.iload_n 1, 1) := o27 (byt_of hMath_min_b0 (j := 9) rfl)
theorem dMath_min_10 : decode (mcc mMath_min) 10 = .ok (.ireturn, 1) := o172 (byt_of hMath_min_b0 (j := 10) rfl)
def bString_length_b0 : List Nat := [42, 180, 0, 9, 190, 42, 182, 1, 79, 122, 172]
theorem hString_length_b0 : BL (mcc mString_length) 0 bString_length_b0 := by decide +kernel
theorem dString_length_0 : decode (mcc mString_length) 0 = .ok (.aload_n 0, 1) := o42 (byt_of hString_length_b0 (j := 0) rfl)
theorem dString_length_1 : decode (mcc mString_length) 1 = .ok (.getfield 9, 3) := o180 (a := 0) (b := 9) (byt_of hString_length_b0 (j := 1) rfl) (byt_of hString_length_b0 (j := 2) rfl) (byt_of hString_length_b0 (j := 3) rfl) rfl
theorem dString_length_4 : decode (mcc mString_length) 4 = .ok (.arraylength, 1) := o190 (byt_of hString_length_b0 (j := 4) rfl)
theorem dString_length_5 : decode (mcc mString_length) 5 = .ok (.aload_n 0, 1) := o42 (byt_of hString_length_b0 (j := 5) rfl)
theorem dString_length_6 : decode (mcc mString_length) 6 = .ok (.invokevirtual 335, 3) := o182 (a := 1) (b := 79) (byt_of hString_length_b0 (j := 6) rfl) (byt_of hString_length_b0 (j := 7) rfl) (byt_of hString_length_b0 (j := 8) rfl) rfl
theorem dString_length_9 : decode (mcc mString_length) 9 = .ok (.ishr, 1) := o122 (byt_of hString_length_b0 (j := 9) rfl)
theorem dString_length_10 : decode (mcc mString_length) 10 = .ok (.ireturn, 1) := o172 (byt_of hString_length_b0 (j := 10) rfl)
def bString_charAt_b0 : List Nat := [42, 182, 1, 236, 153, 0, 12, 42, 180, 0, 9, 27, 184, 1, 239, 172, 42, 180, 0, 9, 27, 184, 1, 242, 172]
theorem hString_charAt_b0 : BL (mcc mString_charAt) 0 bString_charAt_b0 := by decide +kernel
theorem dString_charAt_0 : decode (mcc mString_charAt) 0 = .ok (.aload_n 0, 1) := o42 (byt_of hString_charAt_b0 (j := 0) rfl)
theorem dString_charAt_1 : decode (mcc mString_charAt) 1 = .ok (.invokevirtual 492, 3) := o182 (a := 1) (b := 236) (byt_of hString_charAt_b0 (j := 1) rfl) (byt_of hString_charAt_b0 (j := 2) rfl) (byt_of hString_charAt_b0 (j := 3) rfl) rfl
theorem dString_charAt_4 : decode (mcc mString_charAt) 4 = .ok (.ifCond .eq 12, 3) := o153 (a := 0) (b := 12) (byt_of hString_charAt_b0 (j := 4) rfl) (byt_of hString_charAt_b0 (j := 5) rfl) (byt_of hString_charAt_b0 (j := 6) rfl) rfl
theorem dString_charAt_7 : decode (mcc mString_charAt) 7 = .ok (.aload_n 0, 1) := o42 (byt_of hString_charAt_b0 (j := 7) rfl)
theorem dString_charAt_8 : decode (mcc mString_charAt) 8 = .ok (.getfield 9, 3) := o180 (a := 0) (b := 9) (byt_of hString_charAt_b0 (j := 8) rfl) (byt_of hString_charAt_b0 (j := 9) rfl) (byt_of hString_charAt_b0 (j := 10) rfl) rfl
theorem dString_charAt_11 : decode (mcc mString_charAt) 11 = .ok (.iload_n 1, 1) := o27 (byt_of hString_charAt_b0 (j := 11) rfl)
theorem dString_charAt_12 : decode (mcc mString_charAt) 12 = .ok (.invokestatic 495, 3) := o184 (a := 1) (b := 239) (byt_of hString_charAt_b0 (j := 12) rfl) (byt_of hString_charAt_b0 (j := 13) rfl) (byt_of hString_charAt_b0 (j := 14) rfl) rfl
theorem dString_charAt_15 : decode (mcc mString_charAt) 15 = .ok (.ireturn, 1) := o172 (byt_of hString_charAt_b0 (j := 15) rfl)
theorem dString_charAt_16 : decode (mcc mString_charAt) 16 = .ok (.aload_n 0, 1) := o42 (byt_of hString_charAt_b0 (j := 16) rfl)
theorem dString_charAt_17 : decode (mcc mString_charAt) 17 = .ok (.getfield 9, 3) := o180 (a := 0) (b := 9) (byt_of hString_charAt_b0 (j := 17) rfl) (byt_of hString_charAt_b0 (j := 18) rfl) (byt_of hString_charAt_b0 (j := 19) rfl) rfl
theorem dString_charAt_20 : decode (mcc mString_charAt) 20 = .ok (.iload_n 1, 1) := o27 (byt_of hString_charAt_b0 (j := 20) rfl)
theorem dString_charAt_21 : decode (mcc mString_charAt) 21 = .ok (.invokestatic 498, 3) := o184 (a := 1) (b := 242) (byt_of hString_charAt_b0 (j := 21) rfl) (byt_of hString_charAt_b0 (j := 22) rfl) (byt_of hString_charAt_b0 (j := 23) rfl) rfl
theorem dString_charAt_24 : decode (mcc mString_charAt) 24 = .ok (.ireturn, 1) := o172 (byt_of hString_charAt_b0 (j := 24) rfl)
def bString_coder_b0 : List Nat := [178, 0, 38, 153, 0, 10, 42, 180, 0, 15, 167, 0, 4, 4, 172]
theorem hString_coder_b0 : BL (mcc mString_coder) 0 bString_coder_b0 := by decide +kernel
theorem dString_coder_0 : decode (mcc mString_coder) 0 = .ok (.getstatic 38, 3) := o178 (a := 0) (b := 38) (byt_of hString_coder_b0 (j := 0) rfl) (byt_of hString_coder_b0 (j := 1) rfl) (byt_of hString_coder_b0 (j := 2) rfl) rfl
theorem dString_coder_3 : decode (mcc mString_coder) 3 = .ok (.ifCond .eq 10, 3) := o153 (a := 0) (b := 10) (byt_of hString_coder_b0 (j := 3) rfl) (byt_of hString_coder_b0 (j := 4) rfl) (byt_of hString_coder_b0 (j := 5) rfl) rfl
theorem dString_coder_6 : decode (mcc mString_coder) 6 = .ok (.aload_n 0, 1) := o42 (byt_of hString_coder_b0 (j := 6) rfl)
theorem dString_coder_7 : decode (mcc mString_coder) 7 = .ok (.getfield 15, 3) := o180 (a := 0) (b := 15) (byt_of hString_coder_b0 (j := 7) rfl) (byt_of hString_coder_b0 (j := 8) rfl) (byt_of hString_coder_b0 (j := 9) rfl) rfl
theorem dString_coder_10 : decode (mcc mString_coder) 10 = .ok (.goto 4, 3) := o167 (a := 0) (b := 4) (byt_of hString_coder_b0 (j := 10) rfl) (byt_of hString_coder_b0 (j := 11) rfl) (byt_of hString_coder_b0 (j := 12) rfl) rfl
theorem dString_coder_13 : decode (mcc mString_coder) 13 = .ok (.iconst 1, 1) := o4 (byt_of hString_coder_b0 (j := 13) rfl)
theorem dString_coder_14 : decode (mcc mString_coder) 14 = .ok (.ireturn, 1) := o172 (byt_of hString_coder_b0 (j := 14) rfl)
def bString_isLatin1_b0 : List Nat := [178, 0, 38, 153, 0, 14, 42, 180, 0, 15, 154, 0, 7, 4, 167, 0, 4, 3, 172]
theorem hString_isLatin1_b0 : BL (mcc mString_isLatin1) 0 bString_isLatin1_b0 := by decide +kernel
theorem dString_isLatin1_0 : decode (mcc mString_isLatin1) 0 = .ok (.getstatic 38, 3) := o178 (a := 0) (b := 38) (byt_of hString_isLatin1_b0 (j := 0) rfl) (byt_of hString_isLatin1_b0 (j := 1) rfl) (byt_of hString_isLatin1_b0 (j := 2) rfl) rfl
theorem dString_isLatin1_3 : decode (mcc mString_isLatin1) 3 = .ok (.ifCond .eq 14, 3) := o153 (a := 0) (b := 14) (byt_of hString_isLatin1_b0 (j := 3) rfl) (byt_of hString_isLatin1_b0 (j := 4) rfl) (byt_of hString_isLatin1_b0 (j := 5) rfl) rfl
theorem dString_isLatin1_6 : decode (mcc mString_isLatin1) 6 = .ok (.aload_n 0, 1) := o42 (byt_of hString_isLatin1_b0 (j := 6) rfl)
theorem dString_isLatin1_7 : decode (mcc mString_isLatin1) 7 = .ok (.getfield 15, 3) := o180 (a := 0) (b := 15) (byt_of hString_isLatin1_b0 (j := 7) rfl) (byt_of hString_isLatin1_b0 (j := 8) rfl) (byt_of hString_isLatin1_b0 (j := 9) rfl) rfl
theorem dString_isLatin1_10 : decode (mcc mString_isLatin1) 10 = .ok (.ifCond .ne 7, 3) := o154 (a := 0) (b := 7) (byt_of hString_isLatin1_b0 (j := 10) rfl) (byt_of hString_isLatin1_b0 (j := 11) rfl) (byt_of hString_isLatin1_b0 (j := 12) rfl) rfl
theorem dString_isLatin1_13 : decode (mcc mString_isLatin1) 13 = .ok (.iconst 1, 1) := o4 (byt_of hString_isLatin1_b0 (j := 13) rfl)
theorem dString_isLatin1_14 : decode (mcc mString_isLatin1) 14 = .ok (.goto 4, 3) := o167 (a := 0) (b := 4) (byt_of hString_isLatin1_b0 (j := 14) rfl) (byt_of hString_isLatin1_b0 (j := 15) rfl) (byt_of hString_isLatin1_b0 (j := 16) rfl) rfl
theorem dString_isLatin1_17 : decode (mcc mString_isLatin1) 17 = .ok (.iconst 0, 1) := o3 (byt_of hString_isLatin1_b0 (j := 17) rfl)
theorem dString_isLatin1_18 : decode (mcc mString_isLatin1) 18 = .ok (.ireturn, 1) := o172 (byt_of hString_isLatin1_b0 (j := 18) rfl)
def bString_checkIndex_b0 : List Nat := [26, 27, 178, 4, 29, 184, 4, 35, 87, 177]
theorem hString_checkIndex_b0 : BL (mcc mString_checkIndex) 0 bString_checkIndex_b0 := by decide +kernel
theorem dString_checkIndex_0 : decode (mcc mString_checkIndex) 0 = .ok (.iload_n 0, 1) := o26 (byt_of hString_checkIndex_b0 (j := 0) rfl)
theorem dString_checkIndex_1 : decode (mcc mString_checkIndex) 1 = .ok (.iload_n 1, 1) := o27 (byt_of hString_checkIndex_b0 (j := 1) rfl)
theorem dString_checkIndex_2 : decode (mcc mString_checkIndex) 2 = .ok (.getstatic 1053, 3) := o178 (a := 4) (b := 29) (byt_of hString_checkIndex_b0 (j := 2) rfl) (byt_of hString_checkIndex_b0 (j := 3) rfl) (byt_of hString_checkIndex_b0 (j := 4) rfl) rfl
theorem dString_checkIndex_5 : decode (mcc mString_checkIndex) 5 = .ok (.invokestatic 1059, 3) := o184 (a := 4) (b := 35) (byt_of hString_checkIndex_b0 (j := 5) rfl) (byt_of hString_checkIndex_b0 (j := 6) rfl) (byt_of hString_checkIndex_b0 (j := 7) rfl) rfl
theorem dString_checkIndex_8 : decode (mcc mString_checkIndex) 8 = .ok (.pop, 1) := o87 (byt_of hString_checkIndex_b0 (j := 8) rfl)
theorem dString_checkIndex_9 : decode (mcc mString_checkIndex) 9 = .ok (.return_, 1) := o177 (byt_of hString_checkIndex_b0 (j := 9) rfl)
def bStringLatin1_charAt_b0 : List Nat := [27, 42, 190, 184, 0, 9, 42, 27, 51, 17, 0, 255, 126, 146, 172]
theorem hStringLatin1_charAt_b0 : BL (mcc mStringLatin1_charAt) 0 bStringLatin1_charAt_b0 := by decide +kernel
theorem dStringLatin1_charAt_0 : decode (mcc mStringLatin1_charAt) 0 = .ok (.iload_n 1, 1) := o27 (byt_of hStringLatin1_charAt_b0 (j := 0) rfl)
theorem dStringLatin1_charAt_1 : decode (mcc mStringLatin1_charAt) 1 = .ok (.aload_n 0, 1) := o42 (byt_of hStringLatin1_charAt_b0 (j := 1) rfl)
theorem dStringLatin1_charAt_2 : decode (mcc mStringLatin1_charAt) 2 = .ok (.arraylength, 1) := o190 (byt_of hStringLatin1_charAt_b0 (j := 2) rfl)
theorem dStringLatin1_charAt_3 : decode (mcc mStringLatin1_charAt) 3 = .ok (.invokestatic 9, 3) := o184 (a := 0) (b := 9) (byt_of hStringLatin1_charAt_b0 (j := 3) rfl) (byt_of hStringLatin1_charAt_b0 (j := 4) rfl) (byt_of hStringLatin1_charAt_b0 (j := 5) rfl) rfl
theorem dStringLatin1_charAt_6 : decode (mcc mStringLatin1_charAt) 6 = .ok (.aload_n 0, 1) := o42 (byt_of hStringLatin1_charAt_b0 (j := 6) rfl)
theorem dStringLatin1_charAt_7 : decode (mcc mStringLatin1_charAt) 7 = .ok (.iload_n 1, 1) := o27 (byt_of hStringLatin1_charAt_b0 (j := 7) rfl)
theorem dStringLatin1_charAt_8 : decode (mcc mStringLatin1_charAt) 8 = .ok (.baload, 1) := o51 (byt_of hStringLatin1_charAt_b0 (j := 8) rfl)
theorem dStringLatin1_charAt_9 : decode (mcc mStringLatin1_charAt) 9 = .ok (.sipush 255, 3) := o17 (a := 0) (b := 255) (byt_of hStringLatin1_charAt_b0 (j := 9) rfl) (byt_of hStringLatin1_charAt_b0 (j := 10) rfl) (byt_of hStringLatin1_charAt_b0 (j := 11) rfl) rfl
theorem dStringLatin1_charAt_12 : decode (mcc mStringLatin1_charAt) 12 = .ok (.iand, 1) := o126 (byt_of hStringLatin1_charAt_b0 (j := 12) rfl)
theorem dStringLatin1_charAt_13 : decode (mcc mStringLatin1_charAt) 13 = .ok (.i2c, 1) := o146 (byt_of hStringLatin1_charAt_b0 (j := 13) rfl)
theorem dStringLatin1_charAt_14 : decode (mcc mStringLatin1_charAt) 14 = .ok (.ireturn, 1) := o172 (byt_of hStringLatin1_charAt_b0 (j := 14) rfl)
def bStringUTF16_getChar_b0 : List Nat := [178, 0, 44, 154, 0, 25, 27, 155, 0, 11, 27, 42, 184, 0, 48, 161, 0, 13, 187, 0, 52, 89, 18, 54, 183, 0, 56, 191, 27, 4, 120, 60, 42, 27, 132, 1, 1, 51]
theorem hStringUTF16_getChar_b0 : BL (mcc mStringUTF16_getChar) 0 bStringUTF16_getChar_b0 := by decide +kernel
theorem dStringUTF16_getChar_0 : decode (mcc mStringUTF16_getChar) 0 = .ok (.getstatic 44, 3) := o178 (a := 0) (b := 44) (byt_of hStringUTF16_getChar_b0 (j := 0) rfl) (byt_of hStringUTF16_getChar_b0 (j := 1) rfl) (byt_of hStringUTF16_getChar_b0 (j := 2) rfl) rfl
theorem dStringUTF16_getChar_3 : decode (mcc mStringUTF16_getChar) 3 = .ok (.ifCond .ne 25, 3) := o154 (a := 0) (b := 25) (byt_of hStringUTF16_getChar_b0 (j := 3) rfl) (byt_of hStringUTF16_getChar_b0 (j := 4) rfl) (byt_of hStringUTF16_getChar_b0 (j := 5) rfl) rfl
theorem dStringUTF16_getChar_6 : decode (mcc mStringUTF16_getChar) 6 = .ok (.iload_n 1, 1) := o27 (byt_of hStringUTF16_getChar_b0 (j := 6) rfl)
theorem dStringUTF16_getChar_7 : decode (mcc mStringUTF16_getChar) 7 = .ok (.ifCond .lt 11, 3) := o155 (a := 0) (b := 11) (byt_of hStringUTF16_getChar_b0 (j := 7) rfl) (byt_of hStringUTF16_getChar_b0 (j := 8) rfl) (byt_of hStringUTF16_getChar_b0 (j := 9) rfl) rfl
theorem dStringUTF16_getChar_10 : decode (mcc mStringUTF16_getChar) 10 = .ok (.iload_n 1, 1) := o27 (byt_of hStringUTF16_getChar_b0 (j := 10) rfl)
theorem dStringUTF16_getChar_11 : decode (mcc mStringUTF16_getChar) 11 = .ok (.aload_n 0, 1) := o42 (byt_of hStringUTF16_getChar_b0 (j := 11) rfl)
theorem dStringUTF16_getChar_12 : decode (mcc mStringUTF16_getChar) 12 = .ok (.invokestatic 48, 3) := o184 (a := 0) (b := 48) (byt_of hStringUTF16_getChar_b0 (j := 12) rfl) (byt_of hStringUTF16_getChar_b0 (j := 13) rfl) (byt_of hStringUTF16_getChar_b0 (j := 14) rfl) rfl
theorem dStringUTF16_getChar_15 : decode (mcc mStringUTF16_getChar) 15 = .ok (.if_icmp .lt 13, 3) := o161 (a := 0) (b := 13) (byt_of hStringUTF16_getChar_b0 (j := 15) rfl) (byt_of hStringUTF16_getChar_b0 (j := 16) rfl) (byt_of hStringUTF16_getChar_b0 (j := 17) rfl) rfl
theorem dStringUTF16_getChar_18 : decode (mcc mStringUTF16_getChar) 18 = .ok (.new 52, 3) := o187 (a := 0) (b := 52) (byt_of hStringUTF16_getChar_b0 (j := 18) rfl) (byt_of hStringUTF16_getChar_b0 (j := 19) rfl) (byt_of hStringUTF16_getChar_b0 (j := 20) rfl) rfl
theorem dStringUTF16_getChar_21 : decode (mcc mStringUTF16_getChar) 21 = .ok (.dup, 1) := o89 (byt_of hStringUTF16_getChar_b0 (j := 21) rfl)
theorem dStringUTF16_getChar_22 : decode (mcc mStringUTF16_getChar) 22 = .ok (.ldc 54, 2) := o18 (a := 54) (byt_of hStringUTF16_getChar_b0 (j := 22) rfl) (byt_of hStringUTF16_getChar_b0 (j := 23) rfl)
theorem dStringUTF16_getChar_24 : decode (mcc mStringUTF16_getChar) 24 = .ok (.invokespecial 56, 3) := o183 (a := 0) (b := 56) (byt_of hStringUTF16_getChar_b0 (j := 24) rfl) (byt_of hStringUTF16_getChar_b0 (j := 25) rfl) (byt_of hStringUTF16_getChar_b0 (j := 26) rfl) rfl
theorem dStringUTF16_getChar_27 : decode (mcc mStringUTF16_getChar) 27 = .ok (.athrow, 1) := o191 (byt_of hStringUTF16_getChar_b0 (j := 27) rfl)
theorem dStringUTF16_getChar_28 : decode (mcc mStringUTF16_getChar) 28 = .ok (.iload_n 1, 1) := o27 (byt_of hStringUTF16_getChar_b0 (j := 28) rfl)
theorem dStringUTF16_getChar_29 : decode (mcc mStringUTF16_getChar) 29 = .ok (.iconst 1, 1) := o4 (byt_of hStringUTF16_getChar_b0 (j := 29) rfl)
theorem dStringUTF16_getChar_30 : decode (mcc mStringUTF16_getChar) 30 = .ok (.ishl, 1) := o120 (byt_of hStringUTF16_getChar_b0 (j := 30) rfl)
theorem dStringUTF16_getChar_31 : decode (mcc mStringUTF16_getChar) 31 = .ok (.istore_n 1, 1) := o60 (byt_of hStringUTF16_getChar_b0 (j := 31) rfl)
def bStringUTF16_getChar_b1 : List Nat := [42, 27, 132, 1, 1, 51, 17, 0, 255, 126, 178, 0, 59, 120, 42, 27, 51, 17, 0, 255, 126, 178, 0, 63, 120, 128, 146, 172]
theorem hStringUTF16_getChar_b1 : BL (mcc mStringUTF16_getChar) 32 bStringUTF16_getChar_b1 := by decide +kernel
theorem dStringUTF16_getChar_32 : decode (mcc mStringUTF16_getChar) 32 = .ok (.aload_n 0, 1) := o42 (byt_of hStringUTF16_getChar_b1 (j := 0) rfl)
theorem dStringUTF16_getChar_33 : decode (mcc mStringUTF16_getChar) 33 = .ok (.iload_n 1, 1) := o27 (byt_of hStringUTF16_getChar_b1 (j := 1) rfl)
theorem dStringUTF16_getChar_34 : decode (mcc mStringUTF16_getChar) 34 = .ok (.iinc 1 1, 3) := o132 (a := 1) (b := 1) (byt_of hStringUTF16_getChar_b1 (j := 2) rfl) (byt_of hStringUTF16_getChar_b1 (j := 3) rfl) (byt_of hStringUTF16_getChar_b1 (j := 4) rfl) rfl
theorem dStringUTF16_getChar_37 : decode (mcc mStringUTF16_getChar) 37 = .ok (.baload, 1) := o51 (byt_of hStringUTF16_getChar_b1 (j := 5) rfl)
theorem dStringUTF16_getChar_38 : decode (mcc mStringUTF16_getChar) 38 = .ok (.sipush 255, 3) := o17 (a := 0) (b := 255) (byt_of hStringUTF16_getChar_b1 (j := 6) rfl) (byt_of hStringUTF16_getChar_b1 (j := 7) rfl) (byt_of hStringUTF16_getChar_b1 (j := 8) rfl) rfl
theorem dStringUTF16_getChar_41 : decode (mcc mStringUTF16_getChar) 41 = .ok (.iand, 1) := o126 (byt_of hStringUTF16_getChar_b1 (j := 9) rfl)
theorem dStringUTF16_getChar_42 : decode (mcc mStringUTF16_getChar) 42 = .ok (.getstatic 59, 3) := o178 (a := 0) (b := 59) (byt_of hStringUTF16_getChar_b1 (j := 10) rfl) (byt_of hStringUTF16_getChar_b1 (j := 11) rfl) (byt_of hStringUTF16_getChar_b1 (j := 12) rfl) rfl
theorem dStringUTF16_getChar_45 : decode (mcc mStringUTF16_getChar) 45 = .ok (.ishl, 1) := o120 (byt_of hStringUTF16_getChar_b1 (j := 13) rfl)
theorem dStringUTF16_getChar_46 : decode (mcc mStringUTF16_getChar) 46 = .ok (.aload_n 0, 1) := o42 (byt_of hStringUTF16_getChar_b1 (j := 14) rfl)
theorem dStringUTF16_getChar_47 : decode (mcc mStringUTF16_getChar) 47 = .ok (.iload_n 1, 1) := o27 (byt_of hStringUTF16_getChar_b1 (j := 15) rfl)
theorem dStringUTF16_getChar_48 : decode (mcc mStringUTF16_getChar) 48 = .ok (.baload, 1) := o51 (byt_of hStringUTF16_getChar_b1 (j := 16) rfl)
theorem dStringUTF16_getChar_49 : decode (mcc mStringUTF16_getChar) 49 = .ok (.sipush 255, 3) := o17 (a := 0) (b := 255) (byt_of hStringUTF16_getChar_b1 (j := 17) rfl) (byt_of hStringUTF16_getChar_b1 (j := 18) rfl) (byt_of hStringUTF16_getChar_b1 (j := 19) rfl) rfl
theorem dStringUTF16_getChar_52 : decode (mcc mStringUTF16_getChar) 52 = .ok (.iand, 1) := o126 (byt_of hStringUTF16_getChar_b1 (j := 20) rfl)
theorem dStringUTF16_getChar_53 : decode (mcc mStringUTF16_getChar) 53 = .ok (.getstatic 63, 3) := o178 (a := 0) (b := 63) (byt_of hStringUTF16_getChar_b1 (j := 21) rfl) (byt_of hStringUTF16_getChar_b1 (j := 22) rfl) (byt_of hStringUTF16_getChar_b1 (j := 23) rfl) rfl
theorem dStringUTF16_getChar_56 : decode (mcc mStringUTF16_getChar) 56 = .ok (.ishl, 1) := o120 (byt_of hStringUTF16_getChar_b1 (j := 24) rfl)
theorem dStringUTF16_getChar_57 : decode (mcc mStringUTF16_getChar) 57 = .ok (.ior, 1) := o128 (byt_of hStringUTF16_getChar_b1 (j := 25) rfl)
theorem dStringUTF16_getChar_58 : decode (mcc mStringUTF16_getChar) 58 = .ok (.i2c, 1) := o146 (byt_of hStringUTF16_getChar_b1 (j := 26) rfl)
theorem dStringUTF16_getChar_59 : decode (mcc mStringUTF16_getChar) 59 = .ok (.ireturn, 1) := o172 (byt_of hStringUTF16_getChar_b1 (j := 27) rfl)
def bStringUTF16_length_b0 : List Nat := [42, 190, 4, 122, 172]
theorem hStringUTF16_length_b0 : BL (mcc mStringUTF16_length) 0 bStringUTF16_length_b0 := by decide +kernel
theorem dStringUTF16_length_0 : decode (mcc mStringUTF16_length) 0 = .ok (.aload_n 0, 1) := o42 (byt_of hStringUTF16_length_b0 (j := 0) rfl)
theorem dStringUTF16_length_1 : decode (mcc mStringUTF16_length) 1 = .ok (.arraylength, 1) := o190 (byt_of hStringUTF16_length_b0 (j := 1) rfl)
theorem dStringUTF16_length_2 : decode (mcc mStringUTF16_length) 2 = .ok (.iconst 1, 1) := o4 (byt_of hStringUTF16_length_b0 (j := 2) rfl)
theorem dStringUTF16_length_3 : decode (mcc mStringUTF16_length) 3 = .ok (.ishr, 1) := o122 (byt_of hStringUTF16_length_b0 (j := 3) rfl)
theorem dStringUTF16_length_4 : decode (mcc mStringUTF16_length) 4 = .ok (.ireturn, 1) := o172 (byt_of hStringUTF16_length_b0 (j := 4) rfl)
def bStringUTF16_charAt_b0 : List Nat := [27, 42, 184, 0, 67, 42, 27, 184, 0, 71, 172]
theorem hStringUTF16_charAt_b0 : BL (mcc mStringUTF16_charAt) 0 bStringUTF16_charAt_b0 := by decide +kernel
theorem dStringUTF16_charAt_0 : decode (mcc mStringUTF16_charAt) 0 = .ok (.iload_n 1, 1) := o27 (byt_of hStringUTF16_charAt_b0 (j := 0) rfl)
theorem dStringUTF16_charAt_1 : decode (mcc mStringUTF16_charAt) 1 = .ok (.aload_n 0, 1) := o42 (byt_of hStringUTF16_charAt_b0 (j := 1) rfl)
theorem dStringUTF16_charAt_2 : decode (mcc mStringUTF16_charAt) 2 = .ok (.invokestatic 67, 3) := o184 (a := 0) (b := 67) (byt_of hStringUTF16_charAt_b0 (j := 2) rfl) (byt_of hStringUTF16_charAt_b0 (j := 3) rfl) (byt_of hStringUTF16_charAt_b0 (j := 4) rfl) rfl
theorem dStringUTF16_charAt_5 : decode (mcc mStringUTF16_charAt) 5 = .ok (.aload_n 0, 1) := o42 (byt_of hStringUTF16_charAt_b0 (j := 5) rfl)
theorem dStringUTF16_charAt_6 : decode (mcc mStringUTF16_charAt) 6 = .ok (.iload_n 1, 1) := o27 (byt_of hStringUTF16_charAt_b0 (j := 6) rfl)
theorem dStringUTF16_charAt_7 : decode (mcc mStringUTF16_charAt) 7 = .ok (.invokestatic 71, 3) := o184 (a := 0) (b := 71) (byt_of hStringUTF16_charAt_b0 (j := 7) rfl) (byt_of hStringUTF16_charAt_b0 (j := 8) rfl) (byt_of hStringUTF16_charAt_b0 (j := 9) rfl) rfl
theorem dStringUTF16_charAt_10 : decode (mcc mStringUTF16_charAt) 10 = .ok (.ireturn, 1) := o172 (byt_of hStringUTF16_charAt_b0 (j := 10) rfl)
def bStringUTF16_checkIndex_b0 : List Nat := [26, 43, 184, 0, 48, 184, 1, 158, 177]
theorem hStringUTF16_checkIndex_b0 : BL (mcc mStringUTF16_checkIndex) 0 bStringUTF16_checkIndex_b0 := by decide +kernel
theorem dStringUTF16_checkIndex_0 : decode (mcc mStringUTF16_checkIndex) 0 = .ok (.iload_n 0, 1) := o26 (byt_of hStringUTF16_checkIndex_b0 (j := 0) rfl)
theorem dStringUTF16_checkIndex_1 : decode (mcc mStringUTF16_checkIndex) 1 = .ok (.aload_n 1, 1) := o43 (byt_of hStringUTF16_checkIndex_b0 (j := 1) rfl)
theorem dStringUTF16_checkIndex_2 : decode (mcc mStringUTF16_checkIndex) 2 = .ok (.invokestatic 48, 3) := o184 (a := 0) (b := 48) (byt_of hStringUTF16_checkIndex_b0 (j := 2) rfl) (byt_of hStringUTF16_checkIndex_b0 (j := 3) rfl) (byt_of hStringUTF16_checkIndex_b0 (j := 4) rfl) rfl
theorem dStringUTF16_checkIndex_5 : decode (mcc mStringUTF16_checkIndex) 5 = .ok (.invokestatic 414, 3) := o184 (a := 1) (b := 158) (byt_of hStringUTF16_checkIndex_b0 (j := 5) rfl) (byt_of hStringUTF16_checkIndex_b0 (j := 6) rfl) (byt_of hStringUTF16_checkIndex_b0 (j := 7) rfl) rfl
theorem dStringUTF16_checkIndex_8 : decode (mcc mStringUTF16_checkIndex) 8 = .ok (.return_, 1) := o177 (byt_of hStringUTF16_checkIndex_b0 (j := 8) rfl)
def bPreconditions_checkIndex_b0 : List Nat := [26, 155, 0, 8, 26, 27, 161, 0, 10, 44, 26, 27, 184, 0, 95, 191, 26, 172]
theorem hPreconditions_checkIndex_b0 : BL (mcc mPreconditions_checkIndex) 0 bPreconditions_checkIndex_b0 := by decide +kernel
theorem dPreconditions_checkIndex_0 : decode (mcc mPreconditions_checkIndex) 0 = .ok (.iload_n 0, 1) := o26 (byt_of hPreconditions_checkIndex_b0 (j := 0) rfl)
theorem dPreconditions_checkIndex_1 : decode (mcc mPreconditions_checkIndex) 1 = .ok (.ifCond .lt 8, 3) := o155 (a := 0) (b := 8) (byt_of hPreconditions_checkIndex_b0 (j := 1) rfl) (byt_of hPreconditions_checkIndex_b0 (j := 2) rfl) (byt_of hPreconditions_checkIndex_b0 (j := 3) rfl) rfl
theorem dPreconditions_checkIndex_4 : decode (mcc mPreconditions_checkIndex) 4 = .ok (.iload_n 0, 1) := o26 (byt_of hPreconditions_checkIndex_b0 (j := 4) rfl)
theorem dPreconditions_checkIndex_5 : decode (mcc mPreconditions_checkIndex) 5 = .ok (.iload_n 1, 1) := o27 (byt_of hPreconditions_checkIndex_b0 (j := 5) rfl)
theorem dPreconditions_checkIndex_6 : decode (mcc mPreconditions_checkIndex) 6 = .ok (.if_icmp .lt 10, 3) := o161 (a := 0) (b := 10) (byt_of hPreconditions_checkIndex_b0 (j := 6) rfl) (byt_of hPreconditions_checkIndex_b0 (j := 7) rfl) (byt_of hPreconditions_checkIndex_b0 (j := 8) rfl) rfl
theorem dPreconditions_checkIndex_9 : decode (mcc mPreconditions_checkIndex) 9 = .ok (.aload_n 2, 1) := o44 (byt_of hPreconditions_checkIndex_b0 (j := 9) rfl)
theorem dPreconditions_checkIndex_10 : decode (mcc mPreconditions_checkIndex) 10 = .ok (.iload_n 0, 1) := o26 (byt_of hPreconditions_checkIndex_b0 (j := 10) rfl)
theorem dPreconditions_checkIndex_11 : decode (mcc mPreconditions_checkIndex) 11 = .ok (.iload_n 1, 1) := o27 (byt_of hPreconditions_checkIndex_b0 (j := 11) rfl)
theorem dPreconditions_checkIndex_12 : decode (mcc mPreconditions_checkIndex) 12 = .ok (.invokestatic 95, 3) := o184 (a := 0) (b := 95) (byt_of hPreconditions_checkIndex_b0 (j := 12) rfl) (byt_of hPreconditions_checkIndex_b0 (j := 13) rfl) (byt_of hPreconditions_checkIndex_b0 (j := 14) rfl) rfl
theorem dPreconditions_checkIndex_15 : decode (mcc mPreconditions_checkIndex) 15 = .ok (.athrow, 1) := o191 (byt_of hPreconditions_checkIndex_b0 (j := 15) rfl)
theorem dPreconditions_checkIndex_16 : decode (mcc mPreconditions_checkIndex) 16 = .ok (.iload_n 0, 1) := o26 (byt_of hPreconditions_checkIndex_b0 (j := 16) rfl)
theorem dPreconditions_checkIndex_17 : decode (mcc mPreconditions_checkIndex) 17 = .ok (.ireturn, 1) := o172 (byt_of hPreconditions_checkIndex_b0 (j := 17) rfl)
end
