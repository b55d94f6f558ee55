/-! rows that decode, by opcode: the general words. Laid by a program (wip/tool/dk.py) -/
noncomputable def dkd (l : List UInt8) : Nat → List UInt8 := List.rec (motive := fun _ => Nat → List UInt8) (fun _ => []) (fun x t ih n => Nat.rec (motive := fun _ => List UInt8) (x :: t) (fun m _ => ih m) n) l
noncomputable def dkp (b : List Nat) : List UInt8 → Bool := List.rec (motive := fun _ => List UInt8 → Bool) (fun _ => true) (fun y _ ih l => List.rec (motive := fun _ => Bool) false (fun x t _ => (Nat.beq x.toNat y && ih t)) l) b
noncomputable def dkc (c : ByteArray) (pc : Nat) (b : List Nat) : Bool := dkp b (dkd c.data.toList pc)
theorem dkd_eq (l : List UInt8) : ∀ n : Nat, dkd l n = l.drop n := by
  induction l with
  | nil => intro n; rw [List.drop_nil]; rfl
  | cons x t ih =>
    intro n
    cases n with
    | zero => rfl
    | succ m => exact ih m
theorem dkp_cons {l : List UInt8} {y : Nat} {b : List Nat} (h : dkp (y :: b) l = true) : ∃ x t, l = x :: t ∧ x.toNat = y ∧ dkp b t = true := by
  cases l with
  | nil => exact absurd (show false = true from h) (by decide)
  | cons x t =>
    have h9 : (Nat.beq x.toNat y && dkp b t) = true := h
    rw [Bool.and_eq_true] at h9
    exact ⟨x, t, rfl, Nat.eq_of_beq_eq_true h9.1, h9.2⟩
theorem dk_u1 {c : ByteArray} {pc y : Nat} {b : List Nat} (h : dkc c pc (y :: b) = true) : (Jvm.ClassFile.Reader.u1 : Jvm.ClassFile.Decoder Nat) c pc = .ok (y, pc + 1) ∧ dkc c (pc + 1) b = true := by
  cases c with
  | mk d =>
    have h1 : dkp (y :: b) (dkd d.toList pc) = true := h
    obtain ⟨x, t, e, hx, ht⟩ := dkp_cons h1
    rw [dkd_eq] at e
    have hl : d.toList[pc]? = some x := by rw [← List.head?_drop, e]; rfl
    obtain ⟨hn, hg⟩ := List.getElem?_eq_some_iff.mp hl
    have hd : t = dkd d.toList (pc + 1) := by
      have e1 := congrArg List.tail e
      rw [List.tail_drop] at e1
      rw [dkd_eq]
      exact e1.symm
    refine ⟨?_, ?_⟩
    · have hs : pc < (ByteArray.mk d).size := hn
      have r : (Jvm.ClassFile.Reader.u1 : Jvm.ClassFile.Decoder Nat) (ByteArray.mk d) pc = (if h : pc < (ByteArray.mk d).size then (do set (pc + 1); pure (ByteArray.mk d)[pc].toNat : Jvm.ClassFile.Decoder Nat) else (throw (Jvm.ClassFile.HasTruncated.truncated pc) : Jvm.ClassFile.Decoder Nat)) (ByteArray.mk d) pc := rfl
      rw [r, dif_pos hs]
      have hq : (ByteArray.mk d)[pc] = x := hg
      show Except.ok (((ByteArray.mk d)[pc]).toNat, pc + 1) = _
      rw [hq, hx]
    · show dkp b (dkd d.toList (pc + 1)) = true
      rw [← hd]; exact ht
theorem dk_b {α β : Type} {c : ByteArray} {pc q : Nat} {R : Jvm.ClassFile.Decoder α} {k : α → Jvm.ClassFile.Decoder β} {v : α} (h : R c pc = .ok (v, q)) : (R >>= k) c pc = k v c q := by
  have r : (R >>= k) c pc = ((R c pc : Except Jvm.ClassFile.DecodeError (α × Nat)) >>= fun z => k z.1 c z.2) := rfl
  rw [r, h]; rfl
theorem dk_u2 {c : ByteArray} {pc a b : Nat} {l : List Nat} (h : dkc c pc (a :: b :: l) = true) : (Jvm.ClassFile.Reader.u2 : Jvm.ClassFile.Decoder Nat) c pc = .ok (a * 256 + b, pc + 1 + 1) := by
  have h1 := dk_u1 h; have h2 := dk_u1 h1.2
  have r : (Jvm.ClassFile.Reader.u2 : Jvm.ClassFile.Decoder Nat) = (Jvm.ClassFile.Reader.u1 >>= fun hi => Jvm.ClassFile.Reader.u1 >>= fun lo => pure (hi * 256 + lo)) := rfl
  rw [r]
  exact (dk_b h1.1).trans ((dk_b h2.1).trans rfl)
theorem dk_s1 {c : ByteArray} {pc a : Nat} {l : List Nat} (h : dkc c pc (a :: l) = true) : (Jvm.ClassFile.Reader.s1 : Jvm.ClassFile.Decoder Int) c pc = .ok (Jvm.ClassFile.Reader.signed 8 a, pc + 1) := by
  have r : (Jvm.ClassFile.Reader.s1 : Jvm.ClassFile.Decoder Int) c pc = (((Jvm.ClassFile.Reader.u1 : Jvm.ClassFile.Decoder Nat) c pc : Except Jvm.ClassFile.DecodeError (Nat × Nat)) >>= fun z => pure (Jvm.ClassFile.Reader.signed 8 z.1, z.2)) := rfl
  rw [r, (dk_u1 h).1]; rfl
theorem dk_s2 {c : ByteArray} {pc a b : Nat} {l : List Nat} (h : dkc c pc (a :: b :: l) = true) : (Jvm.ClassFile.Reader.s2 : Jvm.ClassFile.Decoder Int) c pc = .ok (Jvm.ClassFile.Reader.signed 16 (a * 256 + b), pc + 1 + 1) := by
  have r : (Jvm.ClassFile.Reader.s2 : Jvm.ClassFile.Decoder Int) c pc = (((Jvm.ClassFile.Reader.u2 : Jvm.ClassFile.Decoder Nat) c pc : Except Jvm.ClassFile.DecodeError (Nat × Nat)) >>= fun z => pure (Jvm.ClassFile.Reader.signed 16 z.1, z.2)) := rfl
  rw [r, dk_u2 h]; rfl
theorem dk_0 {c : ByteArray} {pc op q n : Nat} {F : Nat → Jvm.ClassFile.Decoder Instr} {i : Instr} (e : Jvm.ClassFile.Decoder.instr pc = Jvm.ClassFile.Reader.u1 >>= F) (h : (Jvm.ClassFile.Reader.u1 : Jvm.ClassFile.Decoder Nat) c pc = .ok (op, pc + 1)) (hF : F op c (pc + 1) = .ok (i, q)) (hn : q - pc = n) : decode c pc = .ok (i, n) := by
  have r : decode c pc = ((Jvm.ClassFile.Decoder.instr pc c pc : Except Jvm.ClassFile.DecodeError (Instr × Nat)) >>= fun z => pure (z.1, z.2 - pc)) := rfl
  rw [r, e, dk_b h, hF, ← hn]; rfl
theorem dk_2 {α : Type} {c : ByteArray} {pc op q n : Nat} {F : Nat → Jvm.ClassFile.Decoder Instr} {R : Jvm.ClassFile.Decoder α} {G : α → Jvm.ClassFile.Decoder Instr} {v : α} {i : Instr} (e : Jvm.ClassFile.Decoder.instr pc = Jvm.ClassFile.Reader.u1 >>= F) (h : (Jvm.ClassFile.Reader.u1 : Jvm.ClassFile.Decoder Nat) c pc = .ok (op, pc + 1)) (eF : F op = R >>= G) (hR : R c (pc + 1) = .ok (v, q)) (hG : G v c q = .ok (i, q)) (hn : q - pc = n) : decode c pc = .ok (i, n) :=
  dk_0 e h (by rw [eF]; exact (dk_b hR).trans hG) hn
theorem dk_3 {α β : Type} {c : ByteArray} {pc op q q2 n : Nat} {F : Nat → Jvm.ClassFile.Decoder Instr} {R : Jvm.ClassFile.Decoder α} {G : α → Jvm.ClassFile.Decoder Instr} {v : α} {R2 : Jvm.ClassFile.Decoder β} {G2 : β → Jvm.ClassFile.Decoder Instr} {w : β} {i : Instr} (e : Jvm.ClassFile.Decoder.instr pc = Jvm.ClassFile.Reader.u1 >>= F) (h : (Jvm.ClassFile.Reader.u1 : Jvm.ClassFile.Decoder Nat) c pc = .ok (op, pc + 1)) (eF : F op = R >>= G) (hR : R c (pc + 1) = .ok (v, q)) (eG : G v = R2 >>= G2) (hR2 : R2 c q = .ok (w, q2)) (hG : G2 w c q2 = .ok (i, q2)) (hn : q2 - pc = n) : decode c pc = .ok (i, n) :=
  dk_0 e h (by rw [eF]; refine (dk_b hR).trans ?_; rw [eG]; exact (dk_b hR2).trans hG) hn
theorem dk_an {a : Bool} {P : Prop} [Decidable P] (h : (a && decide P) = true) : a = true ∧ P := by
  rw [Bool.and_eq_true] at h
  exact ⟨h.1, of_decide_eq_true h.2⟩
set_option maxRecDepth 100000 in
theorem dk_o1 {c : ByteArray} {pc : Nat} (h : dkc c pc [1] = true) : decode c pc = .ok (.aconst_null, 1) := dk_0 rfl (dk_u1 h).1 rfl (by omega)
set_option maxRecDepth 100000 in
theorem dk_o2 {c : ByteArray} {pc : Nat} (h : dkc c pc [2] = true) : decode c pc = .ok (.iconst (-1), 1) := dk_0 rfl (dk_u1 h).1 rfl (by omega)
set_option maxRecDepth 100000 in
theorem dk_o3 {c : ByteArray} {pc : Nat} (h : dkc c pc [3] = true) : decode c pc = .ok (.iconst 0, 1) := dk_0 rfl (dk_u1 h).1 rfl (by omega)
set_option maxRecDepth 100000 in
theorem dk_o4 {c : ByteArray} {pc : Nat} (h : dkc c pc [4] = true) : decode c pc = .ok (.iconst 1, 1) := dk_0 rfl (dk_u1 h).1 rfl (by omega)
set_option maxRecDepth 100000 in
theorem dk_o5 {c : ByteArray} {pc : Nat} (h : dkc c pc [5] = true) : decode c pc = .ok (.iconst 2, 1) := dk_0 rfl (dk_u1 h).1 rfl (by omega)
set_option maxRecDepth 100000 in
theorem dk_o6 {c : ByteArray} {pc : Nat} (h : dkc c pc [6] = true) : decode c pc = .ok (.iconst 3, 1) := dk_0 rfl (dk_u1 h).1 rfl (by omega)
set_option maxRecDepth 100000 in
theorem dk_o7 {c : ByteArray} {pc : Nat} (h : dkc c pc [7] = true) : decode c pc = .ok (.iconst 4, 1) := dk_0 rfl (dk_u1 h).1 rfl (by omega)
set_option maxRecDepth 100000 in
theorem dk_o8 {c : ByteArray} {pc : Nat} (h : dkc c pc [8] = true) : decode c pc = .ok (.iconst 5, 1) := dk_0 rfl (dk_u1 h).1 rfl (by omega)
set_option maxRecDepth 100000 in
theorem dk_o9 {c : ByteArray} {pc : Nat} (h : dkc c pc [9] = true) : decode c pc = .ok (.lconst 0, 1) := dk_0 rfl (dk_u1 h).1 rfl (by omega)
set_option maxRecDepth 100000 in
theorem dk_o10 {c : ByteArray} {pc : Nat} (h : dkc c pc [10] = true) : decode c pc = .ok (.lconst 1, 1) := dk_0 rfl (dk_u1 h).1 rfl (by omega)
set_option maxRecDepth 100000 in
theorem dk_o26 {c : ByteArray} {pc : Nat} (h : dkc c pc [26] = true) : decode c pc = .ok (.iload_n 0, 1) := dk_0 rfl (dk_u1 h).1 rfl (by omega)
set_option maxRecDepth 100000 in
theorem dk_o27 {c : ByteArray} {pc : Nat} (h : dkc c pc [27] = true) : decode c pc = .ok (.iload_n 1, 1) := dk_0 rfl (dk_u1 h).1 rfl (by omega)
set_option maxRecDepth 100000 in
theorem dk_o28 {c : ByteArray} {pc : Nat} (h : dkc c pc [28] = true) : decode c pc = .ok (.iload_n 2, 1) := dk_0 rfl (dk_u1 h).1 rfl (by omega)
set_option maxRecDepth 100000 in
theorem dk_o29 {c : ByteArray} {pc : Nat} (h : dkc c pc [29] = true) : decode c pc = .ok (.iload_n 3, 1) := dk_0 rfl (dk_u1 h).1 rfl (by omega)
set_option maxRecDepth 100000 in
theorem dk_o30 {c : ByteArray} {pc : Nat} (h : dkc c pc [30] = true) : decode c pc = .ok (.lload_n 0, 1) := dk_0 rfl (dk_u1 h).1 rfl (by omega)
set_option maxRecDepth 100000 in
theorem dk_o31 {c : ByteArray} {pc : Nat} (h : dkc c pc [31] = true) : decode c pc = .ok (.lload_n 1, 1) := dk_0 rfl (dk_u1 h).1 rfl (by omega)
set_option maxRecDepth 100000 in
theorem dk_o32 {c : ByteArray} {pc : Nat} (h : dkc c pc [32] = true) : decode c pc = .ok (.lload_n 2, 1) := dk_0 rfl (dk_u1 h).1 rfl (by omega)
set_option maxRecDepth 100000 in
theorem dk_o33 {c : ByteArray} {pc : Nat} (h : dkc c pc [33] = true) : decode c pc = .ok (.lload_n 3, 1) := dk_0 rfl (dk_u1 h).1 rfl (by omega)
set_option maxRecDepth 100000 in
theorem dk_o42 {c : ByteArray} {pc : Nat} (h : dkc c pc [42] = true) : decode c pc = .ok (.aload_n 0, 1) := dk_0 rfl (dk_u1 h).1 rfl (by omega)
set_option maxRecDepth 100000 in
theorem dk_o43 {c : ByteArray} {pc : Nat} (h : dkc c pc [43] = true) : decode c pc = .ok (.aload_n 1, 1) := dk_0 rfl (dk_u1 h).1 rfl (by omega)
set_option maxRecDepth 100000 in
theorem dk_o44 {c : ByteArray} {pc : Nat} (h : dkc c pc [44] = true) : decode c pc = .ok (.aload_n 2, 1) := dk_0 rfl (dk_u1 h).1 rfl (by omega)
set_option maxRecDepth 100000 in
theorem dk_o45 {c : ByteArray} {pc : Nat} (h : dkc c pc [45] = true) : decode c pc = .ok (.aload_n 3, 1) := dk_0 rfl (dk_u1 h).1 rfl (by omega)
set_option maxRecDepth 100000 in
theorem dk_o46 {c : ByteArray} {pc : Nat} (h : dkc c pc [46] = true) : decode c pc = .ok (.iaload, 1) := dk_0 rfl (dk_u1 h).1 rfl (by omega)
set_option maxRecDepth 100000 in
theorem dk_o47 {c : ByteArray} {pc : Nat} (h : dkc c pc [47] = true) : decode c pc = .ok (.laload, 1) := dk_0 rfl (dk_u1 h).1 rfl (by omega)
set_option maxRecDepth 100000 in
theorem dk_o50 {c : ByteArray} {pc : Nat} (h : dkc c pc [50] = true) : decode c pc = .ok (.aaload, 1) := dk_0 rfl (dk_u1 h).1 rfl (by omega)
set_option maxRecDepth 100000 in
theorem dk_o51 {c : ByteArray} {pc : Nat} (h : dkc c pc [51] = true) : decode c pc = .ok (.baload, 1) := dk_0 rfl (dk_u1 h).1 rfl (by omega)
set_option maxRecDepth 100000 in
theorem dk_o52 {c : ByteArray} {pc : Nat} (h : dkc c pc [52] = true) : decode c pc = .ok (.caload, 1) := dk_0 rfl (dk_u1 h).1 rfl (by omega)
set_option maxRecDepth 100000 in
theorem dk_o53 {c : ByteArray} {pc : Nat} (h : dkc c pc [53] = true) : decode c pc = .ok (.saload, 1) := dk_0 rfl (dk_u1 h).1 rfl (by omega)
set_option maxRecDepth 100000 in
theorem dk_o59 {c : ByteArray} {pc : Nat} (h : dkc c pc [59] = true) : decode c pc = .ok (.istore_n 0, 1) := dk_0 rfl (dk_u1 h).1 rfl (by omega)
set_option maxRecDepth 100000 in
theorem dk_o60 {c : ByteArray} {pc : Nat} (h : dkc c pc [60] = true) : decode c pc = .ok (.istore_n 1, 1) := dk_0 rfl (dk_u1 h).1 rfl (by omega)
set_option maxRecDepth 100000 in
theorem dk_o61 {c : ByteArray} {pc : Nat} (h : dkc c pc [61] = true) : decode c pc = .ok (.istore_n 2, 1) := dk_0 rfl (dk_u1 h).1 rfl (by omega)
set_option maxRecDepth 100000 in
theorem dk_o62 {c : ByteArray} {pc : Nat} (h : dkc c pc [62] = true) : decode c pc = .ok (.istore_n 3, 1) := dk_0 rfl (dk_u1 h).1 rfl (by omega)
set_option maxRecDepth 100000 in
theorem dk_o63 {c : ByteArray} {pc : Nat} (h : dkc c pc [63] = true) : decode c pc = .ok (.lstore_n 0, 1) := dk_0 rfl (dk_u1 h).1 rfl (by omega)
set_option maxRecDepth 100000 in
theorem dk_o64 {c : ByteArray} {pc : Nat} (h : dkc c pc [64] = true) : decode c pc = .ok (.lstore_n 1, 1) := dk_0 rfl (dk_u1 h).1 rfl (by omega)
set_option maxRecDepth 100000 in
theorem dk_o65 {c : ByteArray} {pc : Nat} (h : dkc c pc [65] = true) : decode c pc = .ok (.lstore_n 2, 1) := dk_0 rfl (dk_u1 h).1 rfl (by omega)
set_option maxRecDepth 100000 in
theorem dk_o66 {c : ByteArray} {pc : Nat} (h : dkc c pc [66] = true) : decode c pc = .ok (.lstore_n 3, 1) := dk_0 rfl (dk_u1 h).1 rfl (by omega)
set_option maxRecDepth 100000 in
theorem dk_o75 {c : ByteArray} {pc : Nat} (h : dkc c pc [75] = true) : decode c pc = .ok (.astore_n 0, 1) := dk_0 rfl (dk_u1 h).1 rfl (by omega)
set_option maxRecDepth 100000 in
theorem dk_o76 {c : ByteArray} {pc : Nat} (h : dkc c pc [76] = true) : decode c pc = .ok (.astore_n 1, 1) := dk_0 rfl (dk_u1 h).1 rfl (by omega)
set_option maxRecDepth 100000 in
theorem dk_o77 {c : ByteArray} {pc : Nat} (h : dkc c pc [77] = true) : decode c pc = .ok (.astore_n 2, 1) := dk_0 rfl (dk_u1 h).1 rfl (by omega)
set_option maxRecDepth 100000 in
theorem dk_o78 {c : ByteArray} {pc : Nat} (h : dkc c pc [78] = true) : decode c pc = .ok (.astore_n 3, 1) := dk_0 rfl (dk_u1 h).1 rfl (by omega)
set_option maxRecDepth 100000 in
theorem dk_o79 {c : ByteArray} {pc : Nat} (h : dkc c pc [79] = true) : decode c pc = .ok (.iastore, 1) := dk_0 rfl (dk_u1 h).1 rfl (by omega)
set_option maxRecDepth 100000 in
theorem dk_o80 {c : ByteArray} {pc : Nat} (h : dkc c pc [80] = true) : decode c pc = .ok (.lastore, 1) := dk_0 rfl (dk_u1 h).1 rfl (by omega)
set_option maxRecDepth 100000 in
theorem dk_o83 {c : ByteArray} {pc : Nat} (h : dkc c pc [83] = true) : decode c pc = .ok (.aastore, 1) := dk_0 rfl (dk_u1 h).1 rfl (by omega)
set_option maxRecDepth 100000 in
theorem dk_o84 {c : ByteArray} {pc : Nat} (h : dkc c pc [84] = true) : decode c pc = .ok (.bastore, 1) := dk_0 rfl (dk_u1 h).1 rfl (by omega)
set_option maxRecDepth 100000 in
theorem dk_o87 {c : ByteArray} {pc : Nat} (h : dkc c pc [87] = true) : decode c pc = .ok (.pop, 1) := dk_0 rfl (dk_u1 h).1 rfl (by omega)
set_option maxRecDepth 100000 in
theorem dk_o89 {c : ByteArray} {pc : Nat} (h : dkc c pc [89] = true) : decode c pc = .ok (.dup, 1) := dk_0 rfl (dk_u1 h).1 rfl (by omega)
set_option maxRecDepth 100000 in
theorem dk_o90 {c : ByteArray} {pc : Nat} (h : dkc c pc [90] = true) : decode c pc = .ok (.dup_x1, 1) := dk_0 rfl (dk_u1 h).1 rfl (by omega)
set_option maxRecDepth 100000 in
theorem dk_o92 {c : ByteArray} {pc : Nat} (h : dkc c pc [92] = true) : decode c pc = .ok (.dup2, 1) := dk_0 rfl (dk_u1 h).1 rfl (by omega)
set_option maxRecDepth 100000 in
theorem dk_o96 {c : ByteArray} {pc : Nat} (h : dkc c pc [96] = true) : decode c pc = .ok (.iadd, 1) := dk_0 rfl (dk_u1 h).1 rfl (by omega)
set_option maxRecDepth 100000 in
theorem dk_o97 {c : ByteArray} {pc : Nat} (h : dkc c pc [97] = true) : decode c pc = .ok (.ladd, 1) := dk_0 rfl (dk_u1 h).1 rfl (by omega)
set_option maxRecDepth 100000 in
theorem dk_o100 {c : ByteArray} {pc : Nat} (h : dkc c pc [100] = true) : decode c pc = .ok (.isub, 1) := dk_0 rfl (dk_u1 h).1 rfl (by omega)
set_option maxRecDepth 100000 in
theorem dk_o101 {c : ByteArray} {pc : Nat} (h : dkc c pc [101] = true) : decode c pc = .ok (.lsub, 1) := dk_0 rfl (dk_u1 h).1 rfl (by omega)
set_option maxRecDepth 100000 in
theorem dk_o104 {c : ByteArray} {pc : Nat} (h : dkc c pc [104] = true) : decode c pc = .ok (.imul, 1) := dk_0 rfl (dk_u1 h).1 rfl (by omega)
set_option maxRecDepth 100000 in
theorem dk_o105 {c : ByteArray} {pc : Nat} (h : dkc c pc [105] = true) : decode c pc = .ok (.lmul, 1) := dk_0 rfl (dk_u1 h).1 rfl (by omega)
set_option maxRecDepth 100000 in
theorem dk_o108 {c : ByteArray} {pc : Nat} (h : dkc c pc [108] = true) : decode c pc = .ok (.idiv, 1) := dk_0 rfl (dk_u1 h).1 rfl (by omega)
set_option maxRecDepth 100000 in
theorem dk_o109 {c : ByteArray} {pc : Nat} (h : dkc c pc [109] = true) : decode c pc = .ok (.ldiv, 1) := dk_0 rfl (dk_u1 h).1 rfl (by omega)
set_option maxRecDepth 100000 in
theorem dk_o112 {c : ByteArray} {pc : Nat} (h : dkc c pc [112] = true) : decode c pc = .ok (.irem, 1) := dk_0 rfl (dk_u1 h).1 rfl (by omega)
set_option maxRecDepth 100000 in
theorem dk_o113 {c : ByteArray} {pc : Nat} (h : dkc c pc [113] = true) : decode c pc = .ok (.lrem, 1) := dk_0 rfl (dk_u1 h).1 rfl (by omega)
set_option maxRecDepth 100000 in
theorem dk_o116 {c : ByteArray} {pc : Nat} (h : dkc c pc [116] = true) : decode c pc = .ok (.ineg, 1) := dk_0 rfl (dk_u1 h).1 rfl (by omega)
set_option maxRecDepth 100000 in
theorem dk_o117 {c : ByteArray} {pc : Nat} (h : dkc c pc [117] = true) : decode c pc = .ok (.lneg, 1) := dk_0 rfl (dk_u1 h).1 rfl (by omega)
set_option maxRecDepth 100000 in
theorem dk_o120 {c : ByteArray} {pc : Nat} (h : dkc c pc [120] = true) : decode c pc = .ok (.ishl, 1) := dk_0 rfl (dk_u1 h).1 rfl (by omega)
set_option maxRecDepth 100000 in
theorem dk_o121 {c : ByteArray} {pc : Nat} (h : dkc c pc [121] = true) : decode c pc = .ok (.lshl, 1) := dk_0 rfl (dk_u1 h).1 rfl (by omega)
set_option maxRecDepth 100000 in
theorem dk_o122 {c : ByteArray} {pc : Nat} (h : dkc c pc [122] = true) : decode c pc = .ok (.ishr, 1) := dk_0 rfl (dk_u1 h).1 rfl (by omega)
set_option maxRecDepth 100000 in
theorem dk_o123 {c : ByteArray} {pc : Nat} (h : dkc c pc [123] = true) : decode c pc = .ok (.lshr, 1) := dk_0 rfl (dk_u1 h).1 rfl (by omega)
set_option maxRecDepth 100000 in
theorem dk_o124 {c : ByteArray} {pc : Nat} (h : dkc c pc [124] = true) : decode c pc = .ok (.iushr, 1) := dk_0 rfl (dk_u1 h).1 rfl (by omega)
set_option maxRecDepth 100000 in
theorem dk_o125 {c : ByteArray} {pc : Nat} (h : dkc c pc [125] = true) : decode c pc = .ok (.lushr, 1) := dk_0 rfl (dk_u1 h).1 rfl (by omega)
set_option maxRecDepth 100000 in
theorem dk_o126 {c : ByteArray} {pc : Nat} (h : dkc c pc [126] = true) : decode c pc = .ok (.iand, 1) := dk_0 rfl (dk_u1 h).1 rfl (by omega)
set_option maxRecDepth 100000 in
theorem dk_o127 {c : ByteArray} {pc : Nat} (h : dkc c pc [127] = true) : decode c pc = .ok (.land, 1) := dk_0 rfl (dk_u1 h).1 rfl (by omega)
set_option maxRecDepth 100000 in
theorem dk_o128 {c : ByteArray} {pc : Nat} (h : dkc c pc [128] = true) : decode c pc = .ok (.ior, 1) := dk_0 rfl (dk_u1 h).1 rfl (by omega)
set_option maxRecDepth 100000 in
theorem dk_o129 {c : ByteArray} {pc : Nat} (h : dkc c pc [129] = true) : decode c pc = .ok (.lor, 1) := dk_0 rfl (dk_u1 h).1 rfl (by omega)
set_option maxRecDepth 100000 in
theorem dk_o130 {c : ByteArray} {pc : Nat} (h : dkc c pc [130] = true) : decode c pc = .ok (.ixor, 1) := dk_0 rfl (dk_u1 h).1 rfl (by omega)
set_option maxRecDepth 100000 in
theorem dk_o131 {c : ByteArray} {pc : Nat} (h : dkc c pc [131] = true) : decode c pc = .ok (.lxor, 1) := dk_0 rfl (dk_u1 h).1 rfl (by omega)
set_option maxRecDepth 100000 in
theorem dk_o133 {c : ByteArray} {pc : Nat} (h : dkc c pc [133] = true) : decode c pc = .ok (.i2l, 1) := dk_0 rfl (dk_u1 h).1 rfl (by omega)
set_option maxRecDepth 100000 in
theorem dk_o136 {c : ByteArray} {pc : Nat} (h : dkc c pc [136] = true) : decode c pc = .ok (.l2i, 1) := dk_0 rfl (dk_u1 h).1 rfl (by omega)
set_option maxRecDepth 100000 in
theorem dk_o145 {c : ByteArray} {pc : Nat} (h : dkc c pc [145] = true) : decode c pc = .ok (.i2b, 1) := dk_0 rfl (dk_u1 h).1 rfl (by omega)
set_option maxRecDepth 100000 in
theorem dk_o146 {c : ByteArray} {pc : Nat} (h : dkc c pc [146] = true) : decode c pc = .ok (.i2c, 1) := dk_0 rfl (dk_u1 h).1 rfl (by omega)
set_option maxRecDepth 100000 in
theorem dk_o147 {c : ByteArray} {pc : Nat} (h : dkc c pc [147] = true) : decode c pc = .ok (.i2s, 1) := dk_0 rfl (dk_u1 h).1 rfl (by omega)
set_option maxRecDepth 100000 in
theorem dk_o148 {c : ByteArray} {pc : Nat} (h : dkc c pc [148] = true) : decode c pc = .ok (.lcmp, 1) := dk_0 rfl (dk_u1 h).1 rfl (by omega)
set_option maxRecDepth 100000 in
theorem dk_o172 {c : ByteArray} {pc : Nat} (h : dkc c pc [172] = true) : decode c pc = .ok (.ireturn, 1) := dk_0 rfl (dk_u1 h).1 rfl (by omega)
set_option maxRecDepth 100000 in
theorem dk_o173 {c : ByteArray} {pc : Nat} (h : dkc c pc [173] = true) : decode c pc = .ok (.lreturn, 1) := dk_0 rfl (dk_u1 h).1 rfl (by omega)
set_option maxRecDepth 100000 in
theorem dk_o176 {c : ByteArray} {pc : Nat} (h : dkc c pc [176] = true) : decode c pc = .ok (.areturn, 1) := dk_0 rfl (dk_u1 h).1 rfl (by omega)
set_option maxRecDepth 100000 in
theorem dk_o177 {c : ByteArray} {pc : Nat} (h : dkc c pc [177] = true) : decode c pc = .ok (.return_, 1) := dk_0 rfl (dk_u1 h).1 rfl (by omega)
set_option maxRecDepth 100000 in
theorem dk_o190 {c : ByteArray} {pc : Nat} (h : dkc c pc [190] = true) : decode c pc = .ok (.arraylength, 1) := dk_0 rfl (dk_u1 h).1 rfl (by omega)
set_option maxRecDepth 100000 in
theorem dk_o18 {c : ByteArray} {pc a : Nat} (h : dkc c pc [18, a] = true) : decode c pc = .ok (.ldc a, 2) := dk_2 rfl (dk_u1 h).1 rfl (dk_u1 (dk_u1 h).2).1 rfl (by omega)
set_option maxRecDepth 100000 in
theorem dk_o21 {c : ByteArray} {pc a : Nat} (h : dkc c pc [21, a] = true) : decode c pc = .ok (.iload a, 2) := dk_2 rfl (dk_u1 h).1 rfl (dk_u1 (dk_u1 h).2).1 rfl (by omega)
set_option maxRecDepth 100000 in
theorem dk_o22 {c : ByteArray} {pc a : Nat} (h : dkc c pc [22, a] = true) : decode c pc = .ok (.lload a, 2) := dk_2 rfl (dk_u1 h).1 rfl (dk_u1 (dk_u1 h).2).1 rfl (by omega)
set_option maxRecDepth 100000 in
theorem dk_o25 {c : ByteArray} {pc a : Nat} (h : dkc c pc [25, a] = true) : decode c pc = .ok (.aload a, 2) := dk_2 rfl (dk_u1 h).1 rfl (dk_u1 (dk_u1 h).2).1 rfl (by omega)
set_option maxRecDepth 100000 in
theorem dk_o54 {c : ByteArray} {pc a : Nat} (h : dkc c pc [54, a] = true) : decode c pc = .ok (.istore a, 2) := dk_2 rfl (dk_u1 h).1 rfl (dk_u1 (dk_u1 h).2).1 rfl (by omega)
set_option maxRecDepth 100000 in
theorem dk_o55 {c : ByteArray} {pc a : Nat} (h : dkc c pc [55, a] = true) : decode c pc = .ok (.lstore a, 2) := dk_2 rfl (dk_u1 h).1 rfl (dk_u1 (dk_u1 h).2).1 rfl (by omega)
set_option maxRecDepth 100000 in
theorem dk_o58 {c : ByteArray} {pc a : Nat} (h : dkc c pc [58, a] = true) : decode c pc = .ok (.astore a, 2) := dk_2 rfl (dk_u1 h).1 rfl (dk_u1 (dk_u1 h).2).1 rfl (by omega)
set_option maxRecDepth 100000 in
theorem dk_o16 {c : ByteArray} {pc a : Nat} {v : Int} (h9 : (dkc c pc [16, a] && decide (Jvm.ClassFile.Reader.signed 8 a = v)) = true) : decode c pc = .ok (.bipush v, 2) := by
  obtain ⟨h, e⟩ := dk_an h9
  subst e
  exact dk_2 rfl (dk_u1 h).1 rfl (dk_s1 (dk_u1 h).2) rfl (by omega)
set_option maxRecDepth 100000 in
theorem dk_o17 {c : ByteArray} {pc a b : Nat} {v : Int} (h9 : (dkc c pc [17, a, b] && decide (Jvm.ClassFile.Reader.signed 16 (a * 256 + b) = v)) = true) : decode c pc = .ok (.sipush v, 3) := by
  obtain ⟨h, e⟩ := dk_an h9
  subst e
  exact dk_2 rfl (dk_u1 h).1 rfl (dk_s2 (dk_u1 h).2) rfl (by omega)
set_option maxRecDepth 100000 in
theorem dk_o153 {c : ByteArray} {pc a b : Nat} {v : Int} (h9 : (dkc c pc [153, a, b] && decide (Jvm.ClassFile.Reader.signed 16 (a * 256 + b) = v)) = true) : decode c pc = .ok (.ifCond .eq v, 3) := by
  obtain ⟨h, e⟩ := dk_an h9
  subst e
  exact dk_2 rfl (dk_u1 h).1 rfl (dk_s2 (dk_u1 h).2) rfl (by omega)
set_option maxRecDepth 100000 in
theorem dk_o154 {c : ByteArray} {pc a b : Nat} {v : Int} (h9 : (dkc c pc [154, a, b] && decide (Jvm.ClassFile.Reader.signed 16 (a * 256 + b) = v)) = true) : decode c pc = .ok (.ifCond .ne v, 3) := by
  obtain ⟨h, e⟩ := dk_an h9
  subst e
  exact dk_2 rfl (dk_u1 h).1 rfl (dk_s2 (dk_u1 h).2) rfl (by omega)
set_option maxRecDepth 100000 in
theorem dk_o155 {c : ByteArray} {pc a b : Nat} {v : Int} (h9 : (dkc c pc [155, a, b] && decide (Jvm.ClassFile.Reader.signed 16 (a * 256 + b) = v)) = true) : decode c pc = .ok (.ifCond .lt v, 3) := by
  obtain ⟨h, e⟩ := dk_an h9
  subst e
  exact dk_2 rfl (dk_u1 h).1 rfl (dk_s2 (dk_u1 h).2) rfl (by omega)
set_option maxRecDepth 100000 in
theorem dk_o156 {c : ByteArray} {pc a b : Nat} {v : Int} (h9 : (dkc c pc [156, a, b] && decide (Jvm.ClassFile.Reader.signed 16 (a * 256 + b) = v)) = true) : decode c pc = .ok (.ifCond .ge v, 3) := by
  obtain ⟨h, e⟩ := dk_an h9
  subst e
  exact dk_2 rfl (dk_u1 h).1 rfl (dk_s2 (dk_u1 h).2) rfl (by omega)
set_option maxRecDepth 100000 in
theorem dk_o157 {c : ByteArray} {pc a b : Nat} {v : Int} (h9 : (dkc c pc [157, a, b] && decide (Jvm.ClassFile.Reader.signed 16 (a * 256 + b) = v)) = true) : decode c pc = .ok (.ifCond .gt v, 3) := by
  obtain ⟨h, e⟩ := dk_an h9
  subst e
  exact dk_2 rfl (dk_u1 h).1 rfl (dk_s2 (dk_u1 h).2) rfl (by omega)
set_option maxRecDepth 100000 in
theorem dk_o158 {c : ByteArray} {pc a b : Nat} {v : Int} (h9 : (dkc c pc [158, a, b] && decide (Jvm.ClassFile.Reader.signed 16 (a * 256 + b) = v)) = true) : decode c pc = .ok (.ifCond .le v, 3) := by
  obtain ⟨h, e⟩ := dk_an h9
  subst e
  exact dk_2 rfl (dk_u1 h).1 rfl (dk_s2 (dk_u1 h).2) rfl (by omega)
set_option maxRecDepth 100000 in
theorem dk_o159 {c : ByteArray} {pc a b : Nat} {v : Int} (h9 : (dkc c pc [159, a, b] && decide (Jvm.ClassFile.Reader.signed 16 (a * 256 + b) = v)) = true) : decode c pc = .ok (.if_icmp .eq v, 3) := by
  obtain ⟨h, e⟩ := dk_an h9
  subst e
  exact dk_2 rfl (dk_u1 h).1 rfl (dk_s2 (dk_u1 h).2) rfl (by omega)
set_option maxRecDepth 100000 in
theorem dk_o160 {c : ByteArray} {pc a b : Nat} {v : Int} (h9 : (dkc c pc [160, a, b] && decide (Jvm.ClassFile.Reader.signed 16 (a * 256 + b) = v)) = true) : decode c pc = .ok (.if_icmp .ne v, 3) := by
  obtain ⟨h, e⟩ := dk_an h9
  subst e
  exact dk_2 rfl (dk_u1 h).1 rfl (dk_s2 (dk_u1 h).2) rfl (by omega)
set_option maxRecDepth 100000 in
theorem dk_o161 {c : ByteArray} {pc a b : Nat} {v : Int} (h9 : (dkc c pc [161, a, b] && decide (Jvm.ClassFile.Reader.signed 16 (a * 256 + b) = v)) = true) : decode c pc = .ok (.if_icmp .lt v, 3) := by
  obtain ⟨h, e⟩ := dk_an h9
  subst e
  exact dk_2 rfl (dk_u1 h).1 rfl (dk_s2 (dk_u1 h).2) rfl (by omega)
set_option maxRecDepth 100000 in
theorem dk_o162 {c : ByteArray} {pc a b : Nat} {v : Int} (h9 : (dkc c pc [162, a, b] && decide (Jvm.ClassFile.Reader.signed 16 (a * 256 + b) = v)) = true) : decode c pc = .ok (.if_icmp .ge v, 3) := by
  obtain ⟨h, e⟩ := dk_an h9
  subst e
  exact dk_2 rfl (dk_u1 h).1 rfl (dk_s2 (dk_u1 h).2) rfl (by omega)
set_option maxRecDepth 100000 in
theorem dk_o163 {c : ByteArray} {pc a b : Nat} {v : Int} (h9 : (dkc c pc [163, a, b] && decide (Jvm.ClassFile.Reader.signed 16 (a * 256 + b) = v)) = true) : decode c pc = .ok (.if_icmp .gt v, 3) := by
  obtain ⟨h, e⟩ := dk_an h9
  subst e
  exact dk_2 rfl (dk_u1 h).1 rfl (dk_s2 (dk_u1 h).2) rfl (by omega)
set_option maxRecDepth 100000 in
theorem dk_o164 {c : ByteArray} {pc a b : Nat} {v : Int} (h9 : (dkc c pc [164, a, b] && decide (Jvm.ClassFile.Reader.signed 16 (a * 256 + b) = v)) = true) : decode c pc = .ok (.if_icmp .le v, 3) := by
  obtain ⟨h, e⟩ := dk_an h9
  subst e
  exact dk_2 rfl (dk_u1 h).1 rfl (dk_s2 (dk_u1 h).2) rfl (by omega)
set_option maxRecDepth 100000 in
theorem dk_o167 {c : ByteArray} {pc a b : Nat} {v : Int} (h9 : (dkc c pc [167, a, b] && decide (Jvm.ClassFile.Reader.signed 16 (a * 256 + b) = v)) = true) : decode c pc = .ok (.goto v, 3) := by
  obtain ⟨h, e⟩ := dk_an h9
  subst e
  exact dk_2 rfl (dk_u1 h).1 rfl (dk_s2 (dk_u1 h).2) rfl (by omega)
set_option maxRecDepth 100000 in
theorem dk_o19 {c : ByteArray} {pc a b v : Nat} (h9 : (dkc c pc [19, a, b] && decide (a * 256 + b = v)) = true) : decode c pc = .ok (.ldc_w v, 3) := by
  obtain ⟨h, e⟩ := dk_an h9
  subst e
  exact dk_2 rfl (dk_u1 h).1 rfl (dk_u2 (dk_u1 h).2) rfl (by omega)
set_option maxRecDepth 100000 in
theorem dk_o20 {c : ByteArray} {pc a b v : Nat} (h9 : (dkc c pc [20, a, b] && decide (a * 256 + b = v)) = true) : decode c pc = .ok (.ldc2_w v, 3) := by
  obtain ⟨h, e⟩ := dk_an h9
  subst e
  exact dk_2 rfl (dk_u1 h).1 rfl (dk_u2 (dk_u1 h).2) rfl (by omega)
set_option maxRecDepth 100000 in
theorem dk_o178 {c : ByteArray} {pc a b v : Nat} (h9 : (dkc c pc [178, a, b] && decide (a * 256 + b = v)) = true) : decode c pc = .ok (.getstatic v, 3) := by
  obtain ⟨h, e⟩ := dk_an h9
  subst e
  exact dk_2 rfl (dk_u1 h).1 rfl (dk_u2 (dk_u1 h).2) rfl (by omega)
set_option maxRecDepth 100000 in
theorem dk_o179 {c : ByteArray} {pc a b v : Nat} (h9 : (dkc c pc [179, a, b] && decide (a * 256 + b = v)) = true) : decode c pc = .ok (.putstatic v, 3) := by
  obtain ⟨h, e⟩ := dk_an h9
  subst e
  exact dk_2 rfl (dk_u1 h).1 rfl (dk_u2 (dk_u1 h).2) rfl (by omega)
set_option maxRecDepth 100000 in
theorem dk_o180 {c : ByteArray} {pc a b v : Nat} (h9 : (dkc c pc [180, a, b] && decide (a * 256 + b = v)) = true) : decode c pc = .ok (.getfield v, 3) := by
  obtain ⟨h, e⟩ := dk_an h9
  subst e
  exact dk_2 rfl (dk_u1 h).1 rfl (dk_u2 (dk_u1 h).2) rfl (by omega)
set_option maxRecDepth 100000 in
theorem dk_o181 {c : ByteArray} {pc a b v : Nat} (h9 : (dkc c pc [181, a, b] && decide (a * 256 + b = v)) = true) : decode c pc = .ok (.putfield v, 3) := by
  obtain ⟨h, e⟩ := dk_an h9
  subst e
  exact dk_2 rfl (dk_u1 h).1 rfl (dk_u2 (dk_u1 h).2) rfl (by omega)
set_option maxRecDepth 100000 in
theorem dk_o182 {c : ByteArray} {pc a b v : Nat} (h9 : (dkc c pc [182, a, b] && decide (a * 256 + b = v)) = true) : decode c pc = .ok (.invokevirtual v, 3) := by
  obtain ⟨h, e⟩ := dk_an h9
  subst e
  exact dk_2 rfl (dk_u1 h).1 rfl (dk_u2 (dk_u1 h).2) rfl (by omega)
set_option maxRecDepth 100000 in
theorem dk_o183 {c : ByteArray} {pc a b v : Nat} (h9 : (dkc c pc [183, a, b] && decide (a * 256 + b = v)) = true) : decode c pc = .ok (.invokespecial v, 3) := by
  obtain ⟨h, e⟩ := dk_an h9
  subst e
  exact dk_2 rfl (dk_u1 h).1 rfl (dk_u2 (dk_u1 h).2) rfl (by omega)
set_option maxRecDepth 100000 in
theorem dk_o184 {c : ByteArray} {pc a b v : Nat} (h9 : (dkc c pc [184, a, b] && decide (a * 256 + b = v)) = true) : decode c pc = .ok (.invokestatic v, 3) := by
  obtain ⟨h, e⟩ := dk_an h9
  subst e
  exact dk_2 rfl (dk_u1 h).1 rfl (dk_u2 (dk_u1 h).2) rfl (by omega)
set_option maxRecDepth 100000 in
theorem dk_o187 {c : ByteArray} {pc a b v : Nat} (h9 : (dkc c pc [187, a, b] && decide (a * 256 + b = v)) = true) : decode c pc = .ok (.new v, 3) := by
  obtain ⟨h, e⟩ := dk_an h9
  subst e
  exact dk_2 rfl (dk_u1 h).1 rfl (dk_u2 (dk_u1 h).2) rfl (by omega)
set_option maxRecDepth 100000 in
theorem dk_o189 {c : ByteArray} {pc a b v : Nat} (h9 : (dkc c pc [189, a, b] && decide (a * 256 + b = v)) = true) : decode c pc = .ok (.anewarray v, 3) := by
  obtain ⟨h, e⟩ := dk_an h9
  subst e
  exact dk_2 rfl (dk_u1 h).1 rfl (dk_u2 (dk_u1 h).2) rfl (by omega)
set_option maxRecDepth 100000 in
theorem dk_o132 {c : ByteArray} {pc a b : Nat} {v : Int} (h9 : (dkc c pc [132, a, b] && decide (Jvm.ClassFile.Reader.signed 8 b = v)) = true) : decode c pc = .ok (.iinc a v, 3) := by
  obtain ⟨h, e⟩ := dk_an h9
  subst e
  exact dk_3 rfl (dk_u1 h).1 rfl (dk_u1 (dk_u1 h).2).1 rfl (dk_s1 (dk_u1 (dk_u1 h).2).2) rfl (by omega)
