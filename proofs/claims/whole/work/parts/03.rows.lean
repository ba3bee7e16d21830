/-! ROWS: an instruction each, over the layer -/
section RW1
variable {X : XT} {G : GG} {M : MD} {lv mc ms N0 : Nat} {cs sl : Nat} {Q : State → Prop} {N : Nat} {sh : SH} {f : MM} {pc : Nat} {ls : List (Option Value)} {st : List Value}
theorem r_iconst (C : Cx X G M lv mc ms N0) {n : Int} (v : Int32) (hd : decode M.2.2.1 pc = .ok (.iconst n, 1)) (hv : Int32.ofInt n = v) (K : Vw X G M.2.2.2.1 cs sl Q N sh f (pc + 1) ls (.int v :: st)) : Vw X G M.2.2.2.1 cs sl Q N sh f pc ls st :=
  fun H locs arr hP hz hS hl => lv_iconst C.1 C.2.1 hd hv (K H locs arr hP hz hS hl)
theorem r_bipush (C : Cx X G M lv mc ms N0) {n : Int} (v : Int32) (hd : decode M.2.2.1 pc = .ok (.bipush n, 2)) (hv : (Int8.ofInt n).toInt32 = v) (K : Vw X G M.2.2.2.1 cs sl Q N sh f (pc + 2) ls (.int v :: st)) : Vw X G M.2.2.2.1 cs sl Q N sh f pc ls st :=
  fun H locs arr hP hz hS hl => lv_bipush C.1 C.2.1 hd hv (K H locs arr hP hz hS hl)
theorem r_sipush (C : Cx X G M lv mc ms N0) {n : Int} (v : Int32) (hd : decode M.2.2.1 pc = .ok (.sipush n, 3)) (hv : (Int16.ofInt n).toInt32 = v) (K : Vw X G M.2.2.2.1 cs sl Q N sh f (pc + 3) ls (.int v :: st)) : Vw X G M.2.2.2.1 cs sl Q N sh f pc ls st :=
  fun H locs arr hP hz hS hl => lv_sipush C.1 C.2.1 hd hv (K H locs arr hP hz hS hl)
theorem r_ldc (C : Cx X G M lv mc ms N0) {idx : Nat} (v : Int32) (hw : Cond.constant M.1 idx v ∈ gw) (hd : decode M.2.2.1 pc = .ok (.ldc idx, 2)) (K : Vw X G M.2.2.2.1 cs sl Q N sh f (pc + 2) ls (.int v :: st)) : Vw X G M.2.2.2.1 cs sl Q N sh f pc ls st :=
  fun H locs arr hP hz hS hl => lv_ldc C.1 C.2.1 C.2.2.2.1 (C.2.2.2.2.1 _ hw) hd (K H locs arr hP hz hS hl)
theorem r_lconst (C : Cx X G M lv mc ms N0) {n : Fin 2} (v : Int64) (hd : decode M.2.2.1 pc = .ok (.lconst n, 1)) (hv : Int64.ofNat (n : Nat) = v) (K : Vw X G M.2.2.2.1 cs sl Q N sh f (pc + 1) ls (.long v :: st)) : Vw X G M.2.2.2.1 cs sl Q N sh f pc ls st :=
  fun H locs arr hP hz hS hl => lv_lconst C.1 C.2.1 hd hv (K H locs arr hP hz hS hl)
theorem r_ldc2 (C : Cx X G M lv mc ms N0) {idx : Nat} (v : Int64) (hw : Cond.constantLong M.1 idx v ∈ gw) (hd : decode M.2.2.1 pc = .ok (.ldc2_w idx, 3)) (K : Vw X G M.2.2.2.1 cs sl Q N sh f (pc + 3) ls (.long v :: st)) : Vw X G M.2.2.2.1 cs sl Q N sh f pc ls st :=
  fun H locs arr hP hz hS hl => W.ldc2 C.1 C.2.1 C.2.2.2.1 (C.2.2.2.2.1 _ hw) rfl hd (K H locs arr hP hz hS hl)
theorem r_iload_n (C : Cx X G M lv mc ms N0) {k : Fin 4} {x : Int32} (hd : decode M.2.2.1 pc = .ok (.iload_n k, 1)) (h : ls[(k : Nat)]? = some (some (.int x))) (K : Vw X G M.2.2.2.1 cs sl Q N sh f (pc + 1) ls (.int x :: st)) : Vw X G M.2.2.2.1 cs sl Q N sh f pc ls st :=
  fun H locs arr hP hz hS hl => lv_iload_n C.1 C.2.1 hd rfl (hl.at h) (K H locs arr hP hz hS hl)
theorem r_iload (C : Cx X G M lv mc ms N0) {i : Nat} {x : Int32} (hd : decode M.2.2.1 pc = .ok (.iload i, 2)) (h : ls[i]? = some (some (.int x))) (K : Vw X G M.2.2.2.1 cs sl Q N sh f (pc + 2) ls (.int x :: st)) : Vw X G M.2.2.2.1 cs sl Q N sh f pc ls st :=
  fun H locs arr hP hz hS hl => lv_iload C.1 C.2.1 hd (hl.at h) (K H locs arr hP hz hS hl)
theorem r_aload_n (C : Cx X G M lv mc ms N0) {k : Fin 4} {x : Nat} (hd : decode M.2.2.1 pc = .ok (.aload_n k, 1)) (h : ls[(k : Nat)]? = some (some (.ref x))) (K : Vw X G M.2.2.2.1 cs sl Q N sh f (pc + 1) ls (.ref x :: st)) : Vw X G M.2.2.2.1 cs sl Q N sh f pc ls st :=
  fun H locs arr hP hz hS hl => lv_aload_n C.1 C.2.1 hd rfl (hl.at h) (K H locs arr hP hz hS hl)
theorem r_aload (C : Cx X G M lv mc ms N0) {i : Nat} {x : Nat} (hd : decode M.2.2.1 pc = .ok (.aload i, 2)) (h : ls[i]? = some (some (.ref x))) (K : Vw X G M.2.2.2.1 cs sl Q N sh f (pc + 2) ls (.ref x :: st)) : Vw X G M.2.2.2.1 cs sl Q N sh f pc ls st :=
  fun H locs arr hP hz hS hl => lv_aload C.1 C.2.1 hd (hl.at h) (K H locs arr hP hz hS hl)
theorem r_st {X : XT} {nL pc2 : Nat} {i : Nat} {v : Value} (hi : i < nL) (hc : v.category = 1) (hn : noC2 ls = true)
    (go : ∀ (H : Heap) (locs : List Loc) (arr arr' : Array Slot), storeLocals arr i v = some arr' → W X.1 X.2.1 X.2.2.1 X.2.2.2.1 X.2.2.2.2.1 X.2.2.2.2.2.1 X.2.2.2.2.2.2.1 X.2.2.2.2.2.2.2.1 X.2.2.2.2.2.2.2.2.1 X.2.2.2.2.2.2.2.2.2 H locs cs sl Q (F0 X.2.2.2.2.2.1 pc2 arr' st) → W X.1 X.2.1 X.2.2.1 X.2.2.2.1 X.2.2.2.2.1 X.2.2.2.2.2.1 X.2.2.2.2.2.2.1 X.2.2.2.2.2.2.2.1 X.2.2.2.2.2.2.2.2.1 X.2.2.2.2.2.2.2.2.2 H locs cs sl Q (F0 X.2.2.2.2.2.1 pc arr (v :: st)))
    (K : Vw X G nL cs sl Q N sh f pc2 (ls.set i (some v)) st) : Vw X G nL cs sl Q N sh f pc ls (v :: st) := by
  intro H locs arr hP hz hS hl
  obtain ⟨arr', e, h1⟩ := hl.store hi hc hn
  exact go H locs arr arr' e (K H locs arr' hP hz hS h1)
end RW1
section RW2
variable {X : XT} {G : GG} {M : MD} {lv mc ms N0 : Nat} {cs sl : Nat} {Q : State → Prop} {N : Nat} {sh : SH} {f : MM} {pc : Nat} {ls : List (Option Value)} {st : List Value}
theorem r_istore_n (C : Cx X G M lv mc ms N0) {k : Fin 4} {x : Int32} (hd : decode M.2.2.1 pc = .ok (.istore_n k, 1)) (hi : (k : Nat) < M.2.2.2.1) (hn : noC2 ls = true) (K : Vw X G M.2.2.2.1 cs sl Q N sh f (pc + 1) (ls.set (k : Nat) (some (.int x))) st) : Vw X G M.2.2.2.1 cs sl Q N sh f pc ls (.int x :: st) := by
  refine r_st hi rfl hn (fun H locs arr arr' e k0 => ?_) K
  intro T hT XX
  obtain ⟨t, a, b⟩ := k0 T hT XX
  refine ⟨t, ?_, b⟩
  have hx := C.1
  have hb := C.2.1
  jvm_step XX.here [XX.here.top, ↓top_set XX.here.top, hx, hb, hd, e]
  exact a
theorem r_istore (C : Cx X G M lv mc ms N0) {i : Nat} {x : Int32} (hd : decode M.2.2.1 pc = .ok (.istore i, 2)) (hi : i < M.2.2.2.1) (hn : noC2 ls = true) (K : Vw X G M.2.2.2.1 cs sl Q N sh f (pc + 2) (ls.set i (some (.int x))) st) : Vw X G M.2.2.2.1 cs sl Q N sh f pc ls (.int x :: st) := by
  refine r_st hi rfl hn (fun H locs arr arr' e k0 => ?_) K
  intro T hT XX
  obtain ⟨t, a, b⟩ := k0 T hT XX
  refine ⟨t, ?_, b⟩
  have hx := C.1
  have hb := C.2.1
  jvm_step XX.here [XX.here.top, ↓top_set XX.here.top, hx, hb, hd, e]
  exact a
theorem r_astore_n (C : Cx X G M lv mc ms N0) {k : Fin 4} {x : Nat} (hd : decode M.2.2.1 pc = .ok (.astore_n k, 1)) (hi : (k : Nat) < M.2.2.2.1) (hn : noC2 ls = true) (K : Vw X G M.2.2.2.1 cs sl Q N sh f (pc + 1) (ls.set (k : Nat) (some (.ref x))) st) : Vw X G M.2.2.2.1 cs sl Q N sh f pc ls (.ref x :: st) := by
  refine r_st hi rfl hn (fun H locs arr arr' e k0 => ?_) K
  intro T hT XX
  obtain ⟨t, a, b⟩ := k0 T hT XX
  refine ⟨t, ?_, b⟩
  have hx := C.1
  have hb := C.2.1
  jvm_step XX.here [XX.here.top, ↓top_set XX.here.top, hx, hb, hd, e, Value.isRef]
  exact a
theorem r_astore (C : Cx X G M lv mc ms N0) {i : Nat} {x : Nat} (hd : decode M.2.2.1 pc = .ok (.astore i, 2)) (hi : i < M.2.2.2.1) (hn : noC2 ls = true) (K : Vw X G M.2.2.2.1 cs sl Q N sh f (pc + 2) (ls.set i (some (.ref x))) st) : Vw X G M.2.2.2.1 cs sl Q N sh f pc ls (.ref x :: st) := by
  refine r_st hi rfl hn (fun H locs arr arr' e k0 => ?_) K
  intro T hT XX
  obtain ⟨t, a, b⟩ := k0 T hT XX
  refine ⟨t, ?_, b⟩
  have hx := C.1
  have hb := C.2.1
  jvm_step XX.here [XX.here.top, ↓top_set XX.here.top, hx, hb, hd, e, Value.isRef]
  exact a
theorem r_iinc (C : Cx X G M lv mc ms N0) {i : Nat} {n : Int} {x : Int32} (v : Int32) (hd : decode M.2.2.1 pc = .ok (.iinc i n, 3)) (h : ls[i]? = some (some (.int x))) (hv : x + Int32.ofInt n = v) (hi : i < M.2.2.2.1) (hn : noC2 ls = true) (K : Vw X G M.2.2.2.1 cs sl Q N sh f (pc + 3) (ls.set i (some (.int v))) st) : Vw X G M.2.2.2.1 cs sl Q N sh f pc ls st := by
  intro H locs arr hP hz hS hl
  subst hv
  have hg := hl.at h
  obtain ⟨arr', e, h1⟩ := hl.store (v := .int (x + Int32.ofInt n)) hi rfl hn
  intro T hT XX
  obtain ⟨t, a, b⟩ := K H locs arr' hP hz hS h1 T hT XX
  refine ⟨t, ?_, b⟩
  have hx := C.1
  have hb := C.2.1
  jvm_step XX.here [XX.here.top, ↓top_set XX.here.top, hx, hb, hd, hg, e]
  exact a
end RW2
section RW3
variable {X : XT} {G : GG} {M : MD} {lv mc ms N0 : Nat} {cs sl : Nat} {Q : State → Prop} {N : Nat} {sh : SH} {f : MM} {pc : Nat} {ls : List (Option Value)} {st : List Value}
theorem r_iadd (C : Cx X G M lv mc ms N0) {x y : Int32} (hd : decode M.2.2.1 pc = .ok (.iadd, 1)) (K : Vw X G M.2.2.2.1 cs sl Q N sh f (pc + 1) ls (.int (x + y) :: st)) : Vw X G M.2.2.2.1 cs sl Q N sh f pc ls (.int y :: .int x :: st) :=
  fun H locs arr hP hz hS hl => lv_iadd C.1 C.2.1 hd (K H locs arr hP hz hS hl)
theorem r_isub (C : Cx X G M lv mc ms N0) {x y : Int32} (hd : decode M.2.2.1 pc = .ok (.isub, 1)) (K : Vw X G M.2.2.2.1 cs sl Q N sh f (pc + 1) ls (.int (x - y) :: st)) : Vw X G M.2.2.2.1 cs sl Q N sh f pc ls (.int y :: .int x :: st) :=
  fun H locs arr hP hz hS hl => lv_isub C.1 C.2.1 hd (K H locs arr hP hz hS hl)
theorem r_imul (C : Cx X G M lv mc ms N0) {x y : Int32} (hd : decode M.2.2.1 pc = .ok (.imul, 1)) (K : Vw X G M.2.2.2.1 cs sl Q N sh f (pc + 1) ls (.int (x * y) :: st)) : Vw X G M.2.2.2.1 cs sl Q N sh f pc ls (.int y :: .int x :: st) :=
  fun H locs arr hP hz hS hl => lv_imul C.1 C.2.1 hd (K H locs arr hP hz hS hl)
theorem r_iand (C : Cx X G M lv mc ms N0) {x y : Int32} (hd : decode M.2.2.1 pc = .ok (.iand, 1)) (K : Vw X G M.2.2.2.1 cs sl Q N sh f (pc + 1) ls (.int (x &&& y) :: st)) : Vw X G M.2.2.2.1 cs sl Q N sh f pc ls (.int y :: .int x :: st) :=
  fun H locs arr hP hz hS hl => lv_iand C.1 C.2.1 hd (K H locs arr hP hz hS hl)
theorem r_ixor (C : Cx X G M lv mc ms N0) {x y : Int32} (hd : decode M.2.2.1 pc = .ok (.ixor, 1)) (K : Vw X G M.2.2.2.1 cs sl Q N sh f (pc + 1) ls (.int (x ^^^ y) :: st)) : Vw X G M.2.2.2.1 cs sl Q N sh f pc ls (.int y :: .int x :: st) :=
  fun H locs arr hP hz hS hl => lv_ixor C.1 C.2.1 hd (K H locs arr hP hz hS hl)
theorem r_ior (C : Cx X G M lv mc ms N0) {x y : Int32} (hd : decode M.2.2.1 pc = .ok (.ior, 1)) (K : Vw X G M.2.2.2.1 cs sl Q N sh f (pc + 1) ls (.int (x ||| y) :: st)) : Vw X G M.2.2.2.1 cs sl Q N sh f pc ls (.int y :: .int x :: st) :=
  fun H locs arr hP hz hS hl => lv_ior C.1 C.2.1 hd (K H locs arr hP hz hS hl)
theorem r_ishl (C : Cx X G M lv mc ms N0) {x y : Int32} (hd : decode M.2.2.1 pc = .ok (.ishl, 1)) (K : Vw X G M.2.2.2.1 cs sl Q N sh f (pc + 1) ls (.int (x <<< (y &&& 31)) :: st)) : Vw X G M.2.2.2.1 cs sl Q N sh f pc ls (.int y :: .int x :: st) :=
  fun H locs arr hP hz hS hl => lv_ishl C.1 C.2.1 hd (K H locs arr hP hz hS hl)
theorem r_ishr (C : Cx X G M lv mc ms N0) {x y : Int32} (hd : decode M.2.2.1 pc = .ok (.ishr, 1)) (K : Vw X G M.2.2.2.1 cs sl Q N sh f (pc + 1) ls (.int (x >>> (y &&& 31)) :: st)) : Vw X G M.2.2.2.1 cs sl Q N sh f pc ls (.int y :: .int x :: st) :=
  fun H locs arr hP hz hS hl => lv_ishr C.1 C.2.1 hd (K H locs arr hP hz hS hl)
theorem r_idiv (C : Cx X G M lv mc ms N0) {x y : Int32} (hd : decode M.2.2.1 pc = .ok (.idiv, 1)) (hne : ¬ y = 0) (K : Vw X G M.2.2.2.1 cs sl Q N sh f (pc + 1) ls (.int (x / y) :: st)) : Vw X G M.2.2.2.1 cs sl Q N sh f pc ls (.int y :: .int x :: st) :=
  fun H locs arr hP hz hS hl => lv_idiv C.1 C.2.1 hd hne (K H locs arr hP hz hS hl)
theorem r_irem (C : Cx X G M lv mc ms N0) {x y : Int32} (hd : decode M.2.2.1 pc = .ok (.irem, 1)) (hne : ¬ y = 0) (K : Vw X G M.2.2.2.1 cs sl Q N sh f (pc + 1) ls (.int (x - x / y * y) :: st)) : Vw X G M.2.2.2.1 cs sl Q N sh f pc ls (.int y :: .int x :: st) :=
  fun H locs arr hP hz hS hl => lv_irem C.1 C.2.1 hd hne (K H locs arr hP hz hS hl)
theorem r_ineg (C : Cx X G M lv mc ms N0) {x : Int32} (hd : decode M.2.2.1 pc = .ok (.ineg, 1)) (K : Vw X G M.2.2.2.1 cs sl Q N sh f (pc + 1) ls (.int (-x) :: st)) : Vw X G M.2.2.2.1 cs sl Q N sh f pc ls (.int x :: st) :=
  fun H locs arr hP hz hS hl => lv_ineg C.1 C.2.1 hd (K H locs arr hP hz hS hl)
theorem r_i2l (C : Cx X G M lv mc ms N0) {x : Int32} (hd : decode M.2.2.1 pc = .ok (.i2l, 1)) (K : Vw X G M.2.2.2.1 cs sl Q N sh f (pc + 1) ls (.long x.toInt64 :: st)) : Vw X G M.2.2.2.1 cs sl Q N sh f pc ls (.int x :: st) :=
  fun H locs arr hP hz hS hl => lv_i2l C.1 C.2.1 hd rfl (K H locs arr hP hz hS hl)
theorem r_i2b (C : Cx X G M lv mc ms N0) {x : Int32} (hd : decode M.2.2.1 pc = .ok (.i2b, 1)) (K : Vw X G M.2.2.2.1 cs sl Q N sh f (pc + 1) ls (.int x.toInt8.toInt32 :: st)) : Vw X G M.2.2.2.1 cs sl Q N sh f pc ls (.int x :: st) :=
  fun H locs arr hP hz hS hl => lv_i2b C.1 C.2.1 hd rfl (K H locs arr hP hz hS hl)
theorem r_i2s (C : Cx X G M lv mc ms N0) {x : Int32} (hd : decode M.2.2.1 pc = .ok (.i2s, 1)) (K : Vw X G M.2.2.2.1 cs sl Q N sh f (pc + 1) ls (.int x.toInt16.toInt32 :: st)) : Vw X G M.2.2.2.1 cs sl Q N sh f pc ls (.int x :: st) :=
  fun H locs arr hP hz hS hl => lv_i2s C.1 C.2.1 hd rfl (K H locs arr hP hz hS hl)
theorem r_lsub (C : Cx X G M lv mc ms N0) {x y : Int64} (hd : decode M.2.2.1 pc = .ok (.lsub, 1)) (K : Vw X G M.2.2.2.1 cs sl Q N sh f (pc + 1) ls (.long (x - y) :: st)) : Vw X G M.2.2.2.1 cs sl Q N sh f pc ls (.long y :: .long x :: st) :=
  fun H locs arr hP hz hS hl => lv_lsub C.1 C.2.1 hd (K H locs arr hP hz hS hl)
theorem r_dup (C : Cx X G M lv mc ms N0) {va : Value} (hd : decode M.2.2.1 pc = .ok (.dup, 1)) (hva : va.category = 1) (K : Vw X G M.2.2.2.1 cs sl Q N sh f (pc + 1) ls (va :: va :: st)) : Vw X G M.2.2.2.1 cs sl Q N sh f pc ls (va :: st) :=
  fun H locs arr hP hz hS hl => lv_dup C.1 C.2.1 hd hva (K H locs arr hP hz hS hl)
theorem r_pop (C : Cx X G M lv mc ms N0) {va : Value} (hd : decode M.2.2.1 pc = .ok (.pop, 1)) (hva : va.category = 1) (K : Vw X G M.2.2.2.1 cs sl Q N sh f (pc + 1) ls (st)) : Vw X G M.2.2.2.1 cs sl Q N sh f pc ls (va :: st) :=
  fun H locs arr hP hz hS hl => lv_pop C.1 C.2.1 hd hva (K H locs arr hP hz hS hl)
theorem r_dup2 (C : Cx X G M lv mc ms N0) {va vb : Value} (hd : decode M.2.2.1 pc = .ok (.dup2, 1)) (hva : va.category = 1) (hvb : vb.category = 1) (K : Vw X G M.2.2.2.1 cs sl Q N sh f (pc + 1) ls (va :: vb :: va :: vb :: st)) : Vw X G M.2.2.2.1 cs sl Q N sh f pc ls (va :: vb :: st) :=
  fun H locs arr hP hz hS hl => lv_dup2_11 C.1 C.2.1 hd hva hvb (K H locs arr hP hz hS hl)
theorem r_dup_x1 (C : Cx X G M lv mc ms N0) {va vb : Value} (hd : decode M.2.2.1 pc = .ok (.dup_x1, 1)) (hva : va.category = 1) (hvb : vb.category = 1) (K : Vw X G M.2.2.2.1 cs sl Q N sh f (pc + 1) ls (va :: vb :: va :: st)) : Vw X G M.2.2.2.1 cs sl Q N sh f pc ls (va :: vb :: st) :=
  fun H locs arr hP hz hS hl => lv_dup_x1 C.1 C.2.1 hd hva hvb (K H locs arr hP hz hS hl)
theorem r_dup_x2 (C : Cx X G M lv mc ms N0) {va vb vd : Value} (hd : decode M.2.2.1 pc = .ok (.dup_x2, 1)) (hva : va.category = 1) (hvb : vb.category = 1) (hvd : vd.category = 1) (K : Vw X G M.2.2.2.1 cs sl Q N sh f (pc + 1) ls (va :: vb :: vd :: va :: st)) : Vw X G M.2.2.2.1 cs sl Q N sh f pc ls (va :: vb :: vd :: st) :=
  fun H locs arr hP hz hS hl => lv_dup_x2 C.1 C.2.1 hd hva hvb hvd (K H locs arr hP hz hS hl)
theorem r_if_eq (C : Cx X G M lv mc ms N0) {x : Int32} {off : Int} (tgt : Nat) (hd : decode M.2.2.1 pc = .ok (.ifCond .eq off, 3)) (ht : (pc : Int) + off = (tgt : Int)) (Kt : x = 0 → Vw X G M.2.2.2.1 cs sl Q N sh f tgt ls st) (Kf : ¬ x = 0 → Vw X G M.2.2.2.1 cs sl Q N sh f (pc + 3) ls st) : Vw X G M.2.2.2.1 cs sl Q N sh f pc ls (.int x :: st) :=
  fun H locs arr hP hz hS hl => lv_if_eq C.1 C.2.1 hd ht (fun h => Kt h H locs arr hP hz hS hl) (fun h => Kf h H locs arr hP hz hS hl)
theorem r_icmp_eq (C : Cx X G M lv mc ms N0) {x y : Int32} {off : Int} (tgt : Nat) (hd : decode M.2.2.1 pc = .ok (.if_icmp .eq off, 3)) (ht : (pc : Int) + off = (tgt : Int)) (Kt : x = y → Vw X G M.2.2.2.1 cs sl Q N sh f tgt ls st) (Kf : ¬ x = y → Vw X G M.2.2.2.1 cs sl Q N sh f (pc + 3) ls st) : Vw X G M.2.2.2.1 cs sl Q N sh f pc ls (.int y :: .int x :: st) :=
  fun H locs arr hP hz hS hl => lv_icmp_eq C.1 C.2.1 hd ht (fun h => Kt h H locs arr hP hz hS hl) (fun h => Kf h H locs arr hP hz hS hl)
theorem r_if_ne (C : Cx X G M lv mc ms N0) {x : Int32} {off : Int} (tgt : Nat) (hd : decode M.2.2.1 pc = .ok (.ifCond .ne off, 3)) (ht : (pc : Int) + off = (tgt : Int)) (Kt : ¬ x = 0 → Vw X G M.2.2.2.1 cs sl Q N sh f tgt ls st) (Kf : x = 0 → Vw X G M.2.2.2.1 cs sl Q N sh f (pc + 3) ls st) : Vw X G M.2.2.2.1 cs sl Q N sh f pc ls (.int x :: st) :=
  fun H locs arr hP hz hS hl => lv_if_ne C.1 C.2.1 hd ht (fun h => Kt h H locs arr hP hz hS hl) (fun h => Kf h H locs arr hP hz hS hl)
theorem r_icmp_ne (C : Cx X G M lv mc ms N0) {x y : Int32} {off : Int} (tgt : Nat) (hd : decode M.2.2.1 pc = .ok (.if_icmp .ne off, 3)) (ht : (pc : Int) + off = (tgt : Int)) (Kt : ¬ x = y → Vw X G M.2.2.2.1 cs sl Q N sh f tgt ls st) (Kf : x = y → Vw X G M.2.2.2.1 cs sl Q N sh f (pc + 3) ls st) : Vw X G M.2.2.2.1 cs sl Q N sh f pc ls (.int y :: .int x :: st) :=
  fun H locs arr hP hz hS hl => lv_icmp_ne C.1 C.2.1 hd ht (fun h => Kt h H locs arr hP hz hS hl) (fun h => Kf h H locs arr hP hz hS hl)
theorem r_if_lt (C : Cx X G M lv mc ms N0) {x : Int32} {off : Int} (tgt : Nat) (hd : decode M.2.2.1 pc = .ok (.ifCond .lt off, 3)) (ht : (pc : Int) + off = (tgt : Int)) (Kt : x < 0 → Vw X G M.2.2.2.1 cs sl Q N sh f tgt ls st) (Kf : ¬ x < 0 → Vw X G M.2.2.2.1 cs sl Q N sh f (pc + 3) ls st) : Vw X G M.2.2.2.1 cs sl Q N sh f pc ls (.int x :: st) :=
  fun H locs arr hP hz hS hl => lv_if_lt C.1 C.2.1 hd ht (fun h => Kt h H locs arr hP hz hS hl) (fun h => Kf h H locs arr hP hz hS hl)
theorem r_icmp_lt (C : Cx X G M lv mc ms N0) {x y : Int32} {off : Int} (tgt : Nat) (hd : decode M.2.2.1 pc = .ok (.if_icmp .lt off, 3)) (ht : (pc : Int) + off = (tgt : Int)) (Kt : x < y → Vw X G M.2.2.2.1 cs sl Q N sh f tgt ls st) (Kf : ¬ x < y → Vw X G M.2.2.2.1 cs sl Q N sh f (pc + 3) ls st) : Vw X G M.2.2.2.1 cs sl Q N sh f pc ls (.int y :: .int x :: st) :=
  fun H locs arr hP hz hS hl => lv_icmp_lt C.1 C.2.1 hd ht (fun h => Kt h H locs arr hP hz hS hl) (fun h => Kf h H locs arr hP hz hS hl)
theorem r_if_ge (C : Cx X G M lv mc ms N0) {x : Int32} {off : Int} (tgt : Nat) (hd : decode M.2.2.1 pc = .ok (.ifCond .ge off, 3)) (ht : (pc : Int) + off = (tgt : Int)) (Kt : 0 ≤ x → Vw X G M.2.2.2.1 cs sl Q N sh f tgt ls st) (Kf : ¬ 0 ≤ x → Vw X G M.2.2.2.1 cs sl Q N sh f (pc + 3) ls st) : Vw X G M.2.2.2.1 cs sl Q N sh f pc ls (.int x :: st) :=
  fun H locs arr hP hz hS hl => lv_if_ge C.1 C.2.1 hd ht (fun h => Kt h H locs arr hP hz hS hl) (fun h => Kf h H locs arr hP hz hS hl)
theorem r_icmp_ge (C : Cx X G M lv mc ms N0) {x y : Int32} {off : Int} (tgt : Nat) (hd : decode M.2.2.1 pc = .ok (.if_icmp .ge off, 3)) (ht : (pc : Int) + off = (tgt : Int)) (Kt : y ≤ x → Vw X G M.2.2.2.1 cs sl Q N sh f tgt ls st) (Kf : ¬ y ≤ x → Vw X G M.2.2.2.1 cs sl Q N sh f (pc + 3) ls st) : Vw X G M.2.2.2.1 cs sl Q N sh f pc ls (.int y :: .int x :: st) :=
  fun H locs arr hP hz hS hl => lv_icmp_ge C.1 C.2.1 hd ht (fun h => Kt h H locs arr hP hz hS hl) (fun h => Kf h H locs arr hP hz hS hl)
theorem r_if_gt (C : Cx X G M lv mc ms N0) {x : Int32} {off : Int} (tgt : Nat) (hd : decode M.2.2.1 pc = .ok (.ifCond .gt off, 3)) (ht : (pc : Int) + off = (tgt : Int)) (Kt : 0 < x → Vw X G M.2.2.2.1 cs sl Q N sh f tgt ls st) (Kf : ¬ 0 < x → Vw X G M.2.2.2.1 cs sl Q N sh f (pc + 3) ls st) : Vw X G M.2.2.2.1 cs sl Q N sh f pc ls (.int x :: st) :=
  fun H locs arr hP hz hS hl => lv_if_gt C.1 C.2.1 hd ht (fun h => Kt h H locs arr hP hz hS hl) (fun h => Kf h H locs arr hP hz hS hl)
theorem r_icmp_gt (C : Cx X G M lv mc ms N0) {x y : Int32} {off : Int} (tgt : Nat) (hd : decode M.2.2.1 pc = .ok (.if_icmp .gt off, 3)) (ht : (pc : Int) + off = (tgt : Int)) (Kt : y < x → Vw X G M.2.2.2.1 cs sl Q N sh f tgt ls st) (Kf : ¬ y < x → Vw X G M.2.2.2.1 cs sl Q N sh f (pc + 3) ls st) : Vw X G M.2.2.2.1 cs sl Q N sh f pc ls (.int y :: .int x :: st) :=
  fun H locs arr hP hz hS hl => lv_icmp_gt C.1 C.2.1 hd ht (fun h => Kt h H locs arr hP hz hS hl) (fun h => Kf h H locs arr hP hz hS hl)
theorem r_if_le (C : Cx X G M lv mc ms N0) {x : Int32} {off : Int} (tgt : Nat) (hd : decode M.2.2.1 pc = .ok (.ifCond .le off, 3)) (ht : (pc : Int) + off = (tgt : Int)) (Kt : x ≤ 0 → Vw X G M.2.2.2.1 cs sl Q N sh f tgt ls st) (Kf : ¬ x ≤ 0 → Vw X G M.2.2.2.1 cs sl Q N sh f (pc + 3) ls st) : Vw X G M.2.2.2.1 cs sl Q N sh f pc ls (.int x :: st) :=
  fun H locs arr hP hz hS hl => lv_if_le C.1 C.2.1 hd ht (fun h => Kt h H locs arr hP hz hS hl) (fun h => Kf h H locs arr hP hz hS hl)
theorem r_icmp_le (C : Cx X G M lv mc ms N0) {x y : Int32} {off : Int} (tgt : Nat) (hd : decode M.2.2.1 pc = .ok (.if_icmp .le off, 3)) (ht : (pc : Int) + off = (tgt : Int)) (Kt : x ≤ y → Vw X G M.2.2.2.1 cs sl Q N sh f tgt ls st) (Kf : ¬ x ≤ y → Vw X G M.2.2.2.1 cs sl Q N sh f (pc + 3) ls st) : Vw X G M.2.2.2.1 cs sl Q N sh f pc ls (.int y :: .int x :: st) :=
  fun H locs arr hP hz hS hl => lv_icmp_le C.1 C.2.1 hd ht (fun h => Kt h H locs arr hP hz hS hl) (fun h => Kf h H locs arr hP hz hS hl)
theorem r_goto (C : Cx X G M lv mc ms N0) {off : Int} (tgt : Nat) (hd : decode M.2.2.1 pc = .ok (.goto off, 3)) (ht : (pc : Int) + off = (tgt : Int)) (K : Vw X G M.2.2.2.1 cs sl Q N sh f tgt ls st) : Vw X G M.2.2.2.1 cs sl Q N sh f pc ls st :=
  fun H locs arr hP hz hS hl => lv_goto C.1 C.2.1 hd ht (K H locs arr hP hz hS hl)
theorem r_ifnonnull (C : Cx X G M lv mc ms N0) {x : Nat} {off : Int} (tgt : Nat) (hd : decode M.2.2.1 pc = .ok (.ifnonnull off, 3)) (ht : (pc : Int) + off = (tgt : Int)) (K : Vw X G M.2.2.2.1 cs sl Q N sh f tgt ls st) : Vw X G M.2.2.2.1 cs sl Q N sh f pc ls (.ref x :: st) :=
  fun H locs arr hP hz hS hl => lv_ifnonnull C.1 C.2.1 hd ht (K H locs arr hP hz hS hl)
theorem r_ifnonnullN (C : Cx X G M lv mc ms N0) {off : Int} (hd : decode M.2.2.1 pc = .ok (.ifnonnull off, 3)) (K : Vw X G M.2.2.2.1 cs sl Q N sh f (pc + 3) ls st) : Vw X G M.2.2.2.1 cs sl Q N sh f pc ls (.null :: st) :=
  fun H locs arr hP hz hS hl => lv_ifnonnullN C.1 C.2.1 hd (K H locs arr hP hz hS hl)
theorem r_tableIn (C : Cx X G M lv mc ms N0) {dflt lo hi : Int} {offs : Array Int} {len : Nat} {x : Int32} {off : Int} (tgt : Nat) (hd : decode M.2.2.1 pc = .ok (.tableswitch dflt lo hi offs, len)) (h1 : ¬ x.toInt < lo) (h2 : ¬ hi < x.toInt) (ho : offs[(x.toInt - lo).toNat]? = some off) (ht : (pc : Int) + off = (tgt : Int)) (K : Vw X G M.2.2.2.1 cs sl Q N sh f tgt ls st) : Vw X G M.2.2.2.1 cs sl Q N sh f pc ls (.int x :: st) :=
  fun H locs arr hP hz hS hl => lv_tableIn C.1 C.2.1 hd h1 h2 ho ht (K H locs arr hP hz hS hl)
theorem r_tableOut (C : Cx X G M lv mc ms N0) {dflt lo hi : Int} {offs : Array Int} {len : Nat} {x : Int32} (tgt : Nat) (hd : decode M.2.2.1 pc = .ok (.tableswitch dflt lo hi offs, len)) (h : x.toInt < lo ∨ hi < x.toInt) (ht : (pc : Int) + dflt = (tgt : Int)) (K : Vw X G M.2.2.2.1 cs sl Q N sh f tgt ls st) : Vw X G M.2.2.2.1 cs sl Q N sh f pc ls (.int x :: st) :=
  fun H locs arr hP hz hS hl => lv_tableOut C.1 C.2.1 hd h ht (K H locs arr hP hz hS hl)
theorem r_top {x : Int32} (K : ∀ y : Int32, y = x → Vw X G M.2.2.2.1 cs sl Q N sh f pc ls (.int y :: st)) : Vw X G M.2.2.2.1 cs sl Q N sh f pc ls (.int x :: st) := K x rfl
end RW3
