/-! THE JUDGEMENT V: the kit's W with the world, the locals and the stack as data, the walk's fixed things in one tuple.
Rows of this part are own work over the kit's rows (lv_, va_, W.). -/
abbrev vX : Type := Program × Launch × Env × State × MethodId × Array Value × List Frame × Method × Code × (State → Prop) × (Nat → Prop)
abbrev vX.p (X : vX) : Program := X.1
abbrev vX.l (X : vX) : Launch := X.2.1
abbrev vX.e (X : vX) : Env := X.2.2.1
abbrev vX.s (X : vX) : State := X.2.2.2.1
abbrev vX.m (X : vX) : MethodId := X.2.2.2.2.1
abbrev vX.args (X : vX) : Array Value := X.2.2.2.2.2.1
abbrev vX.below (X : vX) : List Frame := X.2.2.2.2.2.2.1
abbrev vX.meth (X : vX) : Method := X.2.2.2.2.2.2.2.1
abbrev vX.c (X : vX) : Code := X.2.2.2.2.2.2.2.2.1
abbrev vX.Q (X : vX) : State → Prop := X.2.2.2.2.2.2.2.2.2.1
abbrev vX.A (X : vX) : Nat → Prop := X.2.2.2.2.2.2.2.2.2.2
/-- classes' numbers and slots, the array classes -/
abbrev vG : Type := va_G × List (ClassId × FieldType)
def vC (G : vG) (X : vX) (cc : ByteArray) (nL : Nat) (own : String) : Prop :=
  X.p.tables.exec = Jvm.exec ∧ X.c.code = cc ∧ X.c.maxLocals = nL ∧ X.s.vm.findClass own = some X.m.cls ∧ (∀ w ∈ vT, w.before X.args X.s = true) ∧ va_K G.1 vwCl G.2 X.s ∧ (∀ q, X.s.heap.size ≤ q → X.A q) ∧ X.meth.locks = false
def V (G : vG) (X : vX) (R : Room) (cc : ByteArray) (nL : Nat) (own : String) (ws : va_W) (ce sl : Nat) (lv : List (Nat × Value)) (pc : Nat) (st : List Value) : Prop :=
  vC G X cc nL own → ∀ (H : Heap) (locs : List Loc) (ls : Array Slot), va_P G.1 vwCl ws H → va_D X.A ws → va_S X.A X.s.heap H locs → lv_has ls nL lv → W X.p X.l X.e R X.s X.m X.args X.below X.meth X.c H locs ce sl X.Q (F0 X.m pc ls st)
theorem v_fm {ws ws' : va_W} : ∀ {is : List Nat}, is.map (fun i => ws[i]?) = ws'.map some → is.filterMap (fun i => ws[i]?) = ws' := by
  intro is h
  have : is.filterMap (fun i => ws[i]?) = (is.map (fun i => ws[i]?)).filterMap id := by rw [List.filterMap_map]; rfl
  rw [this, h]
  simp
section VRows
variable {G : vG} {X : vX} {R : Room} {cc : ByteArray} {nL : Nat} {own : String} {ws : va_W} {ce sl : Nat} {lv : List (Nat × Value)} {pc : Nat} {st : List Value}

theorem v_iconst {n : Int} {v : Int32} (hdg : decode cc pc = .ok (.iconst n, 1)) (hv : Int32.ofInt n = v) (k : V G X R cc nL own ws ce sl lv (pc + 1) (.int v :: st)) : V G X R cc nL own ws ce sl lv pc st :=
  fun hC H locs ls hP hD hS hl => lv_iconst hC.1 hC.2.1 hdg hv (k hC H locs ls hP hD hS hl)
theorem v_bipush {n : Int} {v : Int32} (hdg : decode cc pc = .ok (.bipush n, 2)) (hv : (Int8.ofInt n).toInt32 = v) (k : V G X R cc nL own ws ce sl lv (pc + 2) (.int v :: st)) : V G X R cc nL own ws ce sl lv pc st :=
  fun hC H locs ls hP hD hS hl => lv_bipush hC.1 hC.2.1 hdg hv (k hC H locs ls hP hD hS hl)
theorem v_sipush {n : Int} {v : Int32} (hdg : decode cc pc = .ok (.sipush n, 3)) (hv : (Int16.ofInt n).toInt32 = v) (k : V G X R cc nL own ws ce sl lv (pc + 3) (.int v :: st)) : V G X R cc nL own ws ce sl lv pc st :=
  fun hC H locs ls hP hD hS hl => lv_sipush hC.1 hC.2.1 hdg hv (k hC H locs ls hP hD hS hl)
theorem v_lconst {n : Fin 2} {v : Int64} (hdg : decode cc pc = .ok (.lconst n, 1)) (hv : Int64.ofNat (n : Nat) = v) (k : V G X R cc nL own ws ce sl lv (pc + 1) (.long v :: st)) : V G X R cc nL own ws ce sl lv pc st :=
  fun hC H locs ls hP hD hS hl => lv_lconst hC.1 hC.2.1 hdg hv (k hC H locs ls hP hD hS hl)
theorem v_null  (hdg : decode cc pc = .ok (.aconst_null, 1)) (k : V G X R cc nL own ws ce sl lv (pc + 1) (.null :: st)) : V G X R cc nL own ws ce sl lv pc st :=
  fun hC H locs ls hP hD hS hl => lv_null hC.1 hC.2.1 hdg (k hC H locs ls hP hD hS hl)
theorem v_ldc {index : Nat} {v : Int32} (hk : Cond.constant own index v ∈ vT) (hdg : decode cc pc = .ok (.ldc index, 2)) (k : V G X R cc nL own ws ce sl lv (pc + 2) (.int v :: st)) : V G X R cc nL own ws ce sl lv pc st :=
  fun hC H locs ls hP hD hS hl => lv_ldc hC.1 hC.2.1 hC.2.2.2.1 (hC.2.2.2.2.1 _ hk) hdg (k hC H locs ls hP hD hS hl)
theorem v_ldcw {index : Nat} {v : Int32} (hk : Cond.constant own index v ∈ vT) (hdg : decode cc pc = .ok (.ldc_w index, 3)) (k : V G X R cc nL own ws ce sl lv (pc + 3) (.int v :: st)) : V G X R cc nL own ws ce sl lv pc st :=
  fun hC H locs ls hP hD hS hl => lv_ldcw hC.1 hC.2.1 hC.2.2.2.1 (hC.2.2.2.2.1 _ hk) hdg (k hC H locs ls hP hD hS hl)
theorem v_ldc2 {index : Nat} {v : Int64} (hk : Cond.constantLong own index v ∈ vT) (hdg : decode cc pc = .ok (.ldc2_w index, 3)) (k : V G X R cc nL own ws ce sl lv (pc + 3) (.long v :: st)) : V G X R cc nL own ws ce sl lv pc st :=
  fun hC H locs ls hP hD hS hl => lv_ldc2 hC.1 hC.2.1 hC.2.2.2.1 (hC.2.2.2.2.1 _ hk) hdg (k hC H locs ls hP hD hS hl)
theorem v_iload_n {k0 : Fin 4} {i : Nat} {x : Int32} (q : Nat) (hdg : decode cc pc = .ok (.iload_n k0, 1)) (hi : (k0 : Nat) = i) (hq : lv[q]? = some (i, .int x)) (k : V G X R cc nL own ws ce sl lv (pc + 1) (.int x :: st)) : V G X R cc nL own ws ce sl lv pc st :=
  fun hC H locs ls hP hD hS hl => lv_iload_n hC.1 hC.2.1 hdg hi (lv_at hl q hq) (k hC H locs ls hP hD hS hl)
theorem v_iload {i : Nat} {x : Int32} (q : Nat) (hdg : decode cc pc = .ok (.iload i, 2)) (hq : lv[q]? = some (i, .int x)) (k : V G X R cc nL own ws ce sl lv (pc + 2) (.int x :: st)) : V G X R cc nL own ws ce sl lv pc st :=
  fun hC H locs ls hP hD hS hl => lv_iload hC.1 hC.2.1 hdg (lv_at hl q hq) (k hC H locs ls hP hD hS hl)
theorem v_istore_n {lv' : List (Nat × Value)} {k0 : Fin 4} {i : Nat} {x : Int32} (hdg : decode cc pc = .ok (.istore_n k0, 1)) (hi : (k0 : Nat) = i) (hn : i < nL) (hf : (i, Value.int x) :: lv.filter (fun q => !(q.1 == i) && !(q.1 + 1 == i && q.2.category == 2)) = lv') (k : V G X R cc nL own ws ce sl lv' (pc + 1) st) : V G X R cc nL own ws ce sl lv pc (.int x :: st) :=
  fun hC H locs ls hP hD hS hl => lv_istore_n hC.1 hC.2.1 hdg hi hl hn hf (fun ls' hl' => k hC H locs ls' hP hD hS hl')
theorem v_istore {lv' : List (Nat × Value)} {i : Nat} {x : Int32} (hdg : decode cc pc = .ok (.istore i, 2)) (hn : i < nL) (hf : (i, Value.int x) :: lv.filter (fun q => !(q.1 == i) && !(q.1 + 1 == i && q.2.category == 2)) = lv') (k : V G X R cc nL own ws ce sl lv' (pc + 2) st) : V G X R cc nL own ws ce sl lv pc (.int x :: st) :=
  fun hC H locs ls hP hD hS hl => lv_istore hC.1 hC.2.1 hdg hl hn hf (fun ls' hl' => k hC H locs ls' hP hD hS hl')
theorem v_lload_n {k0 : Fin 4} {i : Nat} {x : Int64} (q : Nat) (hdg : decode cc pc = .ok (.lload_n k0, 1)) (hi : (k0 : Nat) = i) (hq : lv[q]? = some (i, .long x)) (k : V G X R cc nL own ws ce sl lv (pc + 1) (.long x :: st)) : V G X R cc nL own ws ce sl lv pc st :=
  fun hC H locs ls hP hD hS hl => lv_lload_n hC.1 hC.2.1 hdg hi (lv_at hl q hq) (k hC H locs ls hP hD hS hl)
theorem v_lload {i : Nat} {x : Int64} (q : Nat) (hdg : decode cc pc = .ok (.lload i, 2)) (hq : lv[q]? = some (i, .long x)) (k : V G X R cc nL own ws ce sl lv (pc + 2) (.long x :: st)) : V G X R cc nL own ws ce sl lv pc st :=
  fun hC H locs ls hP hD hS hl => lv_lload hC.1 hC.2.1 hdg (lv_at hl q hq) (k hC H locs ls hP hD hS hl)
theorem v_lstore_n {lv' : List (Nat × Value)} {k0 : Fin 4} {i : Nat} {x : Int64} (hdg : decode cc pc = .ok (.lstore_n k0, 1)) (hi : (k0 : Nat) = i) (hn : i + 1 < nL) (hf : (i, Value.long x) :: lv.filter (fun q => !(q.1 == i) && (!(q.1 == i + 1) && !(q.1 + 1 == i && q.2.category == 2))) = lv') (k : V G X R cc nL own ws ce sl lv' (pc + 1) st) : V G X R cc nL own ws ce sl lv pc (.long x :: st) :=
  fun hC H locs ls hP hD hS hl => lv_lstore_n hC.1 hC.2.1 hdg hi hl hn hf (fun ls' hl' => k hC H locs ls' hP hD hS hl')
theorem v_lstore {lv' : List (Nat × Value)} {i : Nat} {x : Int64} (hdg : decode cc pc = .ok (.lstore i, 2)) (hn : i + 1 < nL) (hf : (i, Value.long x) :: lv.filter (fun q => !(q.1 == i) && (!(q.1 == i + 1) && !(q.1 + 1 == i && q.2.category == 2))) = lv') (k : V G X R cc nL own ws ce sl lv' (pc + 2) st) : V G X R cc nL own ws ce sl lv pc (.long x :: st) :=
  fun hC H locs ls hP hD hS hl => lv_lstore hC.1 hC.2.1 hdg hl hn hf (fun ls' hl' => k hC H locs ls' hP hD hS hl')
theorem v_aload_n {k0 : Fin 4} {i : Nat} {x : Nat} (q : Nat) (hdg : decode cc pc = .ok (.aload_n k0, 1)) (hi : (k0 : Nat) = i) (hq : lv[q]? = some (i, .ref x)) (k : V G X R cc nL own ws ce sl lv (pc + 1) (.ref x :: st)) : V G X R cc nL own ws ce sl lv pc st :=
  fun hC H locs ls hP hD hS hl => lv_aload_n hC.1 hC.2.1 hdg hi (lv_at hl q hq) (k hC H locs ls hP hD hS hl)
theorem v_aload {i : Nat} {x : Nat} (q : Nat) (hdg : decode cc pc = .ok (.aload i, 2)) (hq : lv[q]? = some (i, .ref x)) (k : V G X R cc nL own ws ce sl lv (pc + 2) (.ref x :: st)) : V G X R cc nL own ws ce sl lv pc st :=
  fun hC H locs ls hP hD hS hl => lv_aload hC.1 hC.2.1 hdg (lv_at hl q hq) (k hC H locs ls hP hD hS hl)
theorem v_astore_n {lv' : List (Nat × Value)} {k0 : Fin 4} {i : Nat} {x : Nat} (hdg : decode cc pc = .ok (.astore_n k0, 1)) (hi : (k0 : Nat) = i) (hn : i < nL) (hf : (i, Value.ref x) :: lv.filter (fun q => !(q.1 == i) && !(q.1 + 1 == i && q.2.category == 2)) = lv') (k : V G X R cc nL own ws ce sl lv' (pc + 1) st) : V G X R cc nL own ws ce sl lv pc (.ref x :: st) :=
  fun hC H locs ls hP hD hS hl => lv_astore_n hC.1 hC.2.1 hdg hi hl hn hf (fun ls' hl' => k hC H locs ls' hP hD hS hl')
theorem v_astore {lv' : List (Nat × Value)} {i : Nat} {x : Nat} (hdg : decode cc pc = .ok (.astore i, 2)) (hn : i < nL) (hf : (i, Value.ref x) :: lv.filter (fun q => !(q.1 == i) && !(q.1 + 1 == i && q.2.category == 2)) = lv') (k : V G X R cc nL own ws ce sl lv' (pc + 2) st) : V G X R cc nL own ws ce sl lv pc (.ref x :: st) :=
  fun hC H locs ls hP hD hS hl => lv_astore hC.1 hC.2.1 hdg hl hn hf (fun ls' hl' => k hC H locs ls' hP hD hS hl')
theorem v_iinc {lv' : List (Nat × Value)} {i : Nat} {n : Int} {x v : Int32} (q : Nat) (hdg : decode cc pc = .ok (.iinc i n, 3)) (hq : lv[q]? = some (i, .int x)) (hv : x + Int32.ofInt n = v) (hn : i < nL) (hf : (i, Value.int v) :: lv.filter (fun q => !(q.1 == i) && !(q.1 + 1 == i && q.2.category == 2)) = lv') (k : V G X R cc nL own ws ce sl lv' (pc + 3) st) : V G X R cc nL own ws ce sl lv pc st :=
  fun hC H locs ls hP hD hS hl => lv_iinc hC.1 hC.2.1 hdg hl hq hv hn hf (fun ls' hl' => k hC H locs ls' hP hD hS hl')
theorem v_iadd {x y : Int32} (hdg : decode cc pc = .ok (.iadd, 1)) (k : V G X R cc nL own ws ce sl lv (pc + 1) (.int (x + y) :: st)) : V G X R cc nL own ws ce sl lv pc (.int y :: .int x :: st) :=
  fun hC H locs ls hP hD hS hl => lv_iadd hC.1 hC.2.1 hdg (k hC H locs ls hP hD hS hl)
theorem v_isub {x y : Int32} (hdg : decode cc pc = .ok (.isub, 1)) (k : V G X R cc nL own ws ce sl lv (pc + 1) (.int (x - y) :: st)) : V G X R cc nL own ws ce sl lv pc (.int y :: .int x :: st) :=
  fun hC H locs ls hP hD hS hl => lv_isub hC.1 hC.2.1 hdg (k hC H locs ls hP hD hS hl)
theorem v_imul {x y : Int32} (hdg : decode cc pc = .ok (.imul, 1)) (k : V G X R cc nL own ws ce sl lv (pc + 1) (.int (x * y) :: st)) : V G X R cc nL own ws ce sl lv pc (.int y :: .int x :: st) :=
  fun hC H locs ls hP hD hS hl => lv_imul hC.1 hC.2.1 hdg (k hC H locs ls hP hD hS hl)
theorem v_iand {x y : Int32} (hdg : decode cc pc = .ok (.iand, 1)) (k : V G X R cc nL own ws ce sl lv (pc + 1) (.int (x &&& y) :: st)) : V G X R cc nL own ws ce sl lv pc (.int y :: .int x :: st) :=
  fun hC H locs ls hP hD hS hl => lv_iand hC.1 hC.2.1 hdg (k hC H locs ls hP hD hS hl)
theorem v_ior {x y : Int32} (hdg : decode cc pc = .ok (.ior, 1)) (k : V G X R cc nL own ws ce sl lv (pc + 1) (.int (x ||| y) :: st)) : V G X R cc nL own ws ce sl lv pc (.int y :: .int x :: st) :=
  fun hC H locs ls hP hD hS hl => lv_ior hC.1 hC.2.1 hdg (k hC H locs ls hP hD hS hl)
theorem v_ixor {x y : Int32} (hdg : decode cc pc = .ok (.ixor, 1)) (k : V G X R cc nL own ws ce sl lv (pc + 1) (.int (x ^^^ y) :: st)) : V G X R cc nL own ws ce sl lv pc (.int y :: .int x :: st) :=
  fun hC H locs ls hP hD hS hl => lv_ixor hC.1 hC.2.1 hdg (k hC H locs ls hP hD hS hl)
theorem v_ishl {x y : Int32} (hdg : decode cc pc = .ok (.ishl, 1)) (k : V G X R cc nL own ws ce sl lv (pc + 1) (.int (x <<< (y &&& 31)) :: st)) : V G X R cc nL own ws ce sl lv pc (.int y :: .int x :: st) :=
  fun hC H locs ls hP hD hS hl => lv_ishl hC.1 hC.2.1 hdg (k hC H locs ls hP hD hS hl)
theorem v_ishr {x y : Int32} (hdg : decode cc pc = .ok (.ishr, 1)) (k : V G X R cc nL own ws ce sl lv (pc + 1) (.int (x >>> (y &&& 31)) :: st)) : V G X R cc nL own ws ce sl lv pc (.int y :: .int x :: st) :=
  fun hC H locs ls hP hD hS hl => lv_ishr hC.1 hC.2.1 hdg (k hC H locs ls hP hD hS hl)
theorem v_idiv {x y : Int32} (hdg : decode cc pc = .ok (.idiv, 1)) (hne : ¬ y = 0) (k : V G X R cc nL own ws ce sl lv (pc + 1) (.int (x / y) :: st)) : V G X R cc nL own ws ce sl lv pc (.int y :: .int x :: st) :=
  fun hC H locs ls hP hD hS hl => lv_idiv hC.1 hC.2.1 hdg hne (k hC H locs ls hP hD hS hl)
theorem v_irem {x y : Int32} (hdg : decode cc pc = .ok (.irem, 1)) (hne : ¬ y = 0) (k : V G X R cc nL own ws ce sl lv (pc + 1) (.int (x - x / y * y) :: st)) : V G X R cc nL own ws ce sl lv pc (.int y :: .int x :: st) :=
  fun hC H locs ls hP hD hS hl => lv_irem hC.1 hC.2.1 hdg hne (k hC H locs ls hP hD hS hl)
theorem v_iushr {x y v : Int32} (hdg : decode cc pc = .ok (.iushr, 1)) (hv : (x.toUInt32 >>> (y.toUInt32 &&& Int32.toUInt32 31)).toInt32 = v) (k : V G X R cc nL own ws ce sl lv (pc + 1) (.int v :: st)) : V G X R cc nL own ws ce sl lv pc (.int y :: .int x :: st) :=
  fun hC H locs ls hP hD hS hl => lv_iushr hC.1 hC.2.1 hdg hv (k hC H locs ls hP hD hS hl)
theorem v_ladd {x y : Int64} (hdg : decode cc pc = .ok (.ladd, 1)) (k : V G X R cc nL own ws ce sl lv (pc + 1) (.long (x + y) :: st)) : V G X R cc nL own ws ce sl lv pc (.long y :: .long x :: st) :=
  fun hC H locs ls hP hD hS hl => lv_ladd hC.1 hC.2.1 hdg (k hC H locs ls hP hD hS hl)
theorem v_lsub {x y : Int64} (hdg : decode cc pc = .ok (.lsub, 1)) (k : V G X R cc nL own ws ce sl lv (pc + 1) (.long (x - y) :: st)) : V G X R cc nL own ws ce sl lv pc (.long y :: .long x :: st) :=
  fun hC H locs ls hP hD hS hl => lv_lsub hC.1 hC.2.1 hdg (k hC H locs ls hP hD hS hl)
theorem v_lmul {x y : Int64} (hdg : decode cc pc = .ok (.lmul, 1)) (k : V G X R cc nL own ws ce sl lv (pc + 1) (.long (x * y) :: st)) : V G X R cc nL own ws ce sl lv pc (.long y :: .long x :: st) :=
  fun hC H locs ls hP hD hS hl => lv_lmul hC.1 hC.2.1 hdg (k hC H locs ls hP hD hS hl)
theorem v_land {x y : Int64} (hdg : decode cc pc = .ok (.land, 1)) (k : V G X R cc nL own ws ce sl lv (pc + 1) (.long (x &&& y) :: st)) : V G X R cc nL own ws ce sl lv pc (.long y :: .long x :: st) :=
  fun hC H locs ls hP hD hS hl => lv_land hC.1 hC.2.1 hdg (k hC H locs ls hP hD hS hl)
theorem v_lor {x y : Int64} (hdg : decode cc pc = .ok (.lor, 1)) (k : V G X R cc nL own ws ce sl lv (pc + 1) (.long (x ||| y) :: st)) : V G X R cc nL own ws ce sl lv pc (.long y :: .long x :: st) :=
  fun hC H locs ls hP hD hS hl => lv_lor hC.1 hC.2.1 hdg (k hC H locs ls hP hD hS hl)
theorem v_lxor {x y : Int64} (hdg : decode cc pc = .ok (.lxor, 1)) (k : V G X R cc nL own ws ce sl lv (pc + 1) (.long (x ^^^ y) :: st)) : V G X R cc nL own ws ce sl lv pc (.long y :: .long x :: st) :=
  fun hC H locs ls hP hD hS hl => lv_lxor hC.1 hC.2.1 hdg (k hC H locs ls hP hD hS hl)
theorem v_ldiv {x y : Int64} (hdg : decode cc pc = .ok (.ldiv, 1)) (hne : ¬ y = 0) (k : V G X R cc nL own ws ce sl lv (pc + 1) (.long (x / y) :: st)) : V G X R cc nL own ws ce sl lv pc (.long y :: .long x :: st) :=
  fun hC H locs ls hP hD hS hl => lv_ldiv hC.1 hC.2.1 hdg hne (k hC H locs ls hP hD hS hl)
theorem v_lrem {x y : Int64} (hdg : decode cc pc = .ok (.lrem, 1)) (hne : ¬ y = 0) (k : V G X R cc nL own ws ce sl lv (pc + 1) (.long (x - x / y * y) :: st)) : V G X R cc nL own ws ce sl lv pc (.long y :: .long x :: st) :=
  fun hC H locs ls hP hD hS hl => lv_lrem hC.1 hC.2.1 hdg hne (k hC H locs ls hP hD hS hl)
theorem v_lshl {x v : Int64} {y : Int32} (hdg : decode cc pc = .ok (.lshl, 1)) (hv : x <<< (y.toInt64 &&& 63) = v) (k : V G X R cc nL own ws ce sl lv (pc + 1) (.long v :: st)) : V G X R cc nL own ws ce sl lv pc (.int y :: .long x :: st) :=
  fun hC H locs ls hP hD hS hl => lv_lshl hC.1 hC.2.1 hdg hv (k hC H locs ls hP hD hS hl)
theorem v_lshr {x v : Int64} {y : Int32} (hdg : decode cc pc = .ok (.lshr, 1)) (hv : x >>> (y.toInt64 &&& 63) = v) (k : V G X R cc nL own ws ce sl lv (pc + 1) (.long v :: st)) : V G X R cc nL own ws ce sl lv pc (.int y :: .long x :: st) :=
  fun hC H locs ls hP hD hS hl => lv_lshr hC.1 hC.2.1 hdg hv (k hC H locs ls hP hD hS hl)
theorem v_lushr {x v : Int64} {y : Int32} (hdg : decode cc pc = .ok (.lushr, 1)) (hv : (x.toUInt64 >>> (y.toInt64.toUInt64 &&& Int64.toUInt64 63)).toInt64 = v) (k : V G X R cc nL own ws ce sl lv (pc + 1) (.long v :: st)) : V G X R cc nL own ws ce sl lv pc (.int y :: .long x :: st) :=
  fun hC H locs ls hP hD hS hl => lv_lushr hC.1 hC.2.1 hdg hv (k hC H locs ls hP hD hS hl)
theorem v_ineg {x : Int32} (hdg : decode cc pc = .ok (.ineg, 1)) (k : V G X R cc nL own ws ce sl lv (pc + 1) (.int (-x) :: st)) : V G X R cc nL own ws ce sl lv pc (.int x :: st) :=
  fun hC H locs ls hP hD hS hl => lv_ineg hC.1 hC.2.1 hdg (k hC H locs ls hP hD hS hl)
theorem v_lneg {x : Int64} (hdg : decode cc pc = .ok (.lneg, 1)) (k : V G X R cc nL own ws ce sl lv (pc + 1) (.long (-x) :: st)) : V G X R cc nL own ws ce sl lv pc (.long x :: st) :=
  fun hC H locs ls hP hD hS hl => lv_lneg hC.1 hC.2.1 hdg (k hC H locs ls hP hD hS hl)
theorem v_i2l {x : Int32} {v : Int64} (hdg : decode cc pc = .ok (.i2l, 1)) (hv : x.toInt64 = v) (k : V G X R cc nL own ws ce sl lv (pc + 1) (.long v :: st)) : V G X R cc nL own ws ce sl lv pc (.int x :: st) :=
  fun hC H locs ls hP hD hS hl => lv_i2l hC.1 hC.2.1 hdg hv (k hC H locs ls hP hD hS hl)
theorem v_l2i {x : Int64} {v : Int32} (hdg : decode cc pc = .ok (.l2i, 1)) (hv : x.toInt32 = v) (k : V G X R cc nL own ws ce sl lv (pc + 1) (.int v :: st)) : V G X R cc nL own ws ce sl lv pc (.long x :: st) :=
  fun hC H locs ls hP hD hS hl => lv_l2i hC.1 hC.2.1 hdg hv (k hC H locs ls hP hD hS hl)
theorem v_lcmp {x y : Int64} (hdg : decode cc pc = .ok (.lcmp, 1)) (k : V G X R cc nL own ws ce sl lv (pc + 1) (.int (lg_cmp x y) :: st)) : V G X R cc nL own ws ce sl lv pc (.long y :: .long x :: st) :=
  fun hC H locs ls hP hD hS hl => W.lcmp hC.1 hC.2.1 hdg (k hC H locs ls hP hD hS hl)
theorem v_dup {va : Value} (hdg : decode cc pc = .ok (.dup, 1)) (hva : va.category = 1) (k : V G X R cc nL own ws ce sl lv (pc + 1) (va :: va :: st)) : V G X R cc nL own ws ce sl lv pc (va :: st) :=
  fun hC H locs ls hP hD hS hl => lv_dup hC.1 hC.2.1 hdg hva (k hC H locs ls hP hD hS hl)
theorem v_pop {va : Value} (hdg : decode cc pc = .ok (.pop, 1)) (hva : va.category = 1) (k : V G X R cc nL own ws ce sl lv (pc + 1) st) : V G X R cc nL own ws ce sl lv pc (va :: st) :=
  fun hC H locs ls hP hD hS hl => lv_pop hC.1 hC.2.1 hdg hva (k hC H locs ls hP hD hS hl)
theorem v_pop2_2 {va : Value} (hdg : decode cc pc = .ok (.pop2, 1)) (hva : va.category = 2) (k : V G X R cc nL own ws ce sl lv (pc + 1) st) : V G X R cc nL own ws ce sl lv pc (va :: st) :=
  fun hC H locs ls hP hD hS hl => lv_pop2_2 hC.1 hC.2.1 hdg hva (k hC H locs ls hP hD hS hl)
theorem v_dup_x1 {va vb : Value} (hdg : decode cc pc = .ok (.dup_x1, 1)) (hva : va.category = 1) (hvb : vb.category = 1) (k : V G X R cc nL own ws ce sl lv (pc + 1) (va :: vb :: va :: st)) : V G X R cc nL own ws ce sl lv pc (va :: vb :: st) :=
  fun hC H locs ls hP hD hS hl => lv_dup_x1 hC.1 hC.2.1 hdg hva hvb (k hC H locs ls hP hD hS hl)
theorem v_dup_x2 {va vb vd : Value} (hdg : decode cc pc = .ok (.dup_x2, 1)) (hva : va.category = 1) (hvb : vb.category = 1) (hvd : vd.category = 1) (k : V G X R cc nL own ws ce sl lv (pc + 1) (va :: vb :: vd :: va :: st)) : V G X R cc nL own ws ce sl lv pc (va :: vb :: vd :: st) :=
  fun hC H locs ls hP hD hS hl => lv_dup_x2 hC.1 hC.2.1 hdg hva hvb hvd (k hC H locs ls hP hD hS hl)
theorem v_dup2_11 {va vb : Value} (hdg : decode cc pc = .ok (.dup2, 1)) (hva : va.category = 1) (hvb : vb.category = 1) (k : V G X R cc nL own ws ce sl lv (pc + 1) (va :: vb :: va :: vb :: st)) : V G X R cc nL own ws ce sl lv pc (va :: vb :: st) :=
  fun hC H locs ls hP hD hS hl => lv_dup2_11 hC.1 hC.2.1 hdg hva hvb (k hC H locs ls hP hD hS hl)
theorem v_dup2_2 {va : Value} (hdg : decode cc pc = .ok (.dup2, 1)) (hva : va.category = 2) (k : V G X R cc nL own ws ce sl lv (pc + 1) (va :: va :: st)) : V G X R cc nL own ws ce sl lv pc (va :: st) :=
  fun hC H locs ls hP hD hS hl => lv_dup2_2 hC.1 hC.2.1 hdg hva (k hC H locs ls hP hD hS hl)
theorem v_dup2_x1_2 {va vb : Value} (hdg : decode cc pc = .ok (.dup2_x1, 1)) (hva : va.category = 2) (hvb : vb.category = 1) (k : V G X R cc nL own ws ce sl lv (pc + 1) (va :: vb :: va :: st)) : V G X R cc nL own ws ce sl lv pc (va :: vb :: st) :=
  fun hC H locs ls hP hD hS hl => lv_dup2_x1_2 hC.1 hC.2.1 hdg hva hvb (k hC H locs ls hP hD hS hl)
theorem v_if_eq {x : Int32} {off : Int} {tgt : Nat} (hdg : decode cc pc = .ok (.ifCond .eq off, 3)) (ht : (pc : Int) + off = (tgt : Int)) (kt : x = 0 → V G X R cc nL own ws ce sl lv tgt st) (kf : ¬ x = 0 → V G X R cc nL own ws ce sl lv (pc + 3) st) : V G X R cc nL own ws ce sl lv pc (.int x :: st) :=
  fun hC H locs ls hP hD hS hl => lv_if_eq hC.1 hC.2.1 hdg ht (fun h => kt h hC H locs ls hP hD hS hl) (fun h => kf h hC H locs ls hP hD hS hl)
theorem v_icmp_eq {x y : Int32} {off : Int} {tgt : Nat} (hdg : decode cc pc = .ok (.if_icmp .eq off, 3)) (ht : (pc : Int) + off = (tgt : Int)) (kt : x = y → V G X R cc nL own ws ce sl lv tgt st) (kf : ¬ x = y → V G X R cc nL own ws ce sl lv (pc + 3) st) : V G X R cc nL own ws ce sl lv pc (.int y :: .int x :: st) :=
  fun hC H locs ls hP hD hS hl => lv_icmp_eq hC.1 hC.2.1 hdg ht (fun h => kt h hC H locs ls hP hD hS hl) (fun h => kf h hC H locs ls hP hD hS hl)
theorem v_if_ne {x : Int32} {off : Int} {tgt : Nat} (hdg : decode cc pc = .ok (.ifCond .ne off, 3)) (ht : (pc : Int) + off = (tgt : Int)) (kt : ¬ x = 0 → V G X R cc nL own ws ce sl lv tgt st) (kf : x = 0 → V G X R cc nL own ws ce sl lv (pc + 3) st) : V G X R cc nL own ws ce sl lv pc (.int x :: st) :=
  fun hC H locs ls hP hD hS hl => lv_if_ne hC.1 hC.2.1 hdg ht (fun h => kt h hC H locs ls hP hD hS hl) (fun h => kf h hC H locs ls hP hD hS hl)
theorem v_icmp_ne {x y : Int32} {off : Int} {tgt : Nat} (hdg : decode cc pc = .ok (.if_icmp .ne off, 3)) (ht : (pc : Int) + off = (tgt : Int)) (kt : ¬ x = y → V G X R cc nL own ws ce sl lv tgt st) (kf : x = y → V G X R cc nL own ws ce sl lv (pc + 3) st) : V G X R cc nL own ws ce sl lv pc (.int y :: .int x :: st) :=
  fun hC H locs ls hP hD hS hl => lv_icmp_ne hC.1 hC.2.1 hdg ht (fun h => kt h hC H locs ls hP hD hS hl) (fun h => kf h hC H locs ls hP hD hS hl)
theorem v_if_lt {x : Int32} {off : Int} {tgt : Nat} (hdg : decode cc pc = .ok (.ifCond .lt off, 3)) (ht : (pc : Int) + off = (tgt : Int)) (kt : x < 0 → V G X R cc nL own ws ce sl lv tgt st) (kf : ¬ x < 0 → V G X R cc nL own ws ce sl lv (pc + 3) st) : V G X R cc nL own ws ce sl lv pc (.int x :: st) :=
  fun hC H locs ls hP hD hS hl => lv_if_lt hC.1 hC.2.1 hdg ht (fun h => kt h hC H locs ls hP hD hS hl) (fun h => kf h hC H locs ls hP hD hS hl)
theorem v_icmp_lt {x y : Int32} {off : Int} {tgt : Nat} (hdg : decode cc pc = .ok (.if_icmp .lt off, 3)) (ht : (pc : Int) + off = (tgt : Int)) (kt : x < y → V G X R cc nL own ws ce sl lv tgt st) (kf : ¬ x < y → V G X R cc nL own ws ce sl lv (pc + 3) st) : V G X R cc nL own ws ce sl lv pc (.int y :: .int x :: st) :=
  fun hC H locs ls hP hD hS hl => lv_icmp_lt hC.1 hC.2.1 hdg ht (fun h => kt h hC H locs ls hP hD hS hl) (fun h => kf h hC H locs ls hP hD hS hl)
theorem v_if_ge {x : Int32} {off : Int} {tgt : Nat} (hdg : decode cc pc = .ok (.ifCond .ge off, 3)) (ht : (pc : Int) + off = (tgt : Int)) (kt : 0 ≤ x → V G X R cc nL own ws ce sl lv tgt st) (kf : ¬ 0 ≤ x → V G X R cc nL own ws ce sl lv (pc + 3) st) : V G X R cc nL own ws ce sl lv pc (.int x :: st) :=
  fun hC H locs ls hP hD hS hl => lv_if_ge hC.1 hC.2.1 hdg ht (fun h => kt h hC H locs ls hP hD hS hl) (fun h => kf h hC H locs ls hP hD hS hl)
theorem v_icmp_ge {x y : Int32} {off : Int} {tgt : Nat} (hdg : decode cc pc = .ok (.if_icmp .ge off, 3)) (ht : (pc : Int) + off = (tgt : Int)) (kt : y ≤ x → V G X R cc nL own ws ce sl lv tgt st) (kf : ¬ y ≤ x → V G X R cc nL own ws ce sl lv (pc + 3) st) : V G X R cc nL own ws ce sl lv pc (.int y :: .int x :: st) :=
  fun hC H locs ls hP hD hS hl => lv_icmp_ge hC.1 hC.2.1 hdg ht (fun h => kt h hC H locs ls hP hD hS hl) (fun h => kf h hC H locs ls hP hD hS hl)
theorem v_if_gt {x : Int32} {off : Int} {tgt : Nat} (hdg : decode cc pc = .ok (.ifCond .gt off, 3)) (ht : (pc : Int) + off = (tgt : Int)) (kt : 0 < x → V G X R cc nL own ws ce sl lv tgt st) (kf : ¬ 0 < x → V G X R cc nL own ws ce sl lv (pc + 3) st) : V G X R cc nL own ws ce sl lv pc (.int x :: st) :=
  fun hC H locs ls hP hD hS hl => lv_if_gt hC.1 hC.2.1 hdg ht (fun h => kt h hC H locs ls hP hD hS hl) (fun h => kf h hC H locs ls hP hD hS hl)
theorem v_icmp_gt {x y : Int32} {off : Int} {tgt : Nat} (hdg : decode cc pc = .ok (.if_icmp .gt off, 3)) (ht : (pc : Int) + off = (tgt : Int)) (kt : y < x → V G X R cc nL own ws ce sl lv tgt st) (kf : ¬ y < x → V G X R cc nL own ws ce sl lv (pc + 3) st) : V G X R cc nL own ws ce sl lv pc (.int y :: .int x :: st) :=
  fun hC H locs ls hP hD hS hl => lv_icmp_gt hC.1 hC.2.1 hdg ht (fun h => kt h hC H locs ls hP hD hS hl) (fun h => kf h hC H locs ls hP hD hS hl)
theorem v_if_le {x : Int32} {off : Int} {tgt : Nat} (hdg : decode cc pc = .ok (.ifCond .le off, 3)) (ht : (pc : Int) + off = (tgt : Int)) (kt : x ≤ 0 → V G X R cc nL own ws ce sl lv tgt st) (kf : ¬ x ≤ 0 → V G X R cc nL own ws ce sl lv (pc + 3) st) : V G X R cc nL own ws ce sl lv pc (.int x :: st) :=
  fun hC H locs ls hP hD hS hl => lv_if_le hC.1 hC.2.1 hdg ht (fun h => kt h hC H locs ls hP hD hS hl) (fun h => kf h hC H locs ls hP hD hS hl)
theorem v_icmp_le {x y : Int32} {off : Int} {tgt : Nat} (hdg : decode cc pc = .ok (.if_icmp .le off, 3)) (ht : (pc : Int) + off = (tgt : Int)) (kt : x ≤ y → V G X R cc nL own ws ce sl lv tgt st) (kf : ¬ x ≤ y → V G X R cc nL own ws ce sl lv (pc + 3) st) : V G X R cc nL own ws ce sl lv pc (.int y :: .int x :: st) :=
  fun hC H locs ls hP hD hS hl => lv_icmp_le hC.1 hC.2.1 hdg ht (fun h => kt h hC H locs ls hP hD hS hl) (fun h => kf h hC H locs ls hP hD hS hl)
theorem v_goto {off : Int} {tgt : Nat} (hdg : decode cc pc = .ok (.goto off, 3)) (ht : (pc : Int) + off = (tgt : Int)) (k : V G X R cc nL own ws ce sl lv tgt st) : V G X R cc nL own ws ce sl lv pc st :=
  fun hC H locs ls hP hD hS hl => lv_goto hC.1 hC.2.1 hdg ht (k hC H locs ls hP hD hS hl)
theorem v_tableIn {dflt lo hi : Int} {offs : Array Int} {len : Nat} {x : Int32} {off : Int} {tgt : Nat} (hdg : decode cc pc = .ok (.tableswitch dflt lo hi offs, len)) (h1 : ¬ x.toInt < lo) (h2 : ¬ hi < x.toInt) (ho : offs[(x.toInt - lo).toNat]? = some off) (ht : (pc : Int) + off = (tgt : Int)) (k : V G X R cc nL own ws ce sl lv tgt st) : V G X R cc nL own ws ce sl lv pc (.int x :: st) :=
  fun hC H locs ls hP hD hS hl => lv_tableIn hC.1 hC.2.1 hdg h1 h2 ho ht (k hC H locs ls hP hD hS hl)
theorem v_tableOut {dflt lo hi : Int} {offs : Array Int} {len : Nat} {x : Int32} {tgt : Nat} (hdg : decode cc pc = .ok (.tableswitch dflt lo hi offs, len)) (h : x.toInt < lo ∨ hi < x.toInt) (ht : (pc : Int) + dflt = (tgt : Int)) (k : V G X R cc nL own ws ce sl lv tgt st) : V G X R cc nL own ws ce sl lv pc (.int x :: st) :=
  fun hC H locs ls hP hD hS hl => lv_tableOut hC.1 hC.2.1 hdg h ht (k hC H locs ls hP hD hS hl)
theorem v_lookup {dflt : Int} {ps : Array (Int × Int)} {len : Nat} {x : Int32} {off : Int} {tgt : Nat} (hdg : decode cc pc = .ok (.lookupswitch dflt ps, len)) (hp : (ps.toList.zip (ps.toList.drop 1)).all (fun (a, next) => a.1 < next.1) = true) (ho : Op.lookupswitch.offset ps.toList dflt x.toInt = off) (ht : (pc : Int) + off = (tgt : Int)) (k : V G X R cc nL own ws ce sl lv tgt st) : V G X R cc nL own ws ce sl lv pc (.int x :: st) :=
  fun hC H locs ls hP hD hS hl => lv_lookup hC.1 hC.2.1 hdg hp ho ht (k hC H locs ls hP hD hS hl)
/-- the top of the stack by another term for it -/
theorem v_topi {x y : Int32} (h : x = y) (k : V G X R cc nL own ws ce sl lv pc (.int y :: st)) : V G X R cc nL own ws ce sl lv pc (.int x :: st) := h ▸ k
theorem v_topl {x y : Int64} (h : x = y) (k : V G X R cc nL own ws ce sl lv pc (.long y :: st)) : V G X R cc nL own ws ce sl lv pc (.long x :: st) := h ▸ k
theorem v_top {x y : Value} (h : x = y) (k : V G X R cc nL own ws ce sl lv pc (y :: st)) : V G X R cc nL own ws ce sl lv pc (x :: st) := h ▸ k
theorem v_ws {ws' : va_W} (h : ws = ws') (k : V G X R cc nL own ws' ce sl lv pc st) : V G X R cc nL own ws ce sl lv pc st := h ▸ k
theorem v_lv {lv' : List (Nat × Value)} (is : List Nat) (h : lv_pick lv is = lv') (k : V G X R cc nL own ws ce sl lv' pc st) : V G X R cc nL own ws ce sl lv pc st :=
  fun hC H locs ls hP hD hS hl => k hC H locs ls hP hD hS (lv_sub hl is h)
theorem v_widen {ce' sl' : Nat} (h1 : ce ≤ ce') (h2 : sl ≤ sl') (k : V G X R cc nL own ws ce' sl' lv pc st) : V G X R cc nL own ws ce sl lv pc st :=
  fun hC H locs ls hP hD hS hl => W.widen h1 h2 (k hC H locs ls hP hD hS hl)
/-- fewer cells, or the cells in another order -/
theorem v_sub {ws' : va_W} (is : List Nat) (hn : va_nd is = true) (h : is.map (fun i => ws[i]?) = ws'.map some) (k : V G X R cc nL own ws' ce sl lv pc st) : V G X R cc nL own ws ce sl lv pc st :=
  fun hC H locs ls hP hD hS hl => k hC H locs ls (hP.sub is (v_fm h)) (hD.sub is hn h) hS hl
end VRows
/-! HEAP ROWS, CALLS AND CONTRACTS over V -/
/-- field k of the objects of class number ci is what the entry 'index' of the class 'own' names -/
def vF (own : String) (index ci k : Nat) : Prop := ∃ (C : String) (T : u_T) (N : Nat), vwCl[ci]? = some (C, T, N) ∧ k < N ∧ (∀ w ∈ u_ws C T N, w ∈ vT) ∧ Cond.fieldLink own index (T k).1 (T k).2.1 (T k).2.2.1 ∈ vT
/-- ... it has the type ty, and is final or not -/
def vFw (own : String) (index ci k : Nat) (ty : FieldType) (fin : Bool) : Prop := ∃ (C : String) (T : u_T) (N : Nat) (ty0 : Nat → FieldType), vwCl[ci]? = some (C, T, N) ∧ k < N ∧ (∀ w ∈ u_ws C T N, w ∈ vT) ∧ Cond.fieldLink own index (T k).1 (T k).2.1 (T k).2.2.1 ∈ vT ∧
  (∀ k, k < N → parseFieldDescriptor (T k).2.2.1 = some (ty0 k)) ∧ (∀ a, a < N → ∀ b, b < N → a ≠ b → (T a).2.1 ≠ (T b).2.1) ∧ parseFieldDescriptor (T k).2.2.1 = some ty ∧ (T k).2.2.2 = fin ∧ (fin = true → (T k).1 = own)
/-- the cells at the places 'is' become those of the second list -/
def v_upds (ws : va_W) : List Nat → va_W → va_W
  | i :: is, w :: w1 => v_upds (ws.set i w) is w1
  | _, _ => ws
theorem v_upds_at {k : Nat} {q : Nat × va_E} : ∀ (is : List Nat) (ws w1 : va_W), (v_upds ws is w1)[k]? = some q → (∃ j : Nat, w1[j]? = some q ∧ is[j]? = some k) ∨ ws[k]? = some q ∧ (is.length ≤ w1.length → k ∉ is) := by
  intro is
  induction is with
  | nil => intro ws w1 h; exact Or.inr ⟨by simpa [v_upds] using h, fun _ => by simp⟩
  | cons i is ih =>
    intro ws w1 h
    cases w1 with
    | nil => exact Or.inr ⟨by simpa [v_upds] using h, fun hl => by simp at hl⟩
    | cons w w1 =>
      simp only [v_upds] at h
      rcases ih _ _ h with ⟨j, h1, h2⟩ | ⟨h1, h2⟩
      · exact Or.inl ⟨j + 1, by simpa using h1, by simpa using h2⟩
      · by_cases hk : k = i
        · subst hk
          have hl : k < (ws.set k w).length := (List.getElem?_eq_some_iff.mp h1).1
          rw [List.getElem?_set_self (by simpa using hl)] at h1
          cases h1
          exact Or.inl ⟨0, rfl, rfl⟩
        · rw [List.getElem?_set_ne (Ne.symm hk)] at h1
          exact Or.inr ⟨h1, fun hl => by simp only [List.length_cons, Nat.add_le_add_iff_right] at hl; simp [hk, h2 hl]⟩
theorem v_map_at {ws : va_W} {is : List Nat} {w : va_W} (hs : is.map (fun i => ws[i]?) = w.map some) {k i : Nat} (hi : is[k]? = some i) : ∃ q : Nat × va_E, w[k]? = some q ∧ ws[i]? = some q := by
  have h1 : (is.map (fun i => ws[i]?))[k]? = some (ws[i]?) := by rw [List.getElem?_map, hi]; rfl
  rw [hs, List.getElem?_map] at h1
  cases hq : w[k]? with
  | none => rw [hq] at h1; cases h1
  | some q => rw [hq] at h1; exact ⟨q, rfl, (Option.some.inj h1).symm⟩
theorem v_map_at' {ws : va_W} {is : List Nat} {w : va_W} (hs : is.map (fun i => ws[i]?) = w.map some) {k : Nat} {q : Nat × va_E} (hq : w[k]? = some q) : ∃ i, is[k]? = some i ∧ ws[i]? = some q := by
  have h1 : (is.map (fun i => ws[i]?))[k]? = some (some q) := by rw [hs, List.getElem?_map, hq]; rfl
  rw [List.getElem?_map] at h1
  cases hi : is[k]? with
  | none => rw [hi] at h1; cases h1
  | some i => rw [hi] at h1; exact ⟨i, rfl, Option.some.inj h1⟩
/-- what a call gives back, laid into the caller's world at its places -/
theorem v_back {A0 : Nat → Prop} {D : va_G} {cl : List vw_C} {ws W0 W1 : va_W} {H H1 : Heap} (hP : va_P D cl ws H) (hD : va_D A0 ws) (is : List Nat) (h0 : is.map (fun i => ws[i]?) = W0.map some) (hkey : W1.map Prod.fst = W0.map Prod.fst)
    (hk : ∀ q : Nat, q < H.size → ¬ va_A W0 H.size q → H1[q]? = H[q]?) (hP1 : va_P D cl W1 H1) : va_P D cl (v_upds ws is W1) H1 ∧ va_D A0 (v_upds ws is W1) := by
  have hlen : is.length ≤ W1.length := by
    have e1 := congrArg List.length h0
    have e2 := congrArg List.length hkey
    simp only [List.length_map] at e1 e2
    omega
  have keyAt : ∀ (j : Nat) (q : Nat × va_E), W1[j]? = some q → ∃ q0, W0[j]? = some q0 ∧ q0.1 = q.1 := by
    intro j q hq
    have h1 : (W1.map Prod.fst)[j]? = some q.1 := by rw [List.getElem?_map, hq]; rfl
    rw [hkey, List.getElem?_map] at h1
    cases hj : W0[j]? with
    | none => rw [hj] at h1; cases h1
    | some q0 => rw [hj] at h1; exact ⟨q0, rfl, Option.some.inj h1⟩
  have key : ∀ (k : Nat) (q : Nat × va_E), (v_upds ws is W1)[k]? = some q → ∃ q0, ws[k]? = some q0 ∧ q0.1 = q.1 := by
    intro k q hq
    rcases v_upds_at is ws W1 hq with ⟨j, h1, h2⟩ | ⟨h1, -⟩
    · obtain ⟨q0, h3, h4⟩ := keyAt j q h1
      obtain ⟨q1, h5, h6⟩ := v_map_at h0 h2
      rw [h3] at h5
      cases h5
      exact ⟨q0, h6, h4⟩
    · exact ⟨q, h1, rfl⟩
  refine ⟨fun k q hq => ?_, ⟨fun i j x y hi hj hxy => ?_, fun k q hq => ?_⟩⟩
  · rcases v_upds_at is ws W1 hq with ⟨j, h1, h2⟩ | ⟨h1, h2⟩
    · exact hP1 j q h1
    · have hlt := (hP k q h1).lt
      refine (hP k q h1).kept (hk q.1 hlt fun hA => ?_)
      rcases hA with ⟨j, e, hj⟩ | hA
      · obtain ⟨i, h3, h4⟩ := v_map_at' h0 hj
        have hik := hD.1 k i q (q.1, e) h1 h4 rfl
        subst hik
        exact h2 hlen (List.mem_of_getElem? h3)
      · omega
  · obtain ⟨x0, h1, h2⟩ := key i x hi
    obtain ⟨y0, h3, h4⟩ := key j y hj
    exact hD.1 i j x0 y0 h1 h3 (h2.trans (hxy.trans h4.symm))
  · obtain ⟨q0, h1, h2⟩ := key k q hq
    rw [← h2]
    exact hD.2 k q0 h1
/-- THE CONTRACT of a method that makes nothing: from the world W0 it answers 'o u' and leaves 'W1 u' (the same cells in the same order) for some u with 'post u' -/
def vPc (G : vG) (as : List Value) (W0 : va_W) (sz : Nat) : Array Value → State → Prop := va_Pc as (fun U => U.heap.size = sz ∧ va_P G.1 vwCl W0 U.heap ∧ va_K G.1 vwCl G.2 U ∧ va_D (fun _ => True) W0)
def vQc {S : Type} (G : vG) (W0 : va_W) (post : S → Prop) (o : S → Option Value) (W1 : S → va_W) (sz : Nat) : Array Value → State → Outcome → State → Prop := fun _ st oc t => (∃ u : S, post u ∧ oc = .returned (o u) ∧ va_P G.1 vwCl (W1 u) t.heap) ∧ va_F (va_A W0 sz) st t
def Fn {S : Type} (G : vG) (l : Launch) (y : MethodName) (cw : Cond) (rm : Room) (as : List Value) (W0 : va_W) (post : S → Prop) (o : S → Option Value) (W1 : S → va_W) : Prop :=
  ∀ sz : Nat, Met l y (cw :: vT) rm (vPc G as W0 sz) (vQc G W0 post o W1 sz) 0 0 (va_A W0 sz)
theorem vPc_blind {G : vG} {as : List Value} {W0 : va_W} {sz : Nat} : FrameBlind (vPc G as W0 sz) := fun a U g mk q => by
  obtain ⟨q0, q1, qP, qK, qD⟩ := q
  exact ⟨q0, q1, qP, va_K.moved (u := U) (U := U.calling g mk a) (Vm.Alike.refl U.vm) qK, qD⟩
theorem v_good {ws : List Cond} (h : ∀ w ∈ ws, w ∈ vT) : GoodIn vT ws := fun w hw => ⟨h w hw, vT_good w (h w hw)⟩
def vPlain (C : String) : Prop := C ≠ "java/lang/invoke/MethodHandle" ∧ C ≠ "java/lang/invoke/VarHandle"
/-- the words of a call: virtual, static, of a constructor (a nest mate's too) -/
def vMV (own : String) (index : Nat) (y : MethodName) (n : Nat) : Prop := Cond.methodLink own index y ∈ vT ∧ Cond.instanceMethod y ∈ vT ∧ Cond.selects y.cls y y ∈ vT ∧ Cond.initialized y.cls ∈ vT ∧ vPlain y.cls ∧ (parseMethodDescriptor y.desc).map (fun d => d.parameters.length) = some n
def vMS (own : String) (index : Nat) (y : MethodName) (n : Nat) : Prop := Cond.methodLink own index y ∈ vT ∧ Cond.static y ∈ vT ∧ Cond.initialized y.cls ∈ vT ∧ vPlain y.cls ∧ (parseMethodDescriptor y.desc).map (fun d => d.parameters.length) = some n
section VHeap
variable {G : vG} {X : vX} {R : Room} {cc : ByteArray} {nL : Nat} {own : String} {ws : va_W} {ce sl : Nat} {lv : List (Nat × Value)} {pc : Nat} {st : List Value}
theorem v_get {index ci k a : Nat} {fs : List Value} {v : Value} (hF : vF own index ci k) (q0 : Nat) (he : ws[q0]? = some (a, .inr (ci, fs))) (hv : fs[k]? = some v) (hdg : decode cc pc = .ok (.getfield index, 3)) (kk : V G X R cc nL own ws ce sl lv (pc + 3) (v :: st)) : V G X R cc nL own ws ce sl lv pc (.ref a :: st) := by
  intro hC H locs ls hP hD hS hl
  obtain ⟨C, T, N, hc, hk, hin, hlk⟩ := hF
  exact va_get hC.1 hC.2.1 hC.2.2.2.2.1 hin hC.2.2.2.1 hC.2.2.2.2.2.1 hP q0 he hc k hk (hC.2.2.2.2.1 _ hlk) (fun _ h => h) hv hdg (kk hC H locs ls hP hD hS hl)
theorem v_put {ws' : va_W} {index ci k a : Nat} {fs : List Value} {v : Value} {ty : FieldType} (hF : vFw own index ci k ty false) (q0 : Nat) (he : ws[q0]? = some (a, .inr (ci, fs))) (hn : narrow ty v = v) (hfit : fits ty v = true) (hl' : k < fs.length) (hdg : decode cc pc = .ok (.putfield index, 3)) (hw : ws.set q0 (a, .inr (ci, fs.set k v)) = ws') (kk : V G X R cc nL own ws' ce sl lv (pc + 3) st) : V G X R cc nL own ws ce sl lv pc (v :: .ref a :: st) := by
  intro hC H locs ls hP hD hS hl
  obtain ⟨C, T, N, ty0, hc, hk, hin, hlk, hty, hnm, hd, hfin, -⟩ := hF
  subst hw
  exact va_put hC.1 hC.2.1 hC.2.2.2.2.1 hin ty0 hty hnm hC.2.2.2.1 hC.2.2.2.2.2.1 hP hD hS q0 he hc k hk (hC.2.2.2.2.1 _ hlk) (fun _ h => h) hfin hd hn hfit hl' hdg (fun H1 locs1 hP1 hD1 hS1 => kk hC H1 locs1 ls hP1 hD1 hS1 hl)
theorem v_putF {ws' : va_W} {index ci k a : Nat} {fs : List Value} {v : Value} {ty : FieldType} (hi : X.meth.name = "<init>") (hF : vFw own index ci k ty true) (q0 : Nat) (he : ws[q0]? = some (a, .inr (ci, fs))) (hn : narrow ty v = v) (hfit : fits ty v = true) (hl' : k < fs.length) (hdg : decode cc pc = .ok (.putfield index, 3)) (hw : ws.set q0 (a, .inr (ci, fs.set k v)) = ws') (kk : V G X R cc nL own ws' ce sl lv (pc + 3) st) : V G X R cc nL own ws ce sl lv pc (v :: .ref a :: st) := by
  intro hC H locs ls hP hD hS hl
  obtain ⟨C, T, N, ty0, hc, hk, hin, hlk, hty, hnm, hd, hfin, hdecl⟩ := hF
  subst hw
  exact va_putF hC.1 hC.2.1 hC.2.2.2.2.1 hin ty0 hty hnm hC.2.2.2.1 hC.2.2.2.2.2.1 hP hD hS q0 he hc k hk (hC.2.2.2.2.1 _ hlk) (fun _ h => h) hfin hi (hdecl rfl) hd hn hfit hl' hdg (fun H1 locs1 hP1 hD1 hS1 => kk hC H1 locs1 ls hP1 hD1 hS1 hl)
theorem v_iald {a n : Nat} {cA : ClassId} {f : Nat → Int32} {j : Nat} (t0 q0 : Nat) (ht : G.2[t0]? = some (cA, .int)) (he : ws[q0]? = some (a, .inl (cA, n, .inl f))) (hj : j < n) (hn : n < 2 ^ 31) (hdg : decode cc pc = .ok (.iaload, 1)) (kk : V G X R cc nL own ws ce sl lv (pc + 1) (.int (f j) :: st)) : V G X R cc nL own ws ce sl lv pc (.int (nI j) :: .ref a :: st) := by
  intro hC H locs ls hP hD hS hl
  refine va_iald hC.1 hC.2.1 hC.2.2.2.2.2.1 hP q0 t0 he ht (vp_in_nI hj hn) hdg ?_
  rw [nI_clamp (by omega)]
  exact kk hC H locs ls hP hD hS hl
theorem v_lald {a n : Nat} {cA : ClassId} {f : Nat → Int64} {j : Nat} (t0 q0 : Nat) (ht : G.2[t0]? = some (cA, .long)) (he : ws[q0]? = some (a, .inl (cA, n, .inr (.inl f)))) (hj : j < n) (hn : n < 2 ^ 31) (hdg : decode cc pc = .ok (.laload, 1)) (kk : V G X R cc nL own ws ce sl lv (pc + 1) (.long (f j) :: st)) : V G X R cc nL own ws ce sl lv pc (.int (nI j) :: .ref a :: st) := by
  intro hC H locs ls hP hD hS hl
  refine va_lald hC.1 hC.2.1 hC.2.2.2.2.2.1 hP q0 t0 he ht (vp_in_nI hj hn) hdg ?_
  rw [nI_clamp (by omega)]
  exact kk hC H locs ls hP hD hS hl
theorem v_aald {a n : Nat} {cA : ClassId} {C : String} {f : Nat → Option Nat} {j : Nat} (t0 q0 : Nat) (ht : G.2[t0]? = some (cA, .object C)) (he : ws[q0]? = some (a, .inl (cA, n, .inr (.inr (.inr (.inr f)))))) (hj : j < n) (hn : n < 2 ^ 31) (hdg : decode cc pc = .ok (.aaload, 1)) (kk : V G X R cc nL own ws ce sl lv (pc + 1) (va_rf (f j) :: st)) : V G X R cc nL own ws ce sl lv pc (.int (nI j) :: .ref a :: st) := by
  intro hC H locs ls hP hD hS hl
  refine va_aldq hC.1 hC.2.1 hC.2.2.2.2.2.1 hP q0 t0 he ht (vp_in_nI hj hn) hdg ?_
  rw [nI_clamp (by omega)]
  exact kk hC H locs ls hP hD hS hl
theorem v_iast {ws' : va_W} {a n : Nat} {cA : ClassId} {f : Nat → Int32} {j : Nat} {x : Int32} (t0 q0 : Nat) (ht : G.2[t0]? = some (cA, .int)) (he : ws[q0]? = some (a, .inl (cA, n, .inl f))) (hj : j < n) (hn : n < 2 ^ 31) (hdg : decode cc pc = .ok (.iastore, 1)) (hw : ws.set q0 (a, .inl (cA, n, .inl (upd f j x))) = ws') (kk : V G X R cc nL own ws' ce sl lv (pc + 1) st) : V G X R cc nL own ws ce sl lv pc (.int x :: .int (nI j) :: .ref a :: st) := by
  intro hC H locs ls hP hD hS hl
  subst hw
  refine va_iast hC.1 hC.2.1 hC.2.2.2.2.2.1 hP hD hS q0 t0 he ht (vp_in_nI hj hn) hdg (fun H1 locs1 hP1 hD1 hS1 => ?_)
  rw [nI_clamp (by omega)] at hP1 hD1
  exact kk hC H1 locs1 ls hP1 hD1 hS1 hl
theorem v_last {ws' : va_W} {a n : Nat} {cA : ClassId} {f : Nat → Int64} {j : Nat} {x : Int64} (t0 q0 : Nat) (ht : G.2[t0]? = some (cA, .long)) (he : ws[q0]? = some (a, .inl (cA, n, .inr (.inl f)))) (hj : j < n) (hn : n < 2 ^ 31) (hdg : decode cc pc = .ok (.lastore, 1)) (hw : ws.set q0 (a, .inl (cA, n, .inr (.inl (vp_updL f j x)))) = ws') (kk : V G X R cc nL own ws' ce sl lv (pc + 1) st) : V G X R cc nL own ws ce sl lv pc (.long x :: .int (nI j) :: .ref a :: st) := by
  intro hC H locs ls hP hD hS hl
  subst hw
  refine va_last hC.1 hC.2.1 hC.2.2.2.2.2.1 hP hD hS q0 t0 he ht (vp_in_nI hj hn) hdg (fun H1 locs1 hP1 hD1 hS1 => ?_)
  rw [nI_clamp (by omega)] at hP1 hD1
  exact kk hC H1 locs1 ls hP1 hD1 hS1 hl
theorem v_alen {a : Nat} {cA : ClassId} {x : vp_A} {ty : FieldType} (t0 q0 : Nat) (ht : G.2[t0]? = some (cA, ty)) (he : ws[q0]? = some (a, .inl (cA, x))) (hdg : decode cc pc = .ok (.arraylength, 1)) (kk : V G X R cc nL own ws ce sl lv (pc + 1) (.int (nI x.1) :: st)) : V G X R cc nL own ws ce sl lv pc (.ref a :: st) :=
  fun hC H locs ls hP hD hS hl => va_alen hC.1 hC.2.1 hC.2.2.2.2.2.1 hP q0 t0 he ht (v := nI x.1) rfl hdg (kk hC H locs ls hP hD hS hl)
/-- behind a call: the answer on the stack, the callee's cells as it left them -/
theorem v_after {S : Type} {post : S → Prop} {W0 : va_W} {W1 ws' : S → va_W} {o : S → Option Value} {rest st0 : List Value} (is : List Nat) (h0 : is.map (fun i => ws[i]?) = W0.map some) (hkey : ∀ u, (W1 u).map Prod.fst = W0.map Prod.fst) (hw : ∀ u, v_upds ws is (W1 u) = ws' u)
    (hr : ∀ (H : Heap) (locs : List Loc) (ls : Array Slot), vC G X cc nL own → va_P G.1 vwCl ws H → va_D X.A ws → va_S X.A X.s.heap H locs → lv_has ls nL lv → ∃ Qa : State → Outcome → State → Prop, (∀ s0 o' t, Qa s0 o' t → (∃ u : S, post u ∧ o' = .returned (o u) ∧ va_P G.1 vwCl (W1 u) t.heap) ∧ va_F (va_A W0 H.size) s0 t) ∧ va_Run X.p X.l X.e R X.s X.m X.args X.below X.meth X.c H locs ce sl 0 0 (F0 X.m pc ls st0) rest Qa (va_A W0 H.size))
    (kk : ∀ u, post u → V G X R cc nL own (ws' u) ce sl lv (pc + 3) ((o u).toList ++ rest)) : V G X R cc nL own ws ce sl lv pc st0 := by
  intro hC H locs ls hP hD hS hl T hT XX
  obtain ⟨Qa, hQa, hrun⟩ := hr H locs ls hC hP hD hS hl
  obtain ⟨v, s0, t, T', L, e0, X', hL, e1, e2, hq, stp⟩ := hrun T hT XX
  obtain ⟨⟨u, hu, hv, hP1⟩, hz, hk⟩ := hQa _ _ _ hq
  cases hv
  rw [e0] at hz hk
  have hF : ∀ q, va_A W0 H.size q → X.A q := va_free hD hS hC.2.2.2.2.2.2.1 is h0
  obtain ⟨hP2, hD2⟩ := v_back hP hD is h0 (hkey u) (H1 := t.heap) hk hP1
  rw [hw u] at hP2 hD2
  have hS2 : va_S X.A X.s.heap t.heap (locs ++ L) := ⟨Nat.le_trans hS.1 hz, fun q h1 h2 => by
      rw [hk q (Nat.lt_of_lt_of_le h1 hS.1) (fun z => h2 (hF q z))]; exact hS.2.1 q h1 h2, fun q hq => by
      rcases List.mem_append.mp hq with h | h
      · exact hS.2.2 q h
      · exact hF _ (hL q h)⟩
  obtain ⟨t2, a1, b1⟩ := kk u hu hC t.heap (locs ++ L) ls hP2 hD2 hS2 hl T' e1 X'
  exact ⟨t2, stp t2 a1, b1⟩
theorem v_pre {W0 : va_W} {as : List Value} {H : Heap} (hC : vC G X cc nL own) (hP : va_P G.1 vwCl ws H) (hD : va_D X.A ws) (is : List Nat) (hn : va_nd is = true) (h0 : is.map (fun i => ws[i]?) = W0.map some) : PreS X.s H (vPc G as W0 H.size) as :=
  ⟨vPc_blind, fun U hU hW => ⟨rfl, by rw [hU], by rw [hU]; exact hP.sub is (v_fm h0), va_K.moved hW.alike hC.2.2.2.2.2.1, (hD.sub is hn h0).weaken (fun _ _ _ _ => trivial)⟩⟩
theorem v_callV {S : Type} {post : S → Prop} {index : Nat} {y : MethodName} {bytes : ByteArray} {maxL n : Nat} {ret : Option FieldType} {rm : Room} {as rest st0 : List Value} {b ci : Nat} {fs : List Value} {T : u_T} {N : Nat} {W0 : va_W} {W1 ws' : S → va_W} {o : S → Option Value} (hm : vMV own index y n) (hM : Fn G X.l y (.code y bytes maxL ret) rm (.ref b :: as) W0 post o W1) (hcode : Cond.code y bytes maxL ret ∈ vT) (is : List Nat) (qb : Nat) (hb : ws[qb]? = some (b, .inr (ci, fs))) (hc : vwCl[ci]? = some (y.cls, T, N))
    (hst : st0 = as.reverse ++ .ref b :: rest) (hlen : as.length = n) (hdg : decode cc pc = .ok (.invokevirtual index, 3)) (hroom : (rest.map fun v => v.category).sum ≤ 8) (hrm : rm.cells = 0 ∧ rm.slots = 0 ∧ rm.frames + 1 ≤ R.frames ∧ 8 + (maxL + 11) + rm.locals ≤ R.locals) (hce : ce ≤ R.cells ∧ sl ≤ R.slots)
    (hn : va_nd is = true) (h0 : is.map (fun i => ws[i]?) = W0.map some) (hkey : ∀ u, (W1 u).map Prod.fst = W0.map Prod.fst) (hw : ∀ u, v_upds ws is (W1 u) = ws' u) (kk : ∀ u, post u → V G X R cc nL own (ws' u) ce sl lv (pc + 3) ((o u).toList ++ rest)) : V G X R cc nL own ws ce sl lv pc st0 := by
  refine v_after (o := o) is h0 hkey hw (fun H locs ls hC hP hD hS hl => ?_) kk
  obtain ⟨m1, m2, m3, m4, m5, m6⟩ := hm
  refine ⟨_, fun _ _ _ h => h, va_runV (As := as) (rest := rest) ⟨hC.1, hC.2.1, hC.2.2.1, hC.2.2.2.1, hC.2.2.2.2.1⟩ (hM H.size) (cwV n hC.2.2.2.2.1 (v_good ?_) rfl hrm.1 hrm.2.1 ⟨rfl, m5.1, m5.2, m6⟩ hrm.2.2) ⟨vPc_blind, va_recv hC.2.2.2.2.2.1 hP hc hb, (v_pre hC hP hD is hn h0).2⟩ rfl hlen hl.1 hst (lv_room hroom) hdg hce⟩
  intro w hw
  simp only [wsV, List.cons_append, List.nil_append, List.mem_cons] at hw
  rcases hw with rfl | rfl | rfl | rfl | rfl | hw
  · exact m1
  · exact m2
  · exact m3
  · exact m4
  · exact hcode
  · exact hw
theorem v_callS {S : Type} {post : S → Prop} {index : Nat} {y : MethodName} {bytes : ByteArray} {maxL n : Nat} {ret : Option FieldType} {rm : Room} {as rest st0 : List Value} {W0 : va_W} {W1 ws' : S → va_W} {o : S → Option Value} (hm : vMS own index y n) (hM : Fn G X.l y (.code y bytes maxL ret) rm as W0 post o W1) (hcode : Cond.code y bytes maxL ret ∈ vT) (is : List Nat)
    (hst : st0 = as.reverse ++ rest) (hlen : as.length = n) (hdg : decode cc pc = .ok (.invokestatic index, 3)) (hroom : (rest.map fun v => v.category).sum ≤ 8) (hrm : rm.cells = 0 ∧ rm.slots = 0 ∧ rm.frames + 1 ≤ R.frames ∧ 8 + (maxL + 11) + rm.locals ≤ R.locals) (hce : ce ≤ R.cells ∧ sl ≤ R.slots)
    (hn : va_nd is = true) (h0 : is.map (fun i => ws[i]?) = W0.map some) (hkey : ∀ u, (W1 u).map Prod.fst = W0.map Prod.fst) (hw : ∀ u, v_upds ws is (W1 u) = ws' u) (kk : ∀ u, post u → V G X R cc nL own (ws' u) ce sl lv (pc + 3) ((o u).toList ++ rest)) : V G X R cc nL own ws ce sl lv pc st0 := by
  refine v_after (o := o) is h0 hkey hw (fun H locs ls hC hP hD hS hl => ?_) kk
  obtain ⟨m1, m2, m4, m5, m6⟩ := hm
  refine ⟨_, fun _ _ _ h => h, va_runS (As := as) (rest := rest) ⟨hC.1, hC.2.1, hC.2.2.1, hC.2.2.2.1, hC.2.2.2.2.1⟩ (hM H.size) (va_cwS n hC.2.2.2.2.1 (v_good ?_) rfl hrm.1 hrm.2.1 ⟨m5.1, m5.2, m6⟩ hrm.2.2) (v_pre hC hP hD is hn h0) rfl hlen hl.1 hst (lv_room hroom) hdg hce⟩
  intro w hw
  simp only [va_wsS, List.cons_append, List.nil_append, List.mem_cons] at hw
  rcases hw with rfl | rfl | rfl | rfl | hw
  · exact m1
  · exact m2
  · exact m4
  · exact hcode
  · exact hw
/-- the end that a walk of this contract is to reach -/
def vE {S : Type} (G : vG) (X : vX) (ret : Option FieldType) (W0 : va_W) (post : S → Prop) (o : S → Option Value) (W1 : S → va_W) : Prop := X.Q = MQ X.below (vQc G W0 post o W1 X.s.heap.size) X.args X.s 0 0 (va_A W0 X.s.heap.size) ∧ X.A = va_A W0 X.s.heap.size ∧ X.meth.sig.returnType = ret
theorem v_iret {S : Type} {post : S → Prop} {o : S → Option Value} {v : Int32} {W0 : va_W} {W1 : S → va_W} (hE : vE G X (some .int) W0 post o W1) (hdg : decode cc pc = .ok (.ireturn, 1)) (u : S) (hu : post u) (ho : o u = some (.int v)) (hw : ws = W1 u) : V G X R cc nL own ws 0 0 lv pc [.int v] := by
  subst hw
  intro hC H locs ls hP hD hS hl
  obtain ⟨e1, e2, e3⟩ := hE
  rw [e2] at hS
  rw [e1]
  exact W.iret hC.1 hC.2.1 e3 (fun t ht _ => ⟨⟨u, hu, by rw [ho], by rw [ht]; exact hP⟩, hS.F ht⟩) hS.2.2 hdg hC.2.2.2.2.2.2.2
theorem v_zret {S : Type} {post : S → Prop} {o : S → Option Value} {v : Int32} {W0 : va_W} {W1 : S → va_W} (hE : vE G X (some .boolean) W0 post o W1) (hn : narrow .boolean (.int v) = .int v) (hdg : decode cc pc = .ok (.ireturn, 1)) (u : S) (hu : post u) (ho : o u = some (.int v)) (hw : ws = W1 u) : V G X R cc nL own ws 0 0 lv pc [.int v] := by
  subst hw
  intro hC H locs ls hP hD hS hl
  obtain ⟨e1, e2, e3⟩ := hE
  rw [e2] at hS
  rw [e1]
  exact W.zret hC.1 hC.2.1 e3 hn (fun t ht _ => ⟨⟨u, hu, by rw [ho], by rw [ht]; exact hP⟩, hS.F ht⟩) hS.2.2 hdg hC.2.2.2.2.2.2.2
theorem v_lret {S : Type} {post : S → Prop} {o : S → Option Value} {v : Int64} {W0 : va_W} {W1 : S → va_W} (hE : vE G X (some .long) W0 post o W1) (hdg : decode cc pc = .ok (.lreturn, 1)) (u : S) (hu : post u) (ho : o u = some (.long v)) (hw : ws = W1 u) : V G X R cc nL own ws 0 0 lv pc [.long v] := by
  subst hw
  intro hC H locs ls hP hD hS hl
  obtain ⟨e1, e2, e3⟩ := hE
  rw [e2] at hS
  rw [e1]
  exact W.lret hC.1 hC.2.1 e3 (fun t ht _ => ⟨⟨u, hu, by rw [ho], by rw [ht]; exact hP⟩, hS.F ht⟩) hS.2.2 hdg hC.2.2.2.2.2.2.2
theorem v_vret {S : Type} {post : S → Prop} {o : S → Option Value} {W0 : va_W} {W1 : S → va_W} (hE : vE G X none W0 post o W1) (hdg : decode cc pc = .ok (.return_, 1)) (u : S) (hu : post u) (ho : o u = none) (hw : ws = W1 u) : V G X R cc nL own ws 0 0 lv pc [] := by
  subst hw
  intro hC H locs ls hP hD hS hl
  obtain ⟨e1, e2, e3⟩ := hE
  rw [e2] at hS
  rw [e1]
  exact W.vret hC.1 hC.2.1 e3 (fun t ht _ => ⟨⟨u, hu, by rw [ho], by rw [ht]; exact hP⟩, hS.F ht⟩) hS.2.2 hdg hC.2.2.2.2.2.2.2
end VHeap
/-- a contract out of a walk from the entry -/
theorem Fn.intro {S : Type} {post : S → Prop} {o : S → Option Value} {G : vG} {l : Launch} {y : MethodName} {bytes : ByteArray} {maxL : Nat} {ret : Option FieldType} {rm : Room} {as : List Value} {W0 : va_W} {W1 : S → va_W} (hy : plainName y.cls = true) (hlen : (lg_sl as).length ≤ maxL)
    (body : ∀ X : vX, X.l = l → vE G X ret W0 post o W1 → (y.name = "<init>" → X.meth.name = "<init>") → V G X rm bytes maxL y.cls W0 0 0 (lv_args 0 as) 0 []) : Fn G l y (.code y bytes maxL ret) rm as W0 post o W1 := by
  intro sz
  refine Met.ofW (cc := bytes) (maxL := maxL) (ret := ret) hy rfl ?_
  intro p e s m args below meth c s₁ B hml hv
  obtain ⟨rfl, hsz, hP, hK, hD0⟩ := hv
  subst hsz
  have hts := atoms_spec (ws := Cond.code y bytes maxL ret :: vT) B.pre
  have hl := lv_entry as (n := maxL) hlen
  rw [lg_entry_eq]
  refine body (p, l, e, s, m, as.toArray, below, meth, c, MQ below (vQc G W0 post o W1 s.heap.size) as.toArray s 0 0 (va_A W0 s.heap.size), va_A W0 s.heap.size) rfl ⟨rfl, rfl, B.returns⟩ (fun hn => ?_) ⟨B.exec, B.bytes, hml, findClass_of_methodNamed B.named, fun w hw => hts w (List.mem_cons_of_mem _ hw), hK, fun q h => Or.inr h, B.notSynchronized⟩ s.heap [] _ hP hD0.self va_S.rf hl
  exact (name_of_methodNamed B.named B.method).1.trans hn
