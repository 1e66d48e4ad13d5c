/-! THROWS over V: contracts of methods that return or throw (one cell of six slots is made at most) -/
def xN : List String := ["java/lang/IllegalStateException", "java/lang/IndexOutOfBoundsException", "java/lang/IllegalArgumentException", "java/util/NoSuchElementException"]
def xD : List MethodName := [Bundle.init0 "java/lang/RuntimeException", Bundle.init0 "java/lang/Exception", Bundle.init0 "java/lang/Throwable"]
def vz_E (U : State) : Prop := (∀ E ∈ xN, va_Nw (.castable E E) U) ∧ (∀ E ∈ xN, ∀ F ∈ xN, E ≠ F → va_Nc E F U) ∧ ∀ y ∈ xD, va_Nw (.declares y) U
theorem vz_E.warm {s U : State} (hW : s.WarmedH U.vm) (h : vz_E s) : vz_E U := ⟨fun E hE => va_Nw.warmC hW (h.1 E hE), fun E hE F hF hn => va_Nc.moved hW.alike (h.2.1 E hE F hF hn), fun y hy => va_Nw.warmD hW (h.2.2 y hy)⟩
def vz_T (A : Nat → Prop) (U : State) (H : Heap) : Prop := vx_Zq Bundle.tN "UNASSIGNED_STACK" Bundle.steD A U H ∧ vx_Zq Bundle.tN "SUPPRESSED_SENTINEL" Bundle.listD A U H
theorem vz_T.moved {A : Nat → Prop} {u U : State} {H : Heap} (hvm : u.vm.Alike U.vm) (h : vz_T A u H) : vz_T A U H := ⟨vx_Zq.moved hvm h.1, vx_Zq.moved hvm h.2⟩
theorem vz_T.kept {A : Nat → Prop} {U : State} {H H1 : Heap} (h : vz_T A U H) (hq : ∀ a : Nat, a < H.size → ¬ A a → H1[a]? = H[a]?) : vz_T A U H1 := ⟨vx_Zq.kept h.1 hq, vx_Zq.kept h.2 hq⟩
theorem vz_T.narrow {A B : Nat → Prop} {U : State} {H : Heap} (h : vz_T A U H) (hAB : ∀ q, B q → A q) : vz_T B U H := ⟨vx_Zq.narrow h.1 hAB, vx_Zq.narrow h.2 hAB⟩
def vZ (X : vX) : Prop := vz_E X.s ∧ vz_T X.A X.s X.s.heap ∧ X.l.stackTraces = false
def vPx (G : vG) (as : List Value) (W0 : va_W) (sz : Nat) : Array Value → State → Prop := va_Pc as (fun U => U.heap.size = sz ∧ va_P G.1 vwCl W0 U.heap ∧ va_K G.1 vwCl G.2 U ∧ va_D (fun _ => True) W0 ∧ vz_E U ∧ vz_T (va_A W0 sz) U U.heap)
def vXx {SX : Type} (G : vG) (W0 : va_W) (px : String → SX → Prop) (WX : SX → va_W) (sz : Nat) : String → State → State → Prop := fun E st t => (∃ u : SX, px E u ∧ va_P G.1 vwCl (WX u) t.heap) ∧ va_F (va_A W0 sz) st t
def FnX {S SX : Type} (G : vG) (l : Launch) (y : MethodName) (cw : Cond) (rm : Room) (as : List Value) (W0 : va_W) (post : S → Prop) (o : S → Option Value) (W1 : S → va_W) (px : String → SX → Prop) (WX : SX → va_W) : Prop :=
  ∀ sz : Nat, vx_Met l y (cw :: vT) rm (vPx G as W0 sz) (vQc G W0 post o W1 sz) (vXx G W0 px WX sz) 1 6 (va_A W0 sz)
theorem vPx_blind {G : vG} {as : List Value} {W0 : va_W} {sz : Nat} : FrameBlind (vPx G as W0 sz) := fun a U g mk q => by
  obtain ⟨q0, q1, qP, qK, qD, qE, qT⟩ := q
  exact ⟨q0, q1, qP, va_K.moved (u := U) (U := U.calling g mk a) (Vm.Alike.refl U.vm) qK, qD, vz_E.warm (U := U.calling g mk a) (State.WarmedH.refl U) qE, vz_T.moved (u := U) (U := U.calling g mk a) (Vm.Alike.refl U.vm) qT⟩
/-- a thrown object of class E over the frame at pc -/
def VX (G : vG) (X : vX) (R : Room) (cc : ByteArray) (nL : Nat) (own : String) (ws : va_W) (ce sl : Nat) (lv : List (Nat × Value)) (pc : Nat) (rest : List Value) (E : String) : Prop :=
  vC G X cc nL own → ∀ (H : Heap) (locs : List Loc) (ls : Array Slot) (q : Addr) (c9 : Cell), va_P G.1 vwCl ws H → va_D X.A ws → va_S X.A X.s.heap H locs → lv_has ls nL lv → H[q]? = some c9 → c9.vm = .none → X.s.vm.findClass E = some c9.cls → vx_W X.p X.l X.e R X.s X.m X.args X.below X.meth X.c H locs ce sl X.Q (F0 X.m pc ls rest) q
def vEx {S SX : Type} (G : vG) (X : vX) (ret : Option FieldType) (W0 : va_W) (post : S → Prop) (o : S → Option Value) (W1 : S → va_W) (px : String → SX → Prop) (WX : SX → va_W) : Prop :=
  X.Q = vx_MQ X.below (vQc G W0 post o W1 X.s.heap.size) (vXx G W0 px WX X.s.heap.size) X.args X.s 1 6 (va_A W0 X.s.heap.size) ∧ X.A = va_A W0 X.s.heap.size ∧ X.meth.sig.returnType = ret ∧ vZ X
section VThrow
variable {G : vG} {X : vX} {R : Room} {cc : ByteArray} {nL : Nat} {own : String} {ws : va_W} {ce sl : Nat} {lv : List (Nat × Value)} {pc : Nat} {st : List Value}
variable {S SX : Type} {post : S → Prop} {o : S → Option Value} {W0 : va_W} {W1 : S → va_W} {px : String → SX → Prop} {WX : SX → va_W}
theorem v_iretX {v : Int32} (hE : vEx G X (some .int) W0 post o W1 px WX) (h1 : ce ≤ 1) (h2 : sl ≤ 6) (hdg : decode cc pc = .ok (.ireturn, 1)) (u : S) (hu : post u) (ho : o u = some (.int v)) (hw : ws = W1 u) : V G X R cc nL own ws ce sl lv pc [.int v] := by
  subst hw
  intro hC H locs ls hP hD hS hl
  obtain ⟨e1, e2, e3, -⟩ := hE
  rw [e2] at hS
  rw [e1]
  exact vx_ret (W.widen h1 h2 (W.iret hC.1 hC.2.1 e3 (fun t ht _ => ⟨⟨u, hu, by rw [ho], by rw [ht]; exact hP⟩, hS.F ht⟩) hS.2.2 hdg hC.2.2.2.2.2.2.2))
theorem v_zretX {v : Int32} (hE : vEx G X (some .boolean) W0 post o W1 px WX) (h1 : ce ≤ 1) (h2 : sl ≤ 6) (hn : narrow .boolean (.int v) = .int v) (hdg : decode cc pc = .ok (.ireturn, 1)) (u : S) (hu : post u) (ho : o u = some (.int v)) (hw : ws = W1 u) : V G X R cc nL own ws ce sl lv pc [.int v] := by
  subst hw
  intro hC H locs ls hP hD hS hl
  obtain ⟨e1, e2, e3, -⟩ := hE
  rw [e2] at hS
  rw [e1]
  exact vx_ret (W.widen h1 h2 (W.zret hC.1 hC.2.1 e3 hn (fun t ht _ => ⟨⟨u, hu, by rw [ho], by rw [ht]; exact hP⟩, hS.F ht⟩) hS.2.2 hdg hC.2.2.2.2.2.2.2))
theorem v_lretX {v : Int64} (hE : vEx G X (some .long) W0 post o W1 px WX) (h1 : ce ≤ 1) (h2 : sl ≤ 6) (hdg : decode cc pc = .ok (.lreturn, 1)) (u : S) (hu : post u) (ho : o u = some (.long v)) (hw : ws = W1 u) : V G X R cc nL own ws ce sl lv pc [.long v] := by
  subst hw
  intro hC H locs ls hP hD hS hl
  obtain ⟨e1, e2, e3, -⟩ := hE
  rw [e2] at hS
  rw [e1]
  exact vx_ret (W.widen h1 h2 (W.lret hC.1 hC.2.1 e3 (fun t ht _ => ⟨⟨u, hu, by rw [ho], by rw [ht]; exact hP⟩, hS.F ht⟩) hS.2.2 hdg hC.2.2.2.2.2.2.2))
theorem v_vretX (hE : vEx G X none W0 post o W1 px WX) (h1 : ce ≤ 1) (h2 : sl ≤ 6) (hdg : decode cc pc = .ok (.return_, 1)) (u : S) (hu : post u) (ho : o u = none) (hw : ws = W1 u) : V G X R cc nL own ws ce sl lv pc [] := by
  subst hw
  intro hC H locs ls hP hD hS hl
  obtain ⟨e1, e2, e3, -⟩ := hE
  rw [e2] at hS
  rw [e1]
  exact vx_ret (W.widen h1 h2 (W.vret hC.1 hC.2.1 e3 (fun t ht _ => ⟨⟨u, hu, by rw [ho], by rw [ht]; exact hP⟩, hS.F ht⟩) hS.2.2 hdg hC.2.2.2.2.2.2.2))
/-- the words of a throw of the class own: by the number of its constructor's entry -/
def vTh (own : String) (ik ic : Nat) (E : String) : Prop := Bundle.fit E = true ∧ E ∈ xN ∧ Cond.classLink own ik E ∈ vT ∧ Cond.initialized E ∈ vT ∧ (∀ w ∈ vx_at0 own ic E ["java/lang/RuntimeException", "java/lang/Exception"], w ∈ vT ∨ w = .castable E E ∨ ∃ y ∈ xD, w = .declares y) ∧
  (∀ w ∈ Cond.classLink own ik E :: Cond.initialized E :: vx_at0 own ic E ["java/lang/RuntimeException", "java/lang/Exception"], vx_ot w = true)
theorem v_throw {E : String} {ik ic : Nat} (hE : vEx G X (X.meth.sig.returnType) W0 post o W1 px WX) (htab : ∀ x ∈ X.c.exceptionTable.toList, False) (hT : vTh own ik ic E) (d0 : decode cc pc = .ok (.new ik, 3)) (d3 : decode cc (pc + 3) = .ok (.dup, 1)) (d4 : decode cc (pc + 4) = .ok (.invokespecial ic, 3)) (d7 : decode cc (pc + 7) = .ok (.athrow, 1))
    (hR : 5 < R.frames ∧ 81 ≤ R.locals ∧ 1 ≤ R.cells ∧ 6 ≤ R.slots) (u : SX) (hu : px E u) (hw : ws = WX u) : V G X R cc nL own ws 0 0 lv pc [] := by
  subst hw
  intro hC H locs ls hP hD hS hl
  obtain ⟨e1, e2, -, e4, e5, e6⟩ := hE
  obtain ⟨t1, t2, t3, t4, t5, t6⟩ := hT
  rw [e1]
  have hS2 := hS
  rw [e2] at hS2
  refine vx_throw0 (A := X.A) (names := ["java/lang/RuntimeException", "java/lang/Exception"]) (rest := []) hC.1 hC.2.1 e6 hC.2.2.2.1 t1 (by decide +kernel) (hC.2.2.2.2.1 _ t3) (hC.2.2.2.2.1 _ t4) (fun w hw => ?_) t6 e5.1 e5.2 hS (hl.1.trans hC.2.2.1.symm) d0 d3 d4 d7 (fun x hx => (htab x hx).elim) hR.1 (by simpa using hR.2.1) hR.2.2.1 hR.2.2.2 hC.2.2.2.2.2.2.2 (fun t hA hz hk => ⟨⟨u, hu, ?_⟩, ?_⟩) hS2.2.2 (Nat.le_refl _) (Nat.le_refl _)
  · rcases t5 w hw with h | h | ⟨y, hy, h⟩
    · exact hC.2.2.2.2.1 _ h
    · rw [h]; exact va_Nw.use rfl (e4.1 E t2)
    · rw [h]; exact va_Nw.use rfl (e4.2.2 y hy)
  · intro k q hq
    exact (hP k q hq).kept (hk q.1 (hP k q hq).lt)
  · exact ⟨Nat.le_trans hS2.1 hz, fun q h1 h2 => (hk q (Nat.lt_of_lt_of_le h1 hS2.1)).trans (hS2.2.1 q h1 h2)⟩
/-- nothing here catches it: it goes on to the caller -/
theorem v_outX {E : String} {rest : List Value} (hE : vEx G X (X.meth.sig.returnType) W0 post o W1 px WX) (htab : ∀ x ∈ X.c.exceptionTable.toList, False) (h1 : ce ≤ 1) (h2 : sl ≤ 6) (u : SX) (hu : px E u) (hw : ws = WX u) : VX G X R cc nL own ws ce sl lv pc rest E := by
  subst hw
  intro hC H locs ls q c9 hP hD hS hl hc hv hcl
  obtain ⟨e1, e2, -, -⟩ := hE
  rw [e1]
  rw [e2] at hS
  exact vx_out (fun x hx => (htab x hx).elim) hC.2.2.2.2.2.2.2 hc hv hcl (fun t ht _ => ⟨⟨u, hu, by rw [ht]; exact hP⟩, hS.F ht⟩) hS.2.2 h1 h2
/-- caught by the handler x, behind handlers of other classes -/
theorem v_catchX {E : String} {rest : List Value} (hZ : vz_E X.s) (hin : E ∈ xN) (pre : List ExceptionTableEntry) (x : ExceptionTableEntry) (suf : List ExceptionTableEntry) (hsplit : X.c.exceptionTable.toList = pre ++ x :: suf)
    (hpass : ∀ z ∈ pre, z.catchType ≠ 0 ∧ ∃ nm : String, Cond.classLink own z.catchType nm ∈ vT ∧ nm ∈ xN ∧ E ≠ nm) (hx : covers x pc = true) (h0 : x.catchType ≠ 0) (hlink : Cond.classLink own x.catchType E ∈ vT)
    (kk : ∀ q : Nat, V G X R cc nL own ws ce sl lv x.handlerPc [.ref q]) : VX G X R cc nL own ws ce sl lv pc rest E := by
  intro hC H locs ls q c9 hP hD hS hl hc hv hcl
  refine vy_catch (name := E) hC.2.2.2.1 pre x suf hsplit (fun z hz => ?_) hx h0 (hC.2.2.2.2.1 _ hlink) (va_Nw.use rfl (hZ.1 E hin)) hc hv hcl (kk q hC H locs ls hP hD hS hl)
  obtain ⟨z0, nm, z1, z2, z3⟩ := hpass z hz
  exact Or.inr ⟨z0, nm, hC.2.2.2.2.1 _ z1, hZ.2.1 E hin nm z2 z3⟩
theorem v_preX {wc : va_W} {as : List Value} {H : Heap} {locs : List Loc} (hC : vC G X cc nL own) (hZ : vZ X) (hP : va_P G.1 vwCl ws H) (hD : va_D X.A ws) (hS : va_S X.A X.s.heap H locs) (is : List Nat) (hn : va_nd is = true) (h0 : is.map (fun i => ws[i]?) = wc.map some) : PreS X.s H (vPx G as wc H.size) as :=
  ⟨vPx_blind, fun U hU hW => ⟨rfl, by rw [hU], by rw [hU]; exact hP.sub is (v_fm h0), va_K.moved hW.alike hC.2.2.2.2.2.1, (hD.sub is hn h0).weaken (fun _ _ _ _ => trivial), vz_E.warm hW hZ.1, by
    rw [hU]
    exact vz_T.moved hW.alike (((hZ.2.1).kept hS.2.1).narrow (va_free hD hS hC.2.2.2.2.2.2.1 is h0))⟩⟩
end VThrow
