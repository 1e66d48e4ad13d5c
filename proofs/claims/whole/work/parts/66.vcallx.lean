/-! calls of methods that return or throw -/
section VCallX
variable {G : vG} {X : vX} {R : Room} {cc : ByteArray} {nL : Nat} {own : String} {ws : va_W} {ce sl : Nat} {lv : List (Nat × Value)} {pc : Nat} {st : List Value}
variable {S SX : Type} {post : S → Prop} {o : S → Option Value} {W0 : va_W} {W1 : S → va_W} {px : String → SX → Prop} {WX : SX → va_W} {ws' : S → va_W} {wx : SX → va_W}
theorem v_afterX {rest st0 : List Value} (is : List Nat) (h0 : is.map (fun i => ws[i]?) = W0.map some) (hkey : ∀ u, (W1 u).map Prod.fst = W0.map Prod.fst) (hkeyx : ∀ u, (WX u).map Prod.fst = W0.map Prod.fst) (hw : ∀ u, v_upds ws is (W1 u) = ws' u) (hwx : ∀ u, v_upds ws is (WX u) = wx u)
    (hr : ∀ (H : Heap) (locs : List Loc) (ls : Array Slot), vC G X cc nL own → va_P G.1 vwCl ws H → va_D X.A ws → va_S X.A X.s.heap H locs → lv_has ls nL lv → ∃ Qa : State → Outcome → State → Prop, (∀ s0 o' t, Qa s0 o' t → (∃ u : S, post u ∧ o' = .returned (o u) ∧ va_P G.1 vwCl (W1 u) t.heap) ∧ va_F (va_A W0 H.size) s0 t) ∧ vx_Run X.p X.l X.e R X.s X.m X.args X.below X.meth X.c H locs ce sl 1 6 (F0 X.m pc ls st0) rest Qa (vXx G W0 px WX H.size) (va_A W0 H.size))
    (kk : ∀ u, post u → V G X R cc nL own (ws' u) (ce + 1) (sl + 6) lv (pc + 3) ((o u).toList ++ rest)) (kx : ∀ E u, px E u → VX G X R cc nL own (wx u) (ce + 1) (sl + 6) lv pc rest E) : V G X R cc nL own ws ce sl lv pc st0 := by
  intro hC H locs ls hP hD hS hl T hT XX
  obtain ⟨Qa, hQa, hrun⟩ := hr H locs ls hC hP hD hS hl
  have hF : ∀ q, va_A W0 H.size q → X.A q := va_free hD hS hC.2.2.2.2.2.2.1 is h0
  rcases hrun T hT XX with ⟨v, s0, t, T', L, e0, X', hL, e1, e2, hq, stp⟩ | ⟨q9, s0, t, T', L, E, c9, e0, X', hL, e1, e2, hq, hc9, hv9, hcl9, stp⟩
  · obtain ⟨⟨u, hu, hv, hP1⟩, hz, hk⟩ := hQa _ _ _ hq
    cases hv
    rw [e0] at hz hk
    obtain ⟨hP2, hD2⟩ := v_back hP hD is h0 (hkey u) (H1 := t.heap) hk hP1
    rw [hw u] at hP2 hD2
    have hS2 : va_S X.A X.s.heap t.heap (locs ++ L) := ⟨Nat.le_trans hS.1 hz, fun q h1 h2 => by
        rw [hk q (Nat.lt_of_lt_of_le h1 hS.1) (fun z => h2 (hF q z))]; exact hS.2.1 q h1 h2, fun q hq => by
        rcases List.mem_append.mp hq with h | h
        · exact hS.2.2 q h
        · exact hF _ (hL q h)⟩
    obtain ⟨t2, a1, b1⟩ := kk u hu hC t.heap (locs ++ L) ls hP2 hD2 hS2 hl T' e1 X'
    exact ⟨t2, stp t2 a1, b1⟩
  · obtain ⟨⟨u, hu, hP1⟩, hz, hk⟩ := hq
    rw [e0] at hz hk
    obtain ⟨hP2, hD2⟩ := v_back hP hD is h0 (hkeyx u) (H1 := t.heap) hk hP1
    rw [hwx u] at hP2 hD2
    have hS2 : va_S X.A X.s.heap t.heap (locs ++ L) := ⟨Nat.le_trans hS.1 hz, fun q h1 h2 => by
        rw [hk q (Nat.lt_of_lt_of_le h1 hS.1) (fun z => h2 (hF q z))]; exact hS.2.1 q h1 h2, fun q hq => by
        rcases List.mem_append.mp hq with h | h
        · exact hS.2.2 q h
        · exact hF _ (hL q h)⟩
    obtain ⟨t2, a1, b1⟩ := kx E u hu hC t.heap (locs ++ L) ls q9 c9 hP2 hD2 hS2 hl hc9 hv9 hcl9 T' e1 X'
    exact ⟨t2, stp.trans a1, b1⟩
theorem v_callVX {index : Nat} {y : MethodName} {bytes : ByteArray} {maxL n : Nat} {ret : Option FieldType} {rm : Room} {as rest st0 : List Value} {b ci : Nat} {fs : List Value} {T : u_T} {N : Nat} (hZ : vZ X) (hm : vMV own index y n) (hM : FnX G X.l y (.code y bytes maxL ret) rm (.ref b :: as) W0 post o W1 px WX) (hcode : Cond.code y bytes maxL ret ∈ vT) (is : List Nat) (qb : Nat) (hb : ws[qb]? = some (b, .inr (ci, fs))) (hc : vwCl[ci]? = some (y.cls, T, N))
    (hst : st0 = as.reverse ++ .ref b :: rest) (hlen : as.length = n) (hdg : decode cc pc = .ok (.invokevirtual index, 3)) (hroom : (rest.map fun v => v.category).sum ≤ 8) (hrm : rm.cells = 1 ∧ rm.slots = 6 ∧ rm.frames + 1 ≤ R.frames ∧ 8 + (maxL + 11) + rm.locals ≤ R.locals) (hce : ce + 1 ≤ R.cells ∧ sl + 6 ≤ R.slots)
    (hn : va_nd is = true) (h0 : is.map (fun i => ws[i]?) = W0.map some) (hkey : ∀ u, (W1 u).map Prod.fst = W0.map Prod.fst) (hkeyx : ∀ u, (WX u).map Prod.fst = W0.map Prod.fst) (hw : ∀ u, v_upds ws is (W1 u) = ws' u) (hwx : ∀ u, v_upds ws is (WX u) = wx u)
    (kk : ∀ u, post u → V G X R cc nL own (ws' u) (ce + 1) (sl + 6) lv (pc + 3) ((o u).toList ++ rest)) (kx : ∀ E u, px E u → VX G X R cc nL own (wx u) (ce + 1) (sl + 6) lv pc rest E) : V G X R cc nL own ws ce sl lv pc st0 := by
  refine v_afterX (o := o) is h0 hkey hkeyx hw hwx (fun H locs ls hC hP hD hS hl => ?_) kk kx
  obtain ⟨m1, m2, m3, m4, m5, m6⟩ := hm
  refine ⟨_, fun _ _ _ h => h, vx_runV (As := as) (rest := rest) ⟨hC.1, hC.2.1, hC.2.2.1, hC.2.2.2.1, hC.2.2.2.2.1⟩ (hM H.size) (cwV n hC.2.2.2.2.1 (v_good ?_) rfl hrm.1 hrm.2.1 ⟨rfl, m5.1, m5.2, m6⟩ hrm.2.2) ⟨vPx_blind, va_recv hC.2.2.2.2.2.1 hP hc hb, (v_preX hC hZ hP hD hS is hn h0).2⟩ rfl hlen hl.1 hst (lv_room hroom) hdg hce⟩
  intro w hw
  simp only [wsV, List.cons_append, List.nil_append, List.mem_cons] at hw
  rcases hw with rfl | rfl | rfl | rfl | rfl | hw
  · exact m1
  · exact m2
  · exact m3
  · exact m4
  · exact hcode
  · exact hw
/-- a static call of a method with a table of handlers -/
theorem v_callSX {index : Nat} {y : MethodName} {bytes : ByteArray} {maxL n : Nat} {ret : Option FieldType} {hh : List (Nat × Nat × Nat × Nat)} {rm : Room} {as rest st0 : List Value} (hZ : vZ X) (hm : vMS own index y n) (hM : FnX G X.l y (.codeWith y bytes maxL ret hh) rm as W0 post o W1 px WX) (hcode : Cond.codeWith y bytes maxL ret hh ∈ vT) (is : List Nat)
    (hst : st0 = as.reverse ++ rest) (hlen : as.length = n) (hdg : decode cc pc = .ok (.invokestatic index, 3)) (hroom : (rest.map fun v => v.category).sum ≤ 8) (hrm : rm.cells = 1 ∧ rm.slots = 6 ∧ rm.frames + 1 ≤ R.frames ∧ 8 + (maxL + 11) + rm.locals ≤ R.locals) (hce : ce + 1 ≤ R.cells ∧ sl + 6 ≤ R.slots)
    (hn : va_nd is = true) (h0 : is.map (fun i => ws[i]?) = W0.map some) (hkey : ∀ u, (W1 u).map Prod.fst = W0.map Prod.fst) (hkeyx : ∀ u, (WX u).map Prod.fst = W0.map Prod.fst) (hw : ∀ u, v_upds ws is (W1 u) = ws' u) (hwx : ∀ u, v_upds ws is (WX u) = wx u)
    (kk : ∀ u, post u → V G X R cc nL own (ws' u) (ce + 1) (sl + 6) lv (pc + 3) ((o u).toList ++ rest)) (kx : ∀ E u, px E u → VX G X R cc nL own (wx u) (ce + 1) (sl + 6) lv pc rest E) : V G X R cc nL own ws ce sl lv pc st0 := by
  refine v_afterX (o := o) is h0 hkey hkeyx hw hwx (fun H locs ls hC hP hD hS hl => ?_) kk kx
  obtain ⟨m1, m2, m4, m5, m6⟩ := hm
  refine ⟨_, fun _ _ _ h => h, vx_runSX (hh := hh) (As := as) (rest := rest) ⟨hC.1, hC.2.1, hC.2.2.1, hC.2.2.2.1, hC.2.2.2.2.1⟩ (hM H.size) (vx_cwSW n hC.2.2.2.2.1 (v_good ?_) rfl hrm.1 hrm.2.1 ⟨m5.1, m5.2, m6⟩ hrm.2.2) (v_preX hC hZ hP hD hS is hn h0) rfl hlen hl.1 hst (lv_room hroom) hdg hce⟩
  intro w hw
  simp only [va_wsS, List.cons_append, List.nil_append, List.mem_cons] at hw
  rcases hw with rfl | rfl | rfl | rfl | hw
  · exact m1
  · exact m2
  · exact m4
  · exact hcode
  · exact hw
end VCallX
theorem FnX.intro {S SX : Type} {post : S → Prop} {o : S → Option Value} {G : vG} {l : Launch} {y : MethodName} {bytes : ByteArray} {maxL : Nat} {ret : Option FieldType} {rm : Room} {as : List Value} {W0 : va_W} {W1 : S → va_W} {px : String → SX → Prop} {WX : SX → va_W} (hy : plainName y.cls = true) (hlen : (lg_sl as).length ≤ maxL) (hst : l.stackTraces = false)
    (body : ∀ X : vX, X.l = l → vEx G X ret W0 post o W1 px WX → (∀ x ∈ X.c.exceptionTable.toList, False) → V G X rm bytes maxL y.cls W0 0 0 (lv_args 0 as) 0 []) : FnX G l y (.code y bytes maxL ret) rm as W0 post o W1 px WX := by
  intro sz
  refine vx_ofW (cc := bytes) (maxL := maxL) (ret := ret) hy rfl ?_
  intro p e s m args below meth c s₁ B hml htab hv
  obtain ⟨rfl, hsz, hP, hK, hD0, hE0, hT0⟩ := hv
  subst hsz
  have hts := atoms_spec (ws := Cond.code y bytes maxL ret :: vT) B.pre
  have hl := lv_entry as (n := maxL) hlen
  rw [lg_entry_eq]
  exact body (p, l, e, s, m, as.toArray, below, meth, c, vx_MQ below (vQc G W0 post o W1 s.heap.size) (vXx G W0 px WX s.heap.size) as.toArray s 1 6 (va_A W0 s.heap.size), va_A W0 s.heap.size) rfl ⟨rfl, rfl, B.returns, hE0, hT0, hst⟩ htab ⟨B.exec, B.bytes, hml, findClass_of_methodNamed B.named, fun w hw => hts w (List.mem_cons_of_mem _ hw), hK, fun q h => Or.inr h, B.notSynchronized⟩ s.heap [] _ hP hD0.self va_S.rf hl
theorem FnX.introH {S SX : Type} {post : S → Prop} {o : S → Option Value} {G : vG} {l : Launch} {y : MethodName} {bytes : ByteArray} {maxL : Nat} {ret : Option FieldType} {hh : List (Nat × Nat × Nat × Nat)} {rm : Room} {as : List Value} {W0 : va_W} {W1 : S → va_W} {px : String → SX → Prop} {WX : SX → va_W} (hy : plainName y.cls = true) (hlen : (lg_sl as).length ≤ maxL) (hst : l.stackTraces = false)
    (body : ∀ X : vX, X.l = l → vEx G X ret W0 post o W1 px WX → X.c.exceptionTable.toList = tableOf hh → V G X rm bytes maxL y.cls W0 0 0 (lv_args 0 as) 0 []) : FnX G l y (.codeWith y bytes maxL ret hh) rm as W0 post o W1 px WX := by
  intro sz
  refine vx_ofWH (hh := hh) (cc := bytes) (maxL := maxL) (ret := ret) hy rfl ?_
  intro p e s m args below meth c s₁ B hml hv
  obtain ⟨rfl, hsz, hP, hK, hD0, hE0, hT0⟩ := hv
  subst hsz
  have hts := atoms_spec (ws := Cond.codeWith y bytes maxL ret hh :: vT) B.pre
  have htab := vx_table (x := y) B (hts _ List.mem_cons_self)
  have hl := lv_entry as (n := maxL) hlen
  rw [lg_entry_eq]
  exact body (p, l, e, s, m, as.toArray, below, meth, c, vx_MQ below (vQc G W0 post o W1 s.heap.size) (vXx G W0 px WX s.heap.size) as.toArray s 1 6 (va_A W0 s.heap.size), va_A W0 s.heap.size) rfl ⟨rfl, rfl, B.returns, hE0, hT0, hst⟩ htab ⟨B.exec, B.bytes, hml, findClass_of_methodNamed B.named, fun w hw => hts w (List.mem_cons_of_mem _ hw), hK, fun q h => Or.inr h, B.notSynchronized⟩ s.heap [] _ hP hD0.self va_S.rf hl
