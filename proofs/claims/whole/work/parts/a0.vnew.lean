/-! MAKING CELLS: rows over V, and contracts of constructors -/
theorem k_code_obj : Cond.code objectInit ⟨#[0xb1]⟩ 1 none ∈ vT := vT_in (vt_r1 (List.mem_of_getElem? (i := 27) rfl)) rfl
theorem k_ao_Table : Cond.arrayOver (.object RX6) ∈ lw_tbl := List.mem_append_right _ (vt_r1 (List.mem_of_getElem? (i := 29) rfl))
section VNew
variable {G : vG} {X : vX} {R : Room} {cc : ByteArray} {nL : Nat} {own : String} {ws : va_W} {ce sl : Nat} {lv : List (Nat × Value)} {pc : Nat} {st : List Value}
theorem v_objInit {idx a : Nat} (hk : Cond.methodLink own idx objectInit ∈ vT) (hdg : decode cc pc = .ok (.invokespecial idx, 3)) (hf : 1 ≤ R.frames) (hst : (st.map fun v => v.category).sum ≤ 8) (hlo : 20 ≤ R.locals) (k : V G X R cc nL own ws ce sl lv (pc + 3) st) : V G X R cc nL own ws ce sl lv pc (.ref a :: st) := by
  intro hC H locs ls hP hD hS hl
  refine W.objInit hC.1 hC.2.1 hC.2.2.2.1 (hC.2.2.2.2.1 _ hk) (hC.2.2.2.2.1 _ k_instanceMethod_26) (hC.2.2.2.2.1 _ k_code_obj) (g := F0 X.m pc ls (.ref a :: st)) rfl (by rw [hC.2.2.1]; exact hl.1) rfl hdg hf (Nat.le_trans (Nat.add_le_add_right (lv_room hst) 12) hlo) ?_
  exact W.eq (g2 := F0 X.m (pc + 3) ls st) rfl (k hC H locs ls hP hD hS hl)
theorem v_newI {cA : ClassId} {N : Nat} (t0 : Nat) (ht : G.2[t0]? = some (cA, .int)) (hN : N < 2 ^ 27) (hce : ce + 1 ≤ R.cells) (hsl : sl + N ≤ R.slots) (hdg : decode cc pc = .ok (.newarray .int, 2)) (k : ∀ q : Nat, V G X R cc nL own (ws ++ [(q, .inl (cA, N, .inl (fun _ => 0)))]) (ce + 1) (sl + N) lv (pc + 2) (.ref q :: st)) : V G X R cc nL own ws ce sl lv pc (.int (nI N) :: st) := by
  intro hC H locs ls hP hD hS hl
  refine va_newa (atype := .int) (ty := .int) (N' := N) (a0 := (N, .inl (fun _ => 0))) hC.1 hC.2.1 (hC.2.2.2.2.1 _ k_arr_int) rfl hC.2.2.2.2.2.1 hP hD hS hC.2.2.2.2.2.2.1 (fun _ => rfl) (fun q => absurd ((nI_ltI (b := 0) (by omega) (by decide)).mp q) (by omega)) (nI_clamp (by omega)) (by show N * 4 ≤ 536870912; omega) hce hsl hdg (fun q cB H1 hK1 hP1 hD1 hS1 => ?_)
  have h1 : X.s.vm.findClass _ = some cB := (hK1.2 G.2.length (cB, .int) (by simp)).2
  have h2 : X.s.vm.findClass _ = some cA := (hC.2.2.2.2.2.1.2 t0 _ ht).2
  have e : cB = cA := Option.some.inj (h1.symm.trans h2)
  subst e
  exact k q hC H1 locs ls hP1 hD1 hS1 hl
theorem v_newJ {cA : ClassId} {N : Nat} (t0 : Nat) (ht : G.2[t0]? = some (cA, .long)) (hN : N < 2 ^ 26) (hce : ce + 1 ≤ R.cells) (hsl : sl + N ≤ R.slots) (hdg : decode cc pc = .ok (.newarray .long, 2)) (k : ∀ q : Nat, V G X R cc nL own (ws ++ [(q, .inl (cA, N, .inr (.inl (fun _ => 0))))]) (ce + 1) (sl + N) lv (pc + 2) (.ref q :: st)) : V G X R cc nL own ws ce sl lv pc (.int (nI N) :: st) := by
  intro hC H locs ls hP hD hS hl
  refine va_newa (atype := .long) (ty := .long) (N' := N) (a0 := (N, .inr (.inl (fun _ => 0)))) hC.1 hC.2.1 (hC.2.2.2.2.1 _ k_arr_long) rfl hC.2.2.2.2.2.1 hP hD hS hC.2.2.2.2.2.2.1 (fun _ => rfl) (fun q => absurd ((nI_ltI (b := 0) (by omega) (by decide)).mp q) (by omega)) (nI_clamp (by omega)) (by show N * 8 ≤ 536870912; omega) hce hsl hdg (fun q cB H1 hK1 hP1 hD1 hS1 => ?_)
  have h1 : X.s.vm.findClass _ = some cB := (hK1.2 G.2.length (cB, .long) (by simp)).2
  have h2 : X.s.vm.findClass _ = some cA := (hC.2.2.2.2.2.1.2 t0 _ ht).2
  have e : cB = cA := Option.some.inj (h1.symm.trans h2)
  subst e
  exact k q hC H1 locs ls hP1 hD1 hS1 hl
theorem v_newT {cA : ClassId} {N index : Nat} {C : String} (t0 : Nat) (hao : va_AO C X.s) (hcl : Cond.classLink own index C ∈ vT) (ht : G.2[t0]? = some (cA, .object C)) (hN : N < 2 ^ 27) (hce : ce + 1 ≤ R.cells) (hsl : sl + N ≤ R.slots) (hdg : decode cc pc = .ok (.anewarray index, 3)) (k : ∀ q : Nat, V G X R cc nL own (ws ++ [(q, .inl (cA, N, .inr (.inr (.inr (.inr (fun _ => none))))))]) (ce + 1) (sl + N) lv (pc + 3) (.ref q :: st)) : V G X R cc nL own ws ce sl lv pc (.int (nI N) :: st) := by
  intro hC H locs ls hP hD hS hl
  refine va_newq (N' := N) hC.1 hC.2.1 hC.2.2.2.1 (hC.2.2.2.2.1 _ hcl) hao hC.2.2.2.2.2.1 hP hD hS hC.2.2.2.2.2.2.1 (fun q => absurd ((nI_ltI (b := 0) (by omega) (by decide)).mp q) (by omega)) (nI_clamp (by omega)) (by omega) hce hsl hdg (fun q cB H1 hK1 hP1 hD1 hS1 => ?_)
  obtain ⟨-, -, -, -, -, h1⟩ := (hK1.2 G.2.length (cB, .object C) (by simp)).2
  obtain ⟨-, -, -, -, -, h2⟩ := (hC.2.2.2.2.2.1.2 t0 _ ht).2
  have e : cB = cA := Option.some.inj (h1.symm.trans h2)
  subst e
  exact k q hC H1 locs ls hP1 hD1 hS1 hl
theorem v_new {index ci N : Nat} {C : String} {T : u_T} (ty : Nat → FieldType) (fs : List Value) (hcl : Cond.classLink own index C ∈ vT) (hinst : Cond.instantiable C N ∈ vT) (hini : Cond.initialized C ∈ vT) (hc : vwCl[ci]? = some (C, T, N)) (hin : ∀ w ∈ u_ws C T N, w ∈ vT) (hty : ∀ k, k < N → parseFieldDescriptor (T k).2.2.1 = some (ty k)) (hfs : ∀ j, j < N → defaultValue (ty j) = vp_V fs j) (hce : ce + 1 ≤ R.cells) (hsl : sl + N ≤ R.slots) (hdg : decode cc pc = .ok (.new index, 3)) (k : ∀ q : Nat, V G X R cc nL own (ws ++ [(q, .inr (ci, fs))]) (ce + 1) (sl + N) lv (pc + 3) (.ref q :: st)) : V G X R cc nL own ws ce sl lv pc st := by
  intro hC H locs ls hP hD hS hl
  exact va_new hC.1 hC.2.1 hC.2.2.2.2.1 hin ty hty hC.2.2.2.1 (hC.2.2.2.2.1 _ hcl) (hC.2.2.2.2.1 _ hinst) (hC.2.2.2.2.1 _ hini) hC.2.2.2.2.2.1 hP hD hS hC.2.2.2.2.2.2.1 hc hfs hce hsl hdg (fun q H1 hP1 hD1 hS1 => k q hC H1 locs ls hP1 hD1 hS1 hl)
theorem v_aast {ws' : va_W} {a n v j ci : Nat} {cA : ClassId} {r : vw_C} {vs : List Value} {f : Nat → Option Nat} (t0 q0 qk : Nat) (ht : G.2[t0]? = some (cA, .object r.1)) (he : ws[q0]? = some (a, .inl (cA, n, .inr (.inr (.inr (.inr f)))))) (hv : ws[qk]? = some (v, .inr (ci, vs))) (hc : vwCl[ci]? = some r) (hj : j < n) (hn : n < 2 ^ 31) (hdg : decode cc pc = .ok (.aastore, 1)) (hw : ws.set q0 (a, .inl (cA, n, .inr (.inr (.inr (.inr (va_up f j (some v))))))) = ws') (kk : V G X R cc nL own ws' ce sl lv (pc + 1) st) : V G X R cc nL own ws ce sl lv pc (.ref v :: .int (nI j) :: .ref a :: st) := by
  intro hC H locs ls hP hD hS hl
  subst hw
  refine va_astq hC.1 hC.2.1 hC.2.2.2.2.2.1 hP hD hS q0 t0 qk ci he ht hv hc (vp_in_nI hj hn) hdg (fun H1 locs1 hP1 hD1 hS1 => ?_)
  rw [nI_clamp (by omega)] at hP1 hD1
  exact kk hC H1 locs1 ls hP1 hD1 hS1 hl
end VNew
/-- THE CONTRACT of a constructor: the cells W0 as it finds them, 'W1 u' as it leaves them, the new ones among them -/
def vPn (P0 : State → Prop) (G : vG) (as : List Value) (W0 : va_W) (sz : Nat) : Array Value → State → Prop := va_Pc as (fun U => U.heap.size = sz ∧ va_P G.1 vwCl W0 U.heap ∧ va_K G.1 vwCl G.2 U ∧ va_D (fun _ => True) W0 ∧ P0 U)
def vQn {S : Type} (G : vG) (W0 : va_W) (post : S → Prop) (W1 : S → va_W) (sz : Nat) : Array Value → State → Outcome → State → Prop := fun _ st oc t => (∃ u : S, post u ∧ oc = .returned none ∧ va_P G.1 vwCl (W1 u) t.heap ∧ va_D (va_A W0 sz) (W1 u)) ∧ va_F (va_A W0 sz) st t
def FnN {S : Type} (P0 : State → Prop) (G : vG) (l : Launch) (y : MethodName) (cw : Cond) (rm : Room) (as : List Value) (W0 : va_W) (post : S → Prop) (W1 : S → va_W) : Prop :=
  ∀ sz : Nat, Met l y (cw :: vT) rm (vPn P0 G as W0 sz) (vQn G W0 post W1 sz) rm.cells rm.slots (va_A W0 sz)
theorem vPn_blind {P0 : State → Prop} (h0 : ∀ u U : State, u.vm = U.vm → P0 u → P0 U) {G : vG} {as : List Value} {W0 : va_W} {sz : Nat} : FrameBlind (vPn P0 G as W0 sz) := fun a U g mk q => by
  obtain ⟨q0, q1, qP, qK, qD, q2⟩ := q
  exact ⟨q0, q1, qP, va_K.moved (u := U) (U := U.calling g mk a) (Vm.Alike.refl U.vm) qK, qD, h0 U _ rfl q2⟩
def vEn {S : Type} (G : vG) (X : vX) (W0 : va_W) (post : S → Prop) (W1 : S → va_W) (mc ms : Nat) : Prop := X.Q = MQ X.below (vQn G W0 post W1 X.s.heap.size) X.args X.s mc ms (va_A W0 X.s.heap.size) ∧ X.A = va_A W0 X.s.heap.size ∧ X.meth.sig.returnType = none
section VInit
variable {G : vG} {X : vX} {R : Room} {cc : ByteArray} {nL : Nat} {own : String} {ws : va_W} {ce sl : Nat} {lv : List (Nat × Value)} {pc : Nat} {st : List Value}
theorem v_vretN {S : Type} {post : S → Prop} {W0 : va_W} {W1 : S → va_W} {mc ms : Nat} (hE : vEn G X W0 post W1 mc ms) (h1 : ce ≤ mc) (h2 : sl ≤ ms) (hdg : decode cc pc = .ok (.return_, 1)) (u : S) (hu : post u) (hw : ws = W1 u) : V G X R cc nL own ws ce sl lv pc [] := by
  subst hw
  intro hC H locs ls hP hD hS hl
  obtain ⟨e1, e2, e3⟩ := hE
  rw [e2] at hS hD
  rw [e1]
  exact W.widen h1 h2 (W.vret hC.1 hC.2.1 e3 (fun t ht _ => ⟨⟨u, hu, rfl, by rw [ht]; exact hP, hD⟩, hS.F ht⟩) hS.2.2 hdg hC.2.2.2.2.2.2.2)
theorem FnN.intro {S : Type} {P0 : State → Prop} {post : S → Prop} {G : vG} {l : Launch} {y : MethodName} {bytes : ByteArray} {maxL : Nat} {rm : Room} {as : List Value} {W0 : va_W} {W1 : S → va_W} (hy : plainName y.cls = true) (hlen : (lg_sl as).length ≤ maxL)
    (body : ∀ X : vX, X.l = l → vEn G X W0 post W1 rm.cells rm.slots → (y.name = "<init>" → X.meth.name = "<init>") → P0 X.s → V G X rm bytes maxL y.cls W0 0 0 (lv_args 0 as) 0 []) : FnN P0 G l y (.code y bytes maxL none) rm as W0 post W1 := by
  intro sz
  refine Met.ofW (cc := bytes) (maxL := maxL) (ret := none) hy rfl ?_
  intro p e s m args below meth c s₁ B hml hv
  obtain ⟨rfl, hsz, hP, hK, hD0, h0⟩ := hv
  subst hsz
  have hts := atoms_spec (ws := Cond.code y bytes maxL none :: vT) B.pre
  have hl := lv_entry as (n := maxL) hlen
  rw [lg_entry_eq]
  refine body (p, l, e, s, m, as.toArray, below, meth, c, MQ below (vQn G W0 post W1 s.heap.size) as.toArray s rm.cells rm.slots (va_A W0 s.heap.size), va_A W0 s.heap.size) rfl ⟨rfl, rfl, B.returns⟩ (fun hn => ?_) h0 ⟨B.exec, B.bytes, hml, findClass_of_methodNamed B.named, fun w hw => hts w (List.mem_cons_of_mem _ hw), hK, fun q h => Or.inr h, B.notSynchronized⟩ s.heap [] _ hP hD0.self va_S.rf hl
  exact (name_of_methodNamed B.named B.method).1.trans hn
theorem v_afterN {S : Type} {post : S → Prop} {W0 wr : va_W} {W1 : S → va_W} {rest st0 : List Value} {mc ms : Nat} (isC isR : List Nat) (h0 : isC.map (fun i => ws[i]?) = W0.map some) (h1 : isR.map (fun i => ws[i]?) = wr.map some) (hn : va_nd isR = true) (hdis : ∀ i ∈ isR, i ∉ isC)
    (hr : ∀ (H : Heap) (locs : List Loc) (ls : Array Slot), vC G X cc nL own → va_P G.1 vwCl ws H → va_D X.A ws → va_S X.A X.s.heap H locs → lv_has ls nL lv → ∃ Qa : State → Outcome → State → Prop, (∀ s0 o' t, Qa s0 o' t → (∃ u : S, post u ∧ o' = .returned none ∧ va_P G.1 vwCl (W1 u) t.heap ∧ va_D (va_A W0 H.size) (W1 u)) ∧ va_F (va_A W0 H.size) s0 t) ∧ va_Run X.p X.l X.e R X.s X.m X.args X.below X.meth X.c H locs ce sl mc ms (F0 X.m pc ls st0) rest Qa (va_A W0 H.size))
    (kk : ∀ u, post u → V G X R cc nL own (wr ++ W1 u) (ce + mc) (sl + ms) lv (pc + 3) rest) : V G X R cc nL own ws ce sl lv pc st0 := by
  intro hC H locs ls hP hD hS hl T hT XX
  obtain ⟨Qa, hQa, hrun⟩ := hr H locs ls hC hP hD hS hl
  obtain ⟨v, s0, t, T', L, e0, X', hL, e1, e2, hq, stp⟩ := hrun T hT XX
  obtain ⟨⟨u, hu, hv, hP1, hD1⟩, hz, hk⟩ := hQa _ _ _ hq
  cases hv
  rw [e0] at hz hk
  have hF : ∀ q, va_A W0 H.size q → X.A q := va_free hD hS hC.2.2.2.2.2.2.1 isC h0
  obtain ⟨hP2, hD2⟩ := va_join (wr := wr) (w1 := W1 u) (H1 := t.heap) hP hD isC isR h0 h1 hn hdis hk hF hP1 hD1
  have hS2 : va_S X.A X.s.heap t.heap (locs ++ L) := ⟨Nat.le_trans hS.1 hz, fun q h1 h2 => by
      rw [hk q (Nat.lt_of_lt_of_le h1 hS.1) (fun z => h2 (hF q z))]; exact hS.2.1 q h1 h2, fun q hq => by
      rcases List.mem_append.mp hq with h | h
      · exact hS.2.2 q h
      · exact hF _ (hL q h)⟩
  obtain ⟨t2, a1, b1⟩ := kk u hu hC t.heap (locs ++ L) ls hP2 hD2 hS2 hl T' e1 X'
  exact ⟨t2, stp t2 a1, b1⟩
theorem v_preN {P0 : State → Prop} {W0 : va_W} {as : List Value} {H : Heap} (hb : ∀ u U : State, u.vm = U.vm → P0 u → P0 U) (hp : ∀ U : State, X.s.WarmedH U.vm → P0 U) (hC : vC G X cc nL own) (hP : va_P G.1 vwCl ws H) (hD : va_D X.A ws) (is : List Nat) (hn : va_nd is = true) (h0 : is.map (fun i => ws[i]?) = W0.map some) : PreS X.s H (vPn P0 G as W0 H.size) as :=
  ⟨vPn_blind hb, fun U hU hW => ⟨rfl, by rw [hU], by rw [hU]; exact hP.sub is (v_fm h0), va_K.moved hW.alike hC.2.2.2.2.2.1, (hD.sub is hn h0).weaken (fun _ _ _ _ => trivial), hp U hW⟩⟩
theorem v_callI {S : Type} {P0 : State → Prop} {post : S → Prop} {index : Nat} {y : MethodName} {bytes : ByteArray} {maxL n : Nat} {rm : Room} {as rest st0 : List Value} {b : Nat} {W0 wr : va_W} {W1 : S → va_W} (hb : ∀ u U : State, u.vm = U.vm → P0 u → P0 U) (hp : ∀ U : State, X.s.WarmedH U.vm → P0 U) (hlink : Cond.methodLink own index y ∈ vT) (hinst : Cond.instanceMethod y ∈ vT) (hini : Cond.initialized y.cls ∈ vT) (hpl : vPlain y.cls ∧ (parseMethodDescriptor y.desc).map (fun d => d.parameters.length) = some n) (hy : y.name = "<init>") (hM : FnN P0 G X.l y (.code y bytes maxL none) rm (.ref b :: as) W0 post W1) (hcode : Cond.code y bytes maxL none ∈ vT) (isC isR : List Nat)
    (hst : st0 = as.reverse ++ .ref b :: rest) (hlen : as.length = n) (hdg : decode cc pc = .ok (.invokespecial index, 3)) (hroom : (rest.map fun v => v.category).sum ≤ 8) (hrm : rm.frames + 1 ≤ R.frames ∧ 8 + (maxL + 11) + rm.locals ≤ R.locals) (hce : ce + rm.cells ≤ R.cells ∧ sl + rm.slots ≤ R.slots)
    (hnC : va_nd isC = true) (h0 : isC.map (fun i => ws[i]?) = W0.map some) (h1 : isR.map (fun i => ws[i]?) = wr.map some) (hn : va_nd isR = true) (hdis : ∀ i ∈ isR, i ∉ isC) (kk : ∀ u, post u → V G X R cc nL own (wr ++ W1 u) (ce + rm.cells) (sl + rm.slots) lv (pc + 3) rest) : V G X R cc nL own ws ce sl lv pc st0 := by
  refine v_afterN isC isR h0 h1 hn hdis (fun H locs ls hC hP hD hS hl => ?_) kk
  refine ⟨_, fun _ _ _ h => h, va_runI (As := as) (rest := rest) ⟨hC.1, hC.2.1, hC.2.2.1, hC.2.2.2.1, hC.2.2.2.2.1⟩ (hM H.size) (cwI n hC.2.2.2.2.1 (v_good ?_) rfl rfl rfl (hC.2.2.2.2.1 _ hini) (hC.2.2.2.2.1 _ hlink) (hC.2.2.2.2.1 _ hinst) hy ⟨hpl.1.1, hpl.1.2, hpl.2⟩ hrm) (v_preN hb hp hC hP hD isC hnC h0) rfl hlen hl.1 hst (lv_room hroom) hdg hce⟩
  intro w hw
  rcases List.mem_cons.mp hw with rfl | hw
  · exact hcode
  · exact hw
theorem v_callIN {S : Type} {P0 : State → Prop} {post : S → Prop} {index : Nat} {host : String} {y : MethodName} {bytes : ByteArray} {maxL n : Nat} {rm : Room} {as rest st0 : List Value} {b : Nat} {W0 wr : va_W} {W1 : S → va_W} (hb : ∀ u U : State, u.vm = U.vm → P0 u → P0 U) (hp : ∀ U : State, X.s.WarmedH U.vm → P0 U) (hlink : va_Nw (.methodLinkNest own index y host) X.s) (hinst : Cond.instanceMethod y ∈ vT) (hini : Cond.initialized y.cls ∈ vT) (hpl : vPlain y.cls ∧ (parseMethodDescriptor y.desc).map (fun d => d.parameters.length) = some n) (hy : y.name = "<init>") (hM : FnN P0 G X.l y (.code y bytes maxL none) rm (.ref b :: as) W0 post W1) (hcode : Cond.code y bytes maxL none ∈ vT) (isC isR : List Nat)
    (hst : st0 = as.reverse ++ .ref b :: rest) (hlen : as.length = n) (hdg : decode cc pc = .ok (.invokespecial index, 3)) (hroom : (rest.map fun v => v.category).sum ≤ 8) (hrm : rm.frames + 1 ≤ R.frames ∧ 8 + (maxL + 11) + rm.locals ≤ R.locals) (hce : ce + rm.cells ≤ R.cells ∧ sl + rm.slots ≤ R.slots)
    (hnC : va_nd isC = true) (h0 : isC.map (fun i => ws[i]?) = W0.map some) (h1 : isR.map (fun i => ws[i]?) = wr.map some) (hn : va_nd isR = true) (hdis : ∀ i ∈ isR, i ∉ isC) (kk : ∀ u, post u → V G X R cc nL own (wr ++ W1 u) (ce + rm.cells) (sl + rm.slots) lv (pc + 3) rest) : V G X R cc nL own ws ce sl lv pc st0 := by
  refine v_afterN isC isR h0 h1 hn hdis (fun H locs ls hC hP hD hS hl => ?_) kk
  refine ⟨_, fun _ _ _ h => h, va_runIN (host := host) (As := as) (rest := rest) ⟨hC.1, hC.2.1, hC.2.2.1, hC.2.2.2.1, hC.2.2.2.2.1⟩ (hM H.size) ⟨va_cnB n hC.2.2.2.2.1 (v_good ?_) rfl rfl rfl hlink (hC.2.2.2.2.1 _ hini) ⟨hpl.1.1, hpl.1.2, hpl.2⟩ hrm, hy, hC.2.2.2.2.1 _ hinst⟩ (v_preN hb hp hC hP hD isC hnC h0) rfl hlen hl.1 hst (lv_room hroom) hdg hce⟩
  intro w hw
  rcases List.mem_cons.mp hw with rfl | hw
  · exact hcode
  · exact hw
end VInit
