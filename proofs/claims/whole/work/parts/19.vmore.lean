/-! Math.min, Math.max, System.arraycopy over V -/
section VMore
variable {G : vG} {X : vX} {R : Room} {cc : ByteArray} {nL : Nat} {own : String} {ws : va_W} {ce sl : Nat} {lv : List (Nat × Value)} {pc : Nat} {st : List Value}
theorem v_mmin {index : Nat} {x y : Int32} (hlink : Cond.methodLink own index yJ9_min_7cf53 ∈ vT) (hfr : 1 ≤ R.frames) (hlo : (st.map fun v => v.category).sum + 13 ≤ R.locals) (hce : ce ≤ R.cells) (hsl : sl ≤ R.slots) (hdg : decode cc pc = .ok (.invokestatic index, 3)) (k : V G X R cc nL own ws ce sl lv (pc + 3) (.int (if y < x then y else x) :: st)) : V G X R cc nL own ws ce sl lv pc (.int y :: .int x :: st) :=
  fun hC H locs ls hP hD hS hl => va_mmin hC.1 hC.2.1 (hC.2.2.1.trans hl.1.symm) hC.2.2.2.1 (hC.2.2.2.2.1 _ hlink) (hC.2.2.2.2.1 _ k_static_J9_min_7cf53) (hC.2.2.2.2.1 _ k_ini_java_lang_Math) (hC.2.2.2.2.1 _ k_code_J9_min_7cf53) hfr hlo hce hsl hdg (k hC H locs ls hP hD hS hl)
theorem v_mmax {index : Nat} {x y : Int32} (hlink : Cond.methodLink own index yJ9_max_7cf53 ∈ vT) (hfr : 1 ≤ R.frames) (hlo : (st.map fun v => v.category).sum + 13 ≤ R.locals) (hce : ce ≤ R.cells) (hsl : sl ≤ R.slots) (hdg : decode cc pc = .ok (.invokestatic index, 3)) (k : V G X R cc nL own ws ce sl lv (pc + 3) (.int (if x < y then y else x) :: st)) : V G X R cc nL own ws ce sl lv pc (.int y :: .int x :: st) :=
  fun hC H locs ls hP hD hS hl => va_mmax hC.1 hC.2.1 (hC.2.2.1.trans hl.1.symm) hC.2.2.2.1 (hC.2.2.2.2.1 _ hlink) (hC.2.2.2.2.1 _ k_static_J9_max_7cf53) (hC.2.2.2.2.1 _ k_ini_java_lang_Math) (hC.2.2.2.2.1 _ k_code_J9_max_7cf53) hfr hlo hce hsl hdg (k hC H locs ls hP hD hS hl)
theorem min_nI {a b : Nat} (ha : a < 2 ^ 31) (hb : b < 2 ^ 31) : (if nI b < nI a then nI b else nI a) = nI (min a b) := by
  by_cases h : b < a
  · rw [if_pos ((nI_ltI hb ha).mpr h), Nat.min_eq_right (Nat.le_of_lt h)]
  · rw [if_neg (fun q => h ((nI_ltI hb ha).mp q)), Nat.min_eq_left (by omega)]
theorem max_nI {a b : Nat} (ha : a < 2 ^ 31) (hb : b < 2 ^ 31) : (if nI a < nI b then nI b else nI a) = nI (max a b) := by
  by_cases h : a < b
  · rw [if_pos ((nI_ltI ha hb).mpr h), Nat.max_eq_right (Nat.le_of_lt h)]
  · rw [if_neg (fun q => h ((nI_ltI ha hb).mp q)), Nat.max_eq_left (by omega)]
theorem v_copyi {ws' : va_W} {index a0 a n0 n1 : Nat} {cA : ClassId} {f g : Nat → Int32} {sp dp m : Nat} (hlink : Cond.methodLink own index arraycopyName ∈ vT) (t0 q0 q1 : Nat) (ht : G.2[t0]? = some (cA, .int)) (ha0 : ws[q0]? = some (a0, .inl (cA, n0, .inl f))) (ha1 : ws[q1]? = some (a, .inl (cA, n1, .inl g))) (hb : sp < 2 ^ 31 ∧ dp < 2 ^ 31 ∧ m < 2 ^ 31) (h4 : sp + m ≤ n0) (h5 : dp + m ≤ n1)
    (hfr : 1 ≤ R.frames) (hlo : (st.map fun v => v.category).sum + (nativeFrameWords "java/lang/System" "arraycopy" 5 + 11) ≤ R.locals) (hdg : decode cc pc = .ok (.invokestatic index, 3)) (hw : ws.set q1 (a, .inl (cA, n1, .inl (va_cpy f g sp dp m))) = ws') (k : V G X R cc nL own ws' ce sl lv (pc + 3) st) : V G X R cc nL own ws ce sl lv pc (.int (nI m) :: .int (nI dp) :: .ref a :: .int (nI sp) :: .ref a0 :: st) := by
  intro hC H locs ls hP hD hS hl
  subst hw
  refine va_copyi hC.1 hC.2.1 (hC.2.2.1.trans hl.1.symm) hC.2.2.2.1 (hC.2.2.2.2.1 _ hlink) (hC.2.2.2.2.1 _ k_native_573) (hC.2.2.2.2.1 _ k_static_572) (hC.2.2.2.2.1 _ k_ini_java_lang_System) hC.2.2.2.2.2.1 hP hD hS q0 q1 t0 t0 ha0 ha1 ht ht rfl (nI_pos hb.1) (nI_pos hb.2.1) (nI_pos hb.2.2) (by rw [nI_clamp hb.1, nI_clamp hb.2.2]; exact h4) (by rw [nI_clamp hb.2.1, nI_clamp hb.2.2]; exact h5) (fun _ _ => rfl) hfr hlo hdg (fun H1 locs1 hP1 hD1 hS1 => ?_)
  rw [nI_clamp hb.1, nI_clamp hb.2.1, nI_clamp hb.2.2] at hP1 hD1
  exact k hC H1 locs1 ls hP1 hD1 hS1 hl
end VMore
theorem sUniL_lt {b : Nat → Nat} {e n : Nat} : ∀ {k m v p : Nat} {q : Nat × Nat}, sUniL b e n k m v p = some q → q.1 < n := by
  intro k
  induction k with
  | zero => intro m v p q h; simp [sUniL] at h
  | succ k ih =>
    intro m v p q h
    simp only [sUniL] at h
    repeat' split at h
    all_goals first | (cases h; assumption) | exact ih h | cases h
theorem sShuL_lt {b : Nat → Nat} {e n M : Nat} : ∀ {i p : Nat} {F : Nat → Nat} {q : (Nat → Nat) × Nat}, i < n → (∀ x, x < n → F x < M) → sShuL b e i F p = some q → ∀ x, x < n → q.1 x < M := by
  intro i
  induction i with
  | zero => intro p F q _ hF h; cases h; exact hF
  | succ i ih =>
    intro p F q hi hF h
    simp only [sShuL] at h
    split at h
    · cases h
    · rename_i q0 hq0
      have hlt : q0.1 < i + 2 := sUniL_lt hq0
      exact ih (by omega) (fU_lt (v := 0) hF hi (by omega)) h
/-- STRATUM -/
def sStr (b : Nat → Nat) (e n arms p : Nat) : Option ((Nat → Nat) × Nat) := match sShu b e n p with
  | none => none
  | some q => some (fun x => q.1 x % arms, q.2)
def rI (x A : Int32) : Int32 := x - x / A * A
theorem str_map {b : Nat → Nat} {e n0 arms p p1 : Nat} {dr d1 : Bool} {g0 g : Nat → Int32} (hn : n0 ≤ 256) (ha0 : 0 < arms) (ha : arms < 2 ^ 31) (h : Rg (sShu b e n0 p) e p dr (fun F => ∀ x, x < n0 → g0 x = nI (F x)) p1 d1) (hg : ∀ x, x < n0 → g x = rI (g0 x) (nI arms)) : Rg (sStr b e n0 arms p) e p dr (fun F => ∀ x, x < n0 → g x = nI (F x)) p1 d1 := by
  refine Rg_map h (fun _ _ F ho hm => ⟨_, by rw [sStr, ho], fun x hx => ?_⟩) (fun _ ho => by rw [sStr, ho])
  have hb : F x < n0 := by
    rcases Nat.eq_zero_or_pos n0 with h | h
    · omega
    · exact sShuL_lt (q := (F, p1)) (i := n0 - 1) (n := n0) (M := n0) (by omega) (fun x hx => hx) ho x hx
  rw [hg x hx, hm x hx, rI]
  exact pk_rem (by omega) ha0 ha
/-- SUBSET -/
def sSubL (b : Nat → Nat) (e kk : Nat) : Nat → Nat → Nat → (Nat → Nat) → Nat → Option ((Nat × (Nat → Nat)) × Nat)
  | 0, _, c, F, p => some ((c, F), p)
  | k + 1, i, c, F, p => match sCoin b e (kk - c) (k + 1) p with
    | none => none
    | some q => if q.1 = 1 then sSubL b e kk k (i + 1) (c + 1) (fU F c i) q.2 else sSubL b e kk k (i + 1) c F q.2
def sSub (b : Nat → Nat) (e n k p : Nat) : Option ((Nat × (Nat → Nat)) × Nat) := sSubL b e k n 0 0 (fun _ => 0) p
theorem sSub_go {b : Nat → Nat} {e nn kk i c p r1 p1 p2 : Nat} {dr d1 d2 : Bool} {F : Nat → Nat} {m : Nat × (Nat → Nat) → Prop} (hi : i < nn) (h1 : Rl (sCoin b e (kk - c) (nn - i) p) e p dr (r1, p1, d1)) (h : Rg (if r1 = 1 then sSubL b e kk (nn - (i + 1)) (i + 1) (c + 1) (fU F c i) p1 else sSubL b e kk (nn - (i + 1)) (i + 1) c F p1) e p1 d1 m p2 d2) : Rg (sSubL b e kk (nn - i) i c F p) e p dr m p2 d2 := by
  rw [show nn - i = (nn - (i + 1)) + 1 by omega] at h1 ⊢
  exact Rg_seq h1 (fun _ _ h => by simp [sSubL, h]) (fun _ h => by simp [sSubL, h]) h
/-- a coin that is sure to be 1 -/
theorem coin_sure {b : Nat → Nat} {e num den p r1 p1 : Nat} {dr d1 : Bool} (h0 : 0 < num) (hn : den ≤ num) (hd : dr = false) (h1 : Rl (sCoin b e num den p) e p dr (r1, p1, d1)) : r1 = 1 ∧ d1 = false := by
  have : sCoin b e num den p = some (1, p) := by rw [sCoin, if_neg (by omega), if_pos hn]
  rcases h1.2.1 hd with ⟨q, h2, h3⟩ | ⟨h2, -⟩
  · rw [this] at h2; cases h2; simp only [Prod.mk.injEq] at h3; exact ⟨h3.1, h3.2.2⟩
  · rw [this] at h2; cases h2
/-- PATH: r steps left -/
def sPatL (b : Nat → Nat) (e : Nat) : Nat → Nat → Nat → (Nat → Nat) → Nat → Option ((Nat → Nat) × Nat)
  | 0, _, _, F, p => some (F, p)
  | r + 1, a, h, F, p => match sCoin b e ((h + 2) * (r + 1 - h)) (2 * (h + 1) * (r + 1)) p with
    | none => none
    | some q => sPatL b e r (a + 1) (if q.1 = 1 then h + 1 else h - 1) (fU F a q.1) q.2
def sPat (b : Nat → Nat) (e n p : Nat) : Option ((Nat → Nat) × Nat) := sPatL b e (2 * n) 0 0 (fun _ => 0) p
theorem sPat_go {b : Nat → Nat} {e N a h p r1 p1 p2 : Nat} {dr d1 d2 : Bool} {F : Nat → Nat} {m : (Nat → Nat) → Prop} (ha : a < N) (h1 : Rl (sCoin b e ((h + 2) * (N - a - h)) (2 * (h + 1) * (N - a)) p) e p dr (r1, p1, d1)) (hh : Rg (sPatL b e (N - (a + 1)) (a + 1) (if r1 = 1 then h + 1 else h - 1) (fU F a r1) p1) e p1 d1 m p2 d2) : Rg (sPatL b e (N - a) a h F p) e p dr m p2 d2 := by
  have e1 : N - a = (N - (a + 1)) + 1 := by omega
  rw [e1] at h1 ⊢
  exact Rg_seq h1 (fun _ _ h => by simp [sPatL, h]) (fun _ h => by simp [sPatL, h]) hh
theorem pat_b {h r : Nat} (hr : r ≤ 256) (hh : h ≤ r) (hr0 : 0 < r) : (h + 2) * (r - h) ≤ 2 * (h + 1) * r ∧ (h + 2) * (r - h) ≤ 258 * 256 ∧ 2 * (h + 1) * r ≤ 514 * 256 ∧ 0 < 2 * (h + 1) * r ∧ (h = 0 → (h + 2) * (r - h) = 2 * (h + 1) * r) ∧ (h = r → (h + 2) * (r - h) = 0) := by
  have a1 : (h + 2) * (r - h) ≤ 2 * (h + 1) * r := Nat.mul_le_mul (by omega) (by omega)
  have a2 : (h + 2) * (r - h) ≤ 258 * 256 := Nat.mul_le_mul (by omega) (by omega)
  have a3 : 2 * (h + 1) * r ≤ 514 * 256 := Nat.mul_le_mul (by omega) (by omega)
  have a4 : 0 < 2 * (h + 1) * r := Nat.mul_pos (by omega) hr0
  refine ⟨a1, a2, a3, a4, fun h0 => ?_, fun h0 => ?_⟩
  · subst h0; simp
  · subst h0; simp
theorem upd_ok {g : Nat → Int32} {F : Nat → Nat} {n i v : Nat} (h : ∀ x, x < n → g x = nI (F x)) (hi : i = n) : ∀ x, x < n + 1 → upd g i (nI v) x = nI (fU F i v x) := by
  intro x hx
  unfold upd fU
  by_cases h1 : x = i
  · simp [h1]
  · simp [h1, h x (by omega)]
