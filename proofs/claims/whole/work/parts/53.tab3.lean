/-! a draw from a table: with aliases, by the tree -/
def sAl (b : Nat → Nat) (e n S : Nat) (L A : Nat → Nat) (p : Nat) : Option (Nat × Nat) := match sUni b e n p with
  | none => none
  | some c => match sCoin b e (L c.1) S c.2 with
    | none => none
    | some z => some (if z.1 = 1 then c.1 else A c.1, z.2)
theorem sAl_go {b : Nat → Nat} {e n S p c p1 z p2 : Nat} {L A : Nat → Nat} {dr d1 d2 : Bool} (h1 : Rl (sUni b e n p) e p dr (c, p1, d1)) (h2 : Rl (sCoin b e (L c) S p1) e p1 d1 (z, p2, d2)) : Rl (sAl b e n S L A p) e p dr (if z = 1 then c else A c, p2, d2) := by
  refine Rl_seq (o2 := match sCoin b e (L c) S p1 with | none => none | some z => some (if z.1 = 1 then c else A c, z.2)) h1 (fun _ _ h => by simp [sAl, h]) (fun _ h => by simp [sAl, h]) ?_
  exact Rl_same h2 (fun _ _ h => by rw [h]) (fun _ h => by rw [h])
/-- one level: k numbers from i on -/
def tsc (S : Nat) : Nat → Nat → (Nat → Nat) → Nat → Option Nat × (Nat → Nat) × Nat
  | 0, _, r, d => (none, r, d)
  | k + 1, i, r, d => if S ≤ 2 * r i then (if d = 0 then (some i, r, d) else tsc S k (i + 1) (fU r i (2 * r i - S)) (d - 1)) else tsc S k (i + 1) (fU r i (2 * r i)) d
def sTbL (b : Nat → Nat) (e S N : Nat) : Nat → (Nat → Nat) → Nat → Nat → Option (Nat × Nat)
  | 0, _, _, _ => none
  | k + 1, r, d, p => if p < e then (match tsc S N 0 r (2 * d + b p) with
    | (some o, _, _) => some (o, p + 1)
    | (none, r', d') => sTbL b e S N k r' d' (p + 1)) else none
def sTb (b : Nat → Nat) (e : Nat) (W : Nat → Nat) (p : Nat) : Option (Nat × Nat) := if W (topN W 64 - 1) = sumN W 64 then some (topN W 64 - 1, p) else sTbL b e (sumN W 64) (topN W 64) (e - p + 2) W 0 p
/-- between the levels: I inner nodes, the d-th of them is meant -/
def TbI (S N : Nat) (r : Nat → Nat) (d : Nat) : Prop := (∀ x, x < N → r x < S) ∧ ∃ J, sumN r N = J * S ∧ d < J
/-- within a level, i numbers looked at -/
def TbM (S N i : Nat) (r : Nat → Nat) (d : Nat) : Prop := (∀ x, x < N → r x < S) ∧ ∃ J, sumN (fun x => if x < i then r x else 2 * r x) N = J * S ∧ d < J
theorem TbI_lt {S N d : Nat} {r : Nat → Nat} (h : TbI S N r d) (hN : 0 < N) : d < N := by
  obtain ⟨h1, J, h2, h3⟩ := h
  have h4 := sumN_lt (F := r) (S := S) (i := 0) N (fun x hx => Nat.le_of_lt (h1 x hx)) hN (h1 0 hN)
  rw [h2] at h4
  have := Nat.lt_of_mul_lt_mul_right h4
  omega
theorem TbM_lt {S N i d : Nat} {r : Nat → Nat} (h : TbM S N i r d) (hN : 0 < N) : d < 2 * N := by
  obtain ⟨h1, J, h2, h3⟩ := h
  have h0 := h1 0 hN
  have h4 := sumN_lt (F := fun x => if x < i then r x else 2 * r x) (S := 2 * S) (i := 0) N (fun x hx => by have := h1 x hx; split <;> omega) hN (by show (if 0 < i then r 0 else 2 * r 0) < 2 * S; split <;> omega)
  rw [h2] at h4
  have h5 : J * S < (2 * N) * S := by rw [Nat.mul_assoc, Nat.mul_comm 2 (N * S), Nat.mul_assoc, Nat.mul_comm S 2]; exact h4
  have := Nat.lt_of_mul_lt_mul_right h5
  omega
theorem TbM_start {S N d v : Nat} {r : Nat → Nat} (h : TbI S N r d) (hv : v < 2) : TbM S N 0 r (2 * d + v) := by
  obtain ⟨h1, J, h2, h3⟩ := h
  refine ⟨h1, 2 * J, ?_, by omega⟩
  have : sumN (fun x => if x < 0 then r x else 2 * r x) N = sumN (fun x => 2 * r x) N := sumN_congr N (fun x _ => by simp)
  rw [this, sumN_mul, h2, Nat.mul_assoc]
theorem TbM_end {S N d : Nat} {r : Nat → Nat} (h : TbM S N N r d) : TbI S N r d := by
  obtain ⟨h1, J, h2, h3⟩ := h
  refine ⟨h1, J, ?_, h3⟩
  rw [← h2]
  exact sumN_congr N (fun x hx => by simp [hx])
theorem TbM_low {S N i d : Nat} {r : Nat → Nat} (h : TbM S N i r d) (hi : i < N) (hs : ¬ S ≤ 2 * r i) : TbM S N (i + 1) (fU r i (2 * r i)) d := by
  obtain ⟨h1, J, h2, h3⟩ := h
  refine ⟨fun x hx => ?_, J, ?_, h3⟩
  · unfold fU; split
    · omega
    · exact h1 x hx
  · rw [← h2]
    refine sumN_congr N (fun x hx => ?_)
    unfold fU
    by_cases e1 : x = i
    · subst e1; simp
    · by_cases e2 : x < i
      · simp [e1, e2, show x < i + 1 by omega]
      · simp [e1, e2, show ¬ x < i + 1 by omega]
theorem TbM_high {S N i d : Nat} {r : Nat → Nat} (h : TbM S N i r d) (hS : 0 < S) (hi : i < N) (hs : S ≤ 2 * r i) (hd : ¬ d = 0) : TbM S N (i + 1) (fU r i (2 * r i - S)) (d - 1) := by
  obtain ⟨h1, J, h2, h3⟩ := h
  have hri := h1 i hi
  refine ⟨fun x hx => ?_, J - 1, ?_, by omega⟩
  · unfold fU; split
    · omega
    · exact h1 x hx
  · have e1 : sumN (fun x => if x < i + 1 then fU r i (2 * r i - S) x else 2 * fU r i (2 * r i - S) x) N = sumN (fU (fun x => if x < i then r x else 2 * r x) i (2 * r i - S)) N := by
      refine sumN_congr N (fun x hx => ?_)
      unfold fU
      by_cases e1 : x = i
      · subst e1; simp
      · by_cases e2 : x < i
        · simp [e1, e2, show x < i + 1 by omega]
        · simp [e1, e2, show ¬ x < i + 1 by omega]
    have e2 := sumN_fU (F := fun x => if x < i then r x else 2 * r x) (i := i) (v := 2 * r i - S) N hi
    have e3 : (fun x => if x < i then r x else 2 * r x) i = 2 * r i := by simp
    have e4 : sumN (fU (fun x => if x < i then r x else 2 * r x) i (2 * r i - S)) N + 2 * r i = J * S + (2 * r i - S) := by rw [← e3, ← h2]; simpa using e2
    rw [e1]
    obtain ⟨J, rfl⟩ : ∃ j, J = j + 1 := ⟨J - 1, by omega⟩
    rw [Nat.add_sub_cancel]
    have e5 : (J + 1) * S = J * S + S := Nat.succ_mul J S
    rw [e5] at e4
    omega
theorem sTb_dry {b : Nat → Nat} {e S N k p d : Nat} {r : Nat → Nat} (h : ¬ p < e) : sTbL b e S N (k + 1) r d p = none := by simp [sTbL, h]
theorem sTb_some {b : Nat → Nat} {e S N k p d o : Nat} {r r' : Nat → Nat} {d' : Nat} (h : p < e) (ht : tsc S N 0 r (2 * d + b p) = (some o, r', d')) : sTbL b e S N (k + 1) r d p = some (o, p + 1) := by simp [sTbL, h, ht]
theorem sTb_none {b : Nat → Nat} {e S N k p d : Nat} {r r' : Nat → Nat} {d' : Nat} (h : p < e) (ht : tsc S N 0 r (2 * d + b p) = (none, r', d')) : sTbL b e S N (k + 1) r d p = sTbL b e S N k r' d' (p + 1) := by simp [sTbL, h, ht]
theorem tsc_low {S N i d : Nat} {r : Nat → Nat} (hi : i < N) (hs : ¬ S ≤ 2 * r i) : tsc S (N - i) i r d = tsc S (N - (i + 1)) (i + 1) (fU r i (2 * r i)) d := by
  rw [show N - i = (N - (i + 1)) + 1 by omega]; simp [tsc, hs]
theorem tsc_high {S N i d : Nat} {r : Nat → Nat} (hi : i < N) (hs : S ≤ 2 * r i) (hd : ¬ d = 0) : tsc S (N - i) i r d = tsc S (N - (i + 1)) (i + 1) (fU r i (2 * r i - S)) (d - 1) := by
  rw [show N - i = (N - (i + 1)) + 1 by omega]; simp [tsc, hs, hd]
theorem tsc_out {S N i d : Nat} {r : Nat → Nat} (hi : i < N) (hs : S ≤ 2 * r i) (hd : d = 0) : tsc S (N - i) i r d = (some i, r, d) := by
  rw [show N - i = (N - (i + 1)) + 1 by omega]; simp [tsc, hs, hd]
theorem tsc_end {S N i d : Nat} {r : Nat → Nat} (hi : N ≤ i) : tsc S (N - i) i r d = (none, r, d) := by
  rw [show N - i = 0 by omega]; rfl
