/-! Poisson and bell -/
/-- unit exponential coins of 1 by 1 in a row -/
def sUrL (b : Nat → Nat) (e : Nat) : Nat → Nat → Nat → Option (Nat × Nat)
  | 0, _, _ => none
  | k + 1, c, p => match sUex b e 1 1 p with
    | none => none
    | some q => if q.1 = 1 then sUrL b e k (c + 1) q.2 else some (c, q.2)
def sUr (b : Nat → Nat) (e p : Nat) : Option (Nat × Nat) := sUrL b e (e - p + 1) 0 p
theorem sUr_go {b : Nat → Nat} {e k c p r1 p1 : Nat} {dr d1 : Bool} {u : Nat × Nat × Bool} (h1 : Rl (sUex b e 1 1 p) e p dr (r1, p1, d1)) (hr : r1 = 1) (h : Rl (sUrL b e k (c + 1) p1) e p1 d1 u) : Rl (sUrL b e (k + 1) c p) e p dr u :=
  Rl_seq h1 (fun _ _ h => by simp [sUrL, h, hr]) (fun _ h => by simp [sUrL, h]) h
theorem sUr_out {b : Nat → Nat} {e k c p r1 p1 : Nat} {dr d1 : Bool} (h1 : Rl (sUex b e 1 1 p) e p dr (r1, p1, d1)) (hr : ¬ r1 = 1) : Rl (sUrL b e (k + 1) c p) e p dr (c, p1, d1) :=
  Rl_same h1 (fun _ _ h => by simp [sUrL, h, hr]) (fun _ h => by simp [sUrL, h])
theorem sUrL_gt {b : Nat → Nat} {e : Nat} : ∀ {k c p : Nat} {q : Nat × Nat}, sUrL b e k c p = some q → p < q.2 := by
  intro k
  induction k with
  | zero => intro c p q h; simp [sUrL] at h
  | succ k ih =>
    intro c p q h
    simp only [sUrL] at h
    split at h
    · cases h
    · rename_i q0 hq0
      have := sUex_gt11 hq0
      split at h
      · have := ih h; omega
      · cases h; exact this
/-- whether UNIFORM m, m + 1, .. (k of them) are all 0 -/
def sZer (b : Nat → Nat) (e : Nat) : Nat → Nat → Nat → Option (Nat × Nat)
  | 0, _, p => some (1, p)
  | k + 1, m, p => match sUni b e m p with
    | none => none
    | some q => if q.1 = 0 then sZer b e k (m + 1) q.2 else some (0, q.2)
theorem sZer_go {b : Nat → Nat} {e nn m p r1 p1 : Nat} {dr d1 : Bool} {u : Nat × Nat × Bool} (hm : m ≤ nn) (h1 : Rl (sUni b e m p) e p dr (r1, p1, d1)) (hr : r1 = 0) (h : Rl (sZer b e (nn + 1 - (m + 1)) (m + 1) p1) e p1 d1 u) : Rl (sZer b e (nn + 1 - m) m p) e p dr u := by
  rw [show nn + 1 - m = (nn + 1 - (m + 1)) + 1 by omega]
  exact Rl_seq h1 (fun _ _ h => by simp [sZer, h, hr]) (fun _ h => by simp [sZer, h]) h
theorem sZer_out {b : Nat → Nat} {e nn m p r1 p1 : Nat} {dr d1 : Bool} (hm : m ≤ nn) (h1 : Rl (sUni b e m p) e p dr (r1, p1, d1)) (hr : ¬ r1 = 0) : Rl (sZer b e (nn + 1 - m) m p) e p dr (0, p1, d1) := by
  rw [show nn + 1 - m = (nn + 1 - (m + 1)) + 1 by omega]
  exact Rl_same h1 (fun _ _ h => by simp [sZer, h, hr]) (fun _ h => by simp [sZer, h])
theorem sZer_dry {b : Nat → Nat} {e nn m p r1 r p1 : Nat} {dr d1 : Bool} (hm : m ≤ nn) (h1 : Rl (sUni b e m p) e p dr (r1, p1, d1)) (hd : d1 = true) : Rl (sZer b e (nn + 1 - m) m p) e p dr (r, p1, d1) := by
  rw [show nn + 1 - m = (nn + 1 - (m + 1)) + 1 by omega]
  exact Rl_same h1 (fun _ h _ => absurd (h.symm.trans hd) (by decide)) (fun _ h => by simp [sZer, h])
theorem sZer_end {b : Nat → Nat} {e nn m p : Nat} (hm : nn < m) : sZer b e (nn + 1 - m) m p = some (1, p) := by
  rw [show nn + 1 - m = 0 by omega]; rfl
def sOncL (b : Nat → Nat) (e num den : Nat) : Nat → Nat → Option (Nat × Nat)
  | 0, _ => none
  | k + 1, p => match sRow b e num den p with
    | none => none
    | some q => match sZer b e (q.1 + 1 - 2) 2 q.2 with
      | none => none
      | some z => if z.1 = 1 then some (q.1, z.2) else sOncL b e num den k z.2
def sOnc (b : Nat → Nat) (e num den p : Nat) : Option (Nat × Nat) := sOncL b e num den (e - p + 2) p
theorem sRowL_gt {b : Nat → Nat} {e num den : Nat} (h0 : 0 < num) (hn : num < den) : ∀ {k c p : Nat} {q : Nat × Nat}, sRowL b e num den k c p = some q → p < q.2 := by
  intro k
  induction k with
  | zero => intro c p q h; simp [sRowL] at h
  | succ k ih =>
    intro c p q h
    simp only [sRowL] at h
    split at h
    · cases h
    · rename_i q0 hq0
      have := (sCoin_gt h0 hn hq0).1
      split at h
      · have := ih h; omega
      · cases h; exact this
theorem sOnc_go {b : Nat → Nat} {e num den k p r1 p1 z p2 : Nat} {dr d1 d2 : Bool} {u : Nat × Nat × Bool} (h1 : Rl (sRow b e num den p) e p dr (r1, p1, d1)) (h2 : Rl (sZer b e (r1 + 1 - 2) 2 p1) e p1 d1 (z, p2, d2)) (hz : ¬ z = 1) (h : Rl (sOncL b e num den k p2) e p2 d2 u) : Rl (sOncL b e num den (k + 1) p) e p dr u := by
  refine Rl_seq (o2 := match sZer b e (r1 + 1 - 2) 2 p1 with | none => none | some z => if z.1 = 1 then some (r1, z.2) else sOncL b e num den k z.2) h1 (fun _ _ h => by simp [sOncL, h]) (fun _ h => by simp [sOncL, h]) ?_
  exact Rl_seq h2 (fun _ _ h => by rw [h]; simp [hz]) (fun _ h => by rw [h]) h
theorem sOnc_out {b : Nat → Nat} {e num den k p r1 p1 z p2 : Nat} {dr d1 d2 : Bool} (h1 : Rl (sRow b e num den p) e p dr (r1, p1, d1)) (h2 : Rl (sZer b e (r1 + 1 - 2) 2 p1) e p1 d1 (z, p2, d2)) (hz : z = 1) : Rl (sOncL b e num den (k + 1) p) e p dr (r1, p2, d2) := by
  refine Rl_seq (o2 := match sZer b e (r1 + 1 - 2) 2 p1 with | none => none | some z => if z.1 = 1 then some (r1, z.2) else sOncL b e num den k z.2) h1 (fun _ _ h => by simp [sOncL, h]) (fun _ h => by simp [sOncL, h]) ?_
  exact Rl_same h2 (fun _ _ h => by rw [h]; simp [hz]) (fun _ h => by rw [h])
def sPoi (b : Nat → Nat) (e num den : Nat) : Nat → Nat → Nat → Option (Nat × Nat)
  | 0, c, p => some (c, p)
  | k + 1, c, p => match sOnc b e num den p with
    | none => none
    | some q => sPoi b e num den k (c + q.1) q.2
theorem sPoi_go {b : Nat → Nat} {e num den tt i c p r1 p1 : Nat} {dr d1 : Bool} {u : Nat × Nat × Bool} (hi : i < tt) (h1 : Rl (sOnc b e num den p) e p dr (r1, p1, d1)) (h : Rl (sPoi b e num den (tt - (i + 1)) (c + r1) p1) e p1 d1 u) : Rl (sPoi b e num den (tt - i) c p) e p dr u := by
  rw [show tt - i = (tt - (i + 1)) + 1 by omega]
  exact Rl_seq h1 (fun _ _ h => by simp [sPoi, h]) (fun _ h => by simp [sPoi, h]) h
theorem sPoi_end {b : Nat → Nat} {e num den tt i c p : Nat} (hi : tt ≤ i) : sPoi b e num den (tt - i) c p = some (c, p) := by
  rw [show tt - i = 0 by omega]; rfl
def poT (num den : Nat) : Nat := (2 * num + den - 1) / den
def sPoisson (b : Nat → Nat) (e num den p : Nat) : Option (Nat × Nat) := if num = 0 then some (0, p) else sPoi b e num (poT num den * den) (poT num den) 0 p
theorem poT_bounds {num den : Nat} (h0 : 0 < num) (hd : 0 < den) (h : num ≤ 64 * den) : 0 < poT num den ∧ poT num den ≤ 128 ∧ 2 * num ≤ poT num den * den ∧ poT num den * den ≤ 2 * num + den - 1 := by
  have h1 : poT num den * den ≤ 2 * num + den - 1 := Nat.div_mul_le_self _ _
  have h2 : 2 * num + den - 1 < (poT num den + 1) * den := (Nat.div_lt_iff_lt_mul hd).mp (Nat.lt_succ_self _)
  have h3 : poT num den ≤ 128 := Nat.le_of_lt_succ ((Nat.div_lt_iff_lt_mul hd).mpr (by omega))
  have h4 : 2 * num ≤ poT num den * den := by
    rw [Nat.add_mul, Nat.one_mul] at h2
    omega
  refine ⟨?_, h3, h4, h1⟩
  rcases Nat.eq_zero_or_pos (poT num den) with h | h
  · rw [h] at h4; omega
  · exact h
