/-! coins in a row, exponential coins -/
theorem sCoinL_gt {b : Nat → Nat} {e den : Nat} : ∀ {k r p : Nat} {q : Nat × Nat}, sCoinL b e den k r p = some q → p < q.2 ∧ q.2 ≤ e := by
  intro k
  induction k with
  | zero => intro r p q h; simp [sCoinL] at h
  | succ k ih =>
    intro r p q h
    by_cases hp : p < e
    · simp only [sCoinL, hp, if_true] at h
      repeat' split at h
      all_goals first | (cases h; exact ⟨Nat.lt_succ_self p, hp⟩) | (have := ih h; omega)
    · simp [sCoinL, hp] at h
theorem sCoin_gt {b : Nat → Nat} {e num den p : Nat} {q : Nat × Nat} (h0 : 0 < num) (h1 : num < den) (h : sCoin b e num den p = some q) : p < q.2 ∧ q.2 ≤ e := by
  rw [sCoin, if_neg (by omega), if_neg (by omega)] at h
  exact sCoinL_gt h
/-- what a draw gave when the bits have not ended -/
theorem Rl_f {o : Option (Nat × Nat)} {e p r p1 : Nat} {dr d1 : Bool} (h : Rl o e p dr (r, p1, d1)) (h1 : d1 = false) : dr = false ∧ o = some (r, p1) ∧ p ≤ p1 ∧ p1 ≤ e := by
  obtain ⟨a1, a2, a3, a4, a5⟩ := h
  have hd : dr = false := by
    cases hd : dr
    · rfl
    · have := a1 hd; simp only at this; rw [h1] at this; cases this
  refine ⟨hd, ?_, a3, a4⟩
  rcases a2 hd with ⟨q, h2, h3⟩ | ⟨h2, h3⟩
  · simp only [Prod.mk.injEq] at h3
    rw [h2, h3.1, h3.2.1]
  · simp only at h3; rw [h1] at h3; cases h3
theorem Rl_t {o : Option (Nat × Nat)} {e p r p1 : Nat} {dr d1 : Bool} (h : Rl o e p dr (r, p1, d1)) (h1 : d1 = true) : (dr = false → o = none) ∧ p1 = e := by
  obtain ⟨a1, a2, a3, a4, a5⟩ := h
  refine ⟨fun hd => ?_, a5 h1⟩
  rcases a2 hd with ⟨q, h2, h3⟩ | ⟨h2, h3⟩
  · simp only [Prod.mk.injEq] at h3; rw [h1] at h3; simp at h3
  · exact h2
theorem Rl_p {o : Option (Nat × Nat)} {e p r p1 : Nat} {dr d1 : Bool} (h : Rl o e p dr (r, p1, d1)) : p ≤ p1 ∧ p1 ≤ e ∧ (d1 = true → p1 = e) := ⟨h.2.2.1, h.2.2.2.1, h.2.2.2.2⟩
/-- two draws, one behind the other -/
theorem Rl_seq {o o1 o2 : Option (Nat × Nat)} {e p r1 p1 : Nat} {dr d1 : Bool} {u : Nat × Nat × Bool} (h1 : Rl o1 e p dr (r1, p1, d1)) (hs : dr = false → d1 = false → o1 = some (r1, p1) → o = o2) (hn : dr = false → o1 = none → o = none) (h : Rl o2 e p1 d1 u) : Rl o e p dr u := by
  cases hd1 : d1
  · obtain ⟨a, c, g, -⟩ := Rl_f h1 hd1
    exact Rl_go a hd1 g (hs a hd1 c) h
  · obtain ⟨a, c⟩ := Rl_t h1 hd1
    exact Rl_end hd1 (Rl_p h1).1 (fun hd => hn hd (a hd)) h
/-- ... and the answer stands with the first -/
theorem Rl_same {o o1 : Option (Nat × Nat)} {e p r r1 p1 : Nat} {dr d1 : Bool} (h1 : Rl o1 e p dr (r1, p1, d1)) (hs : dr = false → d1 = false → o1 = some (r1, p1) → o = some (r, p1)) (hn : dr = false → o1 = none → o = none) : Rl o e p dr (r, p1, d1) := by
  cases hd1 : d1
  · obtain ⟨a, c, g, g2⟩ := Rl_f h1 hd1
    exact Rl_some rfl a (hs a hd1 c) g g2
  · obtain ⟨a, c⟩ := Rl_t h1 hd1
    obtain ⟨a1, a2, a3, a4, a5⟩ := h1
    exact ⟨fun _ => rfl, fun hd => Or.inr ⟨hn hd (a hd), rfl⟩, a3, a4, fun _ => c⟩
def sRowL (b : Nat → Nat) (e num den : Nat) : Nat → Nat → Nat → Option (Nat × Nat)
  | 0, _, _ => none
  | k + 1, c, p => match sCoin b e num den p with
    | none => none
    | some q => if q.1 = 1 then sRowL b e num den k (c + 1) q.2 else some (c, q.2)
def sRow (b : Nat → Nat) (e num den p : Nat) : Option (Nat × Nat) := sRowL b e num den (e - p + 1) 0 p
def sUexL (b : Nat → Nat) (e num den : Nat) : Nat → Nat → Nat → Option (Nat × Nat)
  | 0, _, _ => none
  | k + 1, c, p => match sCoin b e num (c * den) p with
    | none => none
    | some q => if q.1 = 1 then sUexL b e num den k (c + 1) q.2 else some (c % 2, q.2)
def sUex (b : Nat → Nat) (e num den p : Nat) : Option (Nat × Nat) := sUexL b e num den (e - p + 2) 1 p
def sExpL (b : Nat → Nat) (e den : Nat) : Nat → Nat → Nat → Option (Nat × Nat)
  | 0, _, _ => none
  | k + 1, left, p => if den ≤ left then (match sUex b e 1 1 p with
    | none => none
    | some q => if q.1 = 0 then some (0, q.2) else sExpL b e den k (left - den) q.2) else sUex b e left den p
def sExp (b : Nat → Nat) (e num den p : Nat) : Option (Nat × Nat) := sExpL b e den (e - p + 1) num p
theorem sRow_go {b : Nat → Nat} {e num den k c p r1 p1 : Nat} {dr d1 : Bool} {u : Nat × Nat × Bool} (h1 : Rl (sCoin b e num den p) e p dr (r1, p1, d1)) (hr : r1 = 1) (h : Rl (sRowL b e num den k (c + 1) p1) e p1 d1 u) : Rl (sRowL b e num den (k + 1) c p) e p dr u :=
  Rl_seq h1 (fun _ _ h => by simp [sRowL, h, hr]) (fun _ h => by simp [sRowL, h]) h
theorem sRow_out {b : Nat → Nat} {e num den k c p r1 p1 : Nat} {dr d1 : Bool} (h1 : Rl (sCoin b e num den p) e p dr (r1, p1, d1)) (hr : ¬ r1 = 1) : Rl (sRowL b e num den (k + 1) c p) e p dr (c, p1, d1) :=
  Rl_same h1 (fun _ _ h => by simp [sRowL, h, hr]) (fun _ h => by simp [sRowL, h])
theorem sUex_go {b : Nat → Nat} {e num den k c p r1 p1 : Nat} {dr d1 : Bool} {u : Nat × Nat × Bool} (h1 : Rl (sCoin b e num (c * den) p) e p dr (r1, p1, d1)) (hr : r1 = 1) (h : Rl (sUexL b e num den k (c + 1) p1) e p1 d1 u) : Rl (sUexL b e num den (k + 1) c p) e p dr u :=
  Rl_seq h1 (fun _ _ h => by simp [sUexL, h, hr]) (fun _ h => by simp [sUexL, h]) h
theorem sUex_out {b : Nat → Nat} {e num den k c p r1 p1 : Nat} {dr d1 : Bool} (h1 : Rl (sCoin b e num (c * den) p) e p dr (r1, p1, d1)) (hr : ¬ r1 = 1) (hd : d1 = false) : Rl (sUexL b e num den (k + 1) c p) e p dr (c % 2, p1, d1) :=
  Rl_same h1 (fun _ _ h => by simp [sUexL, h, hr]) (fun _ h => by simp [sUexL, h])
theorem sUex_dry {b : Nat → Nat} {e num den k c p r1 p1 r : Nat} {dr d1 : Bool} (h1 : Rl (sCoin b e num (c * den) p) e p dr (r1, p1, d1)) (hd : d1 = true) : Rl (sUexL b e num den (k + 1) c p) e p dr (r, p1, d1) :=
  Rl_same h1 (fun _ h _ => absurd (h.symm.trans hd) (by decide)) (fun _ h => by simp [sUexL, h])
/-- a coin that is no sure thing and came out 1 has read a bit -/
theorem coin_adv {b : Nat → Nat} {e num den p r1 p1 : Nat} {dr d1 : Bool} (h0 : 0 < num) (hn : num < den) (h1 : Rl (sCoin b e num den p) e p dr (r1, p1, d1)) (hz : 0 < num → num < den → d1 = true → r1 = 0) (hr : r1 = 1) : p < p1 ∧ d1 = false ∧ dr = false := by
  cases hd1 : d1
  · obtain ⟨a, c, g, -⟩ := Rl_f h1 hd1
    exact ⟨(sCoin_gt h0 hn c).1, rfl, a⟩
  · have := hz h0 hn hd1; omega
theorem sUexL_gt {b : Nat → Nat} {e num den : Nat} (h0 : 0 < num) (h1 : num ≤ den) : ∀ {k c p : Nat} {q : Nat × Nat}, 0 < c → sUexL b e num den k c p = some q → p < q.2 ∨ (c = 1 ∧ p ≤ q.2) := by
  intro k
  induction k with
  | zero => intro c p q hc h; simp [sUexL] at h
  | succ k ih =>
    intro c p q hc h
    simp only [sUexL] at h
    split at h
    · cases h
    · rename_i q0 hq0
      have hle : num ≤ c * den := Nat.le_trans h1 (Nat.le_mul_of_pos_left _ hc)
      have hp : p ≤ q0.2 := by
        rw [sCoin] at hq0
        split at hq0
        · cases hq0; exact Nat.le_refl _
        · split at hq0
          · cases hq0; exact Nat.le_refl _
          · exact Nat.le_of_lt (sCoinL_gt hq0).1
      have hlt : ¬ (c = 1) → p < q0.2 := fun hc1 => (sCoin_gt h0 (by
        have : 2 * den ≤ c * den := Nat.mul_le_mul_right _ (by omega)
        omega) hq0).1
      split at h
      · rcases ih (Nat.succ_pos c) h with h2 | ⟨h2, -⟩
        · left; omega
        · omega
      · cases h
        by_cases hc1 : c = 1
        · exact Or.inr ⟨hc1, hp⟩
        · exact Or.inl (hlt hc1)
theorem sUex_gt11 {b : Nat → Nat} {e p : Nat} {q : Nat × Nat} (h : sUex b e 1 1 p = some q) : p < q.2 := by
  have h0 : sCoin b e 1 (1 * 1) p = some (1, p) := by simp [sCoin]
  have h1 : sUexL b e 1 1 (e - p + 2) 1 p = sUexL b e 1 1 (e - p + 1) 2 p := by
    show (match sCoin b e 1 (1 * 1) p with | none => none | some q => if q.1 = 1 then sUexL b e 1 1 (e - p + 1) (1 + 1) q.2 else some (1 % 2, q.2)) = _
    rw [h0]; rfl
  rw [sUex, h1] at h
  rcases sUexL_gt (c := 2) (by decide) (by decide) (by decide) h with h | ⟨h, -⟩
  · exact h
  · omega
theorem sExp_go {b : Nat → Nat} {e den k left p r1 p1 : Nat} {dr d1 : Bool} {u : Nat × Nat × Bool} (hl : den ≤ left) (h1 : Rl (sUex b e 1 1 p) e p dr (r1, p1, d1)) (hr : ¬ r1 = 0) (h : Rl (sExpL b e den k (left - den) p1) e p1 d1 u) : Rl (sExpL b e den (k + 1) left p) e p dr u :=
  Rl_seq h1 (fun _ _ h => by simp [sExpL, hl, h, hr]) (fun _ h => by simp [sExpL, hl, h]) h
theorem sExp_out {b : Nat → Nat} {e den k left p r1 p1 : Nat} {dr d1 : Bool} (hl : den ≤ left) (h1 : Rl (sUex b e 1 1 p) e p dr (r1, p1, d1)) (hr : r1 = 0) : Rl (sExpL b e den (k + 1) left p) e p dr (0, p1, d1) :=
  Rl_same h1 (fun _ _ h => by simp [sExpL, hl, h, hr]) (fun _ h => by simp [sExpL, hl, h])
theorem sExp_end {b : Nat → Nat} {e den k left p : Nat} (hl : ¬ den ≤ left) : sExpL b e den (k + 1) left p = sUex b e left den p := by simp [sExpL, hl]
