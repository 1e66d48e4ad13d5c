/-! rows of items -/
def Rg {α : Type} (o : Option (α × Nat)) (e p : Nat) (dr : Bool) (m : α → Prop) (p1 : Nat) (d1 : Bool) : Prop :=
  (dr = true → d1 = true) ∧ (dr = false → (∃ q, o = some q ∧ m q.1 ∧ p1 = q.2 ∧ d1 = false) ∨ (o = none ∧ d1 = true)) ∧ p ≤ p1 ∧ p1 ≤ e ∧ (d1 = true → p1 = e)
theorem Rg_over {α : Type} {o : Option (α × Nat)} {e p : Nat} {dr : Bool} {m : α → Prop} (h : dr = true) (hp : p = e) : Rg o e p dr m p dr :=
  ⟨fun h => h, fun q => absurd (q.symm.trans h) (by decide), Nat.le_refl _, Nat.le_of_eq hp, fun _ => hp⟩
theorem Rg_here {α : Type} {o : Option (α × Nat)} {e p : Nat} {dr : Bool} {m : α → Prop} {a : α} (hp : p ≤ e) (hdr : dr = true → p = e) (ho : o = some (a, p)) (hm : m a) : Rg o e p dr m p dr :=
  ⟨fun h => h, fun q => Or.inl ⟨_, ho, hm, rfl, q⟩, Nat.le_refl _, hp, hdr⟩
theorem Rg_seq {α : Type} {o o2 : Option (α × Nat)} {o1 : Option (Nat × Nat)} {e p r1 p1 p2 : Nat} {dr d1 d2 : Bool} {m : α → Prop} (h1 : Rl o1 e p dr (r1, p1, d1)) (hs : dr = false → d1 = false → o1 = some (r1, p1) → o = o2) (hn : dr = false → o1 = none → o = none) (h : Rg o2 e p1 d1 m p2 d2) : Rg o e p dr m p2 d2 := by
  obtain ⟨a1, a2, a3, a4, a5⟩ := h
  have hp := (Rl_p h1).1
  cases hd1 : d1
  · obtain ⟨a, c, g, -⟩ := Rl_f h1 hd1
    exact ⟨fun q => absurd (a.symm.trans q) (by decide), fun _ => by rw [hs a hd1 c]; exact a2 hd1, by omega, a4, a5⟩
  · obtain ⟨a, c⟩ := Rl_t h1 hd1
    exact ⟨fun _ => a1 hd1, fun q => Or.inr ⟨hn q (a q), a1 hd1⟩, by omega, a4, a5⟩
theorem Rg_f {α : Type} {o : Option (α × Nat)} {e p p1 : Nat} {dr d1 : Bool} {m : α → Prop} (h : Rg o e p dr m p1 d1) (h1 : d1 = false) : dr = false ∧ ∃ a, o = some (a, p1) ∧ m a := by
  obtain ⟨a1, a2, -⟩ := h
  have hd : dr = false := by
    cases hd : dr
    · rfl
    · have := a1 hd; rw [h1] at this; cases this
  refine ⟨hd, ?_⟩
  rcases a2 hd with ⟨q, h2, h3, h4, h5⟩ | ⟨h2, h3⟩
  · exact ⟨q.1, by rw [h4]; exact h2, h3⟩
  · rw [h1] at h3; cases h3
theorem Rg_map {α β : Type} {o : Option (α × Nat)} {o' : Option (β × Nat)} {e p p1 : Nat} {dr d1 : Bool} {m : α → Prop} {m' : β → Prop} (h : Rg o e p dr m p1 d1) (hs : dr = false → d1 = false → ∀ a, o = some (a, p1) → m a → ∃ b, o' = some (b, p1) ∧ m' b) (hn : dr = false → o = none → o' = none) : Rg o' e p dr m' p1 d1 := by
  obtain ⟨a1, a2, a3, a4, a5⟩ := h
  refine ⟨a1, fun hd => ?_, a3, a4, a5⟩
  rcases a2 hd with ⟨q, h2, h3, h4, h5⟩ | ⟨h2, h3⟩
  · obtain ⟨b, g1, g2⟩ := hs hd h5 q.1 (by rw [h4]; exact h2) h3
    exact Or.inl ⟨_, g1, g2, rfl, h5⟩
  · exact Or.inr ⟨hn hd h2, h3⟩
def fU (F : Nat → Nat) (k v : Nat) : Nat → Nat := fun j => if j = k then v else F j
/-- SHUFFLE: positions i, i - 1, .. 1 -/
def sShuL (b : Nat → Nat) (e : Nat) : Nat → (Nat → Nat) → Nat → Option ((Nat → Nat) × Nat)
  | 0, F, p => some (F, p)
  | i + 1, F, p => match sUni b e (i + 2) p with
    | none => none
    | some q => sShuL b e i (fU (fU F (i + 1) (F q.1)) q.1 (F (i + 1))) q.2
def sShu (b : Nat → Nat) (e n p : Nat) : Option ((Nat → Nat) × Nat) := sShuL b e (n - 1) (fun i => i) p
theorem sShu_go {b : Nat → Nat} {e i p r1 p1 p2 : Nat} {dr d1 d2 : Bool} {F : Nat → Nat} {m : (Nat → Nat) → Prop} (hi : 0 < i) (h1 : Rl (sUni b e (i + 1) p) e p dr (r1, p1, d1)) (h : Rg (sShuL b e (i - 1) (fU (fU F i (F r1)) r1 (F i)) p1) e p1 d1 m p2 d2) : Rg (sShuL b e i F p) e p dr m p2 d2 := by
  obtain ⟨i, rfl⟩ : ∃ j, i = j + 1 := ⟨i - 1, by omega⟩
  exact Rg_seq h1 (fun _ _ h => by simp [sShuL, h]) (fun _ h => by simp [sShuL, h]) h
theorem swap_ok {it : Nat → Int32} {F : Nat → Nat} {n i j : Nat} (h : ∀ x, x < n → it x = nI (F x)) (hi : i < n) (hj : j < n) : ∀ x, x < n → upd (upd it i (it j)) j (it i) x = nI (fU (fU F i (F j)) j (F i) x) := by
  intro x hx
  unfold upd fU
  by_cases h1 : x = j
  · simp [h1, h i hi]
  · by_cases h2 : x = i
    · subst h2; simp [h1, h j hj]
    · simp [h1, h2, h x hx]
theorem fU_lt {F : Nat → Nat} {n i j v M : Nat} (h : ∀ x, x < n → F x < M) (hi : i < n) (hj : j < n) : ∀ x, x < n → fU (fU F i (F j)) j (F i) x < M := by
  intro x hx
  unfold fU
  split
  · exact h i hi
  · split
    · exact h j hj
    · exact h x hx
/-- the sum of the items, each times one more than its index -/
def csN (F : Nat → Nat) : Nat → Nat
  | 0 => 0
  | k + 1 => csN F k + (k + 1) * F k
theorem csN_le {F : Nat → Nat} : ∀ (k : Nat), k ≤ 256 → (∀ x, x < k → F x < 65536) → csN F k ≤ k * 16777216 := by
  intro k
  induction k with
  | zero => intro _ _; exact Nat.le_refl _
  | succ k ih =>
    intro hk h
    have h1 := ih (by omega) (fun x hx => h x (by omega))
    have h2 : (k + 1) * F k ≤ 256 * 65536 := Nat.mul_le_mul hk (Nat.le_of_lt (h k (by omega)))
    simp only [csN]
    omega
theorem csN_congr {F F' : Nat → Nat} : ∀ (k : Nat), (∀ x, x < k → F x = F' x) → csN F k = csN F' k := by
  intro k
  induction k with
  | zero => intro _; rfl
  | succ k ih => intro h; simp only [csN, ih (fun x hx => h x (by omega)), h k (by omega)]
