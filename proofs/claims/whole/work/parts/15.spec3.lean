/-! binomial, geometric, hypergeometric -/
theorem Rl_here {o : Option (Nat × Nat)} {c p e : Nat} {dr : Bool} (hp : p ≤ e) (hdr : dr = true → p = e) (ho : o = some (c, p)) : Rl o e p dr (c, p, dr) :=
  ⟨fun h => h, fun q => Or.inl ⟨_, ho, by rw [q]⟩, Nat.le_refl _, hp, hdr⟩
def sBin (b : Nat → Nat) (e num den : Nat) : Nat → Nat → Nat → Option (Nat × Nat)
  | 0, c, p => some (c, p)
  | k + 1, c, p => match sCoin b e num den p with
    | none => none
    | some q => sBin b e num den k (c + q.1) q.2
theorem sBin_go {b : Nat → Nat} {e num den nn i c p r1 p1 : Nat} {dr d1 : Bool} {u : Nat × Nat × Bool} (hi : i < nn) (h1 : Rl (sCoin b e num den p) e p dr (r1, p1, d1)) (h : Rl (sBin b e num den (nn - (i + 1)) (c + r1) p1) e p1 d1 u) : Rl (sBin b e num den (nn - i) c p) e p dr u := by
  rw [show nn - i = (nn - (i + 1)) + 1 by omega]
  exact Rl_seq h1 (fun _ _ h => by simp [sBin, h]) (fun _ h => by simp [sBin, h]) h
theorem sBin_end {b : Nat → Nat} {e num den nn i c p : Nat} (hi : nn ≤ i) : sBin b e num den (nn - i) c p = some (c, p) := by
  rw [show nn - i = 0 by omega]; rfl
def sGeo (b : Nat → Nat) (e num den : Nat) : Nat → Nat → Nat → Option (Nat × Nat)
  | 0, c, p => some (c, p)
  | k + 1, c, p => match sCoin b e num den p with
    | none => none
    | some q => if q.1 = 0 then sGeo b e num den k (c + 1) q.2 else some (c, q.2)
theorem sGeo_0 {b : Nat → Nat} {e den p : Nat} : ∀ (k c : Nat), sGeo b e 0 den k c p = some (c + k, p) := by
  intro k
  induction k with
  | zero => intro c; rfl
  | succ k ih => intro c; simp [sGeo, sCoin, ih]; omega
theorem sGeo_go {b : Nat → Nat} {e num den cap c p r1 p1 : Nat} {dr d1 : Bool} {u : Nat × Nat × Bool} (hi : c < cap) (h1 : Rl (sCoin b e num den p) e p dr (r1, p1, d1)) (hr : r1 = 0) (h : Rl (sGeo b e num den (cap - (c + 1)) (c + 1) p1) e p1 d1 u) : Rl (sGeo b e num den (cap - c) c p) e p dr u := by
  rw [show cap - c = (cap - (c + 1)) + 1 by omega]
  exact Rl_seq h1 (fun _ _ h => by simp [sGeo, h, hr]) (fun _ h => by simp [sGeo, h]) h
theorem sGeo_out {b : Nat → Nat} {e num den cap c p r1 p1 : Nat} {dr d1 : Bool} (hi : c < cap) (h1 : Rl (sCoin b e num den p) e p dr (r1, p1, d1)) (hr : ¬ r1 = 0) : Rl (sGeo b e num den (cap - c) c p) e p dr (c, p1, d1) := by
  rw [show cap - c = (cap - (c + 1)) + 1 by omega]
  exact Rl_same h1 (fun _ _ h => by simp [sGeo, h, hr]) (fun _ h => by simp [sGeo, h])
theorem sGeo_end {b : Nat → Nat} {e num den cap c p : Nat} (hi : cap ≤ c) : sGeo b e num den (cap - c) c p = some (c, p) := by
  rw [show cap - c = 0 by omega]; rfl
def sHyp (b : Nat → Nat) (e : Nat) : Nat → Nat → Nat → Nat → Nat → Option (Nat × Nat)
  | 0, _, _, c, p => some (c, p)
  | k + 1, g, h, c, p => match sCoin b e g (g + h) p with
    | none => none
    | some q => if q.1 = 1 then sHyp b e k (g - 1) h (c + 1) q.2 else sHyp b e k g (h - 1) c q.2
theorem sHyp_g0 {b : Nat → Nat} {e c p : Nat} : ∀ (k h : Nat), sHyp b e k 0 h c p = some (c, p) := by
  intro k
  induction k with
  | zero => intro h; rfl
  | succ k ih => intro h; simp [sHyp, sCoin, ih]
theorem sHyp_h0 {b : Nat → Nat} {e p : Nat} : ∀ (k g c : Nat), k ≤ g → sHyp b e k g 0 c p = some (c + k, p) := by
  intro k
  induction k with
  | zero => intro g c _; rfl
  | succ k ih =>
    intro g c hg
    simp only [sHyp, sCoin, if_neg (show ¬ g = 0 by omega), Nat.add_zero, Nat.le_refl, if_true]
    rw [ih (g - 1) (c + 1) (by omega)]
    congr 2; omega
theorem sHyp_go1 {b : Nat → Nat} {e k g h c p r1 p1 : Nat} {dr d1 : Bool} {u : Nat × Nat × Bool} (hk : 0 < k) (h1 : Rl (sCoin b e g (g + h) p) e p dr (r1, p1, d1)) (hr : r1 = 1) (hh : Rl (sHyp b e (k - 1) (g - 1) h (c + 1) p1) e p1 d1 u) : Rl (sHyp b e k g h c p) e p dr u := by
  obtain ⟨k, rfl⟩ : ∃ j, k = j + 1 := ⟨k - 1, by omega⟩
  exact Rl_seq h1 (fun _ _ h => by simp [sHyp, h, hr]) (fun _ h => by simp [sHyp, h]) hh
theorem sHyp_go0 {b : Nat → Nat} {e k g h c p r1 p1 : Nat} {dr d1 : Bool} {u : Nat × Nat × Bool} (hk : 0 < k) (h1 : Rl (sCoin b e g (g + h) p) e p dr (r1, p1, d1)) (hr : ¬ r1 = 1) (hh : Rl (sHyp b e (k - 1) g (h - 1) c p1) e p1 d1 u) : Rl (sHyp b e k g h c p) e p dr u := by
  obtain ⟨k, rfl⟩ : ∃ j, k = j + 1 := ⟨k - 1, by omega⟩
  exact Rl_seq h1 (fun _ _ h => by simp [sHyp, h, hr]) (fun _ h => by simp [sHyp, h]) hh
