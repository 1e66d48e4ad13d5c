/-! WHAT A DRAW IS, over a row of bits b of which e may be read: from the place p the answer and the place behind it, or none when the bits end. One function for class and reference. -/
def sCoinL (b : Nat → Nat) (e den : Nat) : Nat → Nat → Nat → Option (Nat × Nat)
  | 0, _, _ => none
  | k + 1, r, p => if p < e then (if b p = (if den ≤ 2 * r then 1 else 0) then (if 2 * r - (if den ≤ 2 * r then den else 0) = 0 then some (0, p + 1) else sCoinL b e den k (2 * r - (if den ≤ 2 * r then den else 0)) (p + 1)) else some ((if den ≤ 2 * r then 1 else 0), p + 1)) else none
def sCoin (b : Nat → Nat) (e num den p : Nat) : Option (Nat × Nat) := if num = 0 then some (0, p) else if den ≤ num then some (1, p) else sCoinL b e den (e - p + 1) num p
def sUniL (b : Nat → Nat) (e n : Nat) : Nat → Nat → Nat → Nat → Option (Nat × Nat)
  | 0, _, _, _ => none
  | k + 1, m, v, p => if m < n then (if p < e then sUniL b e n k (2 * m) (2 * v + b p) (p + 1) else none) else if v < n then some (v, p) else sUniL b e n k (m - n) (v - n) p
def sUni (b : Nat → Nat) (e n p : Nat) : Option (Nat × Nat) := sUniL b e n (2 * (e - p) + 3) 1 0 p
/-- what a machine's draw has to do with it: dr: the bits had ended before; u: the answer, the place, whether the bits have ended now -/
def Rl (o : Option (Nat × Nat)) (e p : Nat) (dr : Bool) (u : Nat × Nat × Bool) : Prop :=
  (dr = true → u.2.2 = true) ∧ (dr = false → (∃ q, o = some q ∧ u = (q.1, q.2, false)) ∨ (o = none ∧ u.2.2 = true)) ∧ p ≤ u.2.1 ∧ u.2.1 ≤ e ∧ (u.2.2 = true → u.2.1 = e)
def Rbit (b : Nat → Nat) (e p : Nat) (dr : Bool) (u : Nat × Nat × Bool) : Prop := (p < e ∧ u = (b p, p + 1, dr)) ∨ (¬ p < e ∧ u = (0, p, true))
theorem lN_dbl (r : Nat) : lN r + lN r = lN (2 * r) := by rw [lN_add]; congr 1; omega
theorem Rbit_f {b : Nat → Nat} {e p r p1 : Nat} {dr : Bool} (h : Rbit b e p dr (r, p1, false)) : p < e ∧ r = b p ∧ p1 = p + 1 ∧ dr = false := by
  rcases h with ⟨h1, h2⟩ | ⟨h1, h2⟩
  · simp only [Prod.mk.injEq] at h2; exact ⟨h1, h2.1, h2.2.1, h2.2.2.symm⟩
  · simp at h2
theorem Rbit_t {b : Nat → Nat} {e p r p1 : Nat} {dr d1 : Bool} (hp : p ≤ e) (hdr : dr = true → p = e) (h : Rbit b e p dr (r, p1, d1)) (h1 : d1 = true) : p = e ∧ p1 = e ∧ d1 = true := by
  rcases h with ⟨h2, h3⟩ | ⟨h2, h3⟩ <;> simp only [Prod.mk.injEq] at h3
  · have := hdr (by rw [← h3.2.2, h1]); omega
  · exact ⟨by omega, by omega, h1⟩
theorem Rl_dry {o : Option (Nat × Nat)} {e p r p1 : Nat} {dr d1 : Bool} (h : p = e ∧ p1 = e ∧ d1 = true) (ho : o = none) : Rl o e p dr (r, p1, d1) := by
  obtain ⟨h1, h2, h3⟩ := h
  subst h3
  exact ⟨fun _ => rfl, fun _ => Or.inr ⟨ho, rfl⟩, by show p ≤ p1; omega, by show p1 ≤ e; omega, fun _ => h2⟩
theorem Rl_some {o : Option (Nat × Nat)} {e p r p1 : Nat} {dr d1 : Bool} (h : d1 = false) (hd : dr = false) (ho : o = some (r, p1)) (h1 : p ≤ p1) (h2 : p1 ≤ e) : Rl o e p dr (r, p1, d1) := by
  subst h
  exact ⟨(fun q => absurd (hd.symm.trans q) (by decide)), fun _ => Or.inl ⟨_, ho, rfl⟩, h1, h2, (fun q => absurd (show false = true from q) (by decide))⟩
/-- the same draw, gone on with from a later place -/
theorem Rl_go {o o' : Option (Nat × Nat)} {e p p1 : Nat} {dr d1 : Bool} {u : Nat × Nat × Bool} (hd : dr = false) (h1 : d1 = false) (hp : p ≤ p1) (ho : o = o') (h : Rl o' e p1 d1 u) : Rl o e p dr u := by
  obtain ⟨a1, a2, a3, a4, a5⟩ := h
  refine ⟨(fun q => absurd (hd.symm.trans q) (by decide)), fun _ => ?_, by omega, a4, a5⟩
  rw [ho]
  exact a2 h1
section
variable {b : Nat → Nat} {e den k r p p1 r1 : Nat} {dr d1 : Bool} {u : Nat × Nat × Bool}
theorem sCoin_dry (h : p = e) : sCoinL b e den (k + 1) r p = none := by simp [sCoinL, h]
theorem sCoin_out1 (hb : p < e ∧ r1 = b p ∧ p1 = p + 1 ∧ dr = false) (h48 : ¬ (2 * r < den)) (h87 : ¬ (r1 = 1)) (h78 : d1 = false) : Rl (sCoinL b e den (k + 1) r p) e p dr (1, p1, d1) := by
  obtain ⟨h1, h2, h3, h4⟩ := hb
  refine Rl_some h78 h4 ?_ (by omega) (by omega)
  rw [h2] at h87
  simp [sCoinL, h1, show den ≤ 2 * r by omega, h87, h3]
theorem sCoin_out0 (hb : p < e ∧ r1 = b p ∧ p1 = p + 1 ∧ dr = false) (h48 : 2 * r < den) (h87 : ¬ (r1 = 0)) (h78 : d1 = false) : Rl (sCoinL b e den (k + 1) r p) e p dr (0, p1, d1) := by
  obtain ⟨h1, h2, h3, h4⟩ := hb
  refine Rl_some h78 h4 ?_ (by omega) (by omega)
  rw [h2] at h87
  simp [sCoinL, h1, show ¬ den ≤ 2 * r by omega, h87, h3]
theorem sCoin_end1 (hb : p < e ∧ r1 = b p ∧ p1 = p + 1 ∧ dr = false) (h48 : ¬ (2 * r < den)) (h87 : r1 = 1) (h97 : 2 * r - den = 0) (h78 : d1 = false) : Rl (sCoinL b e den (k + 1) r p) e p dr (0, p1, d1) := by
  obtain ⟨h1, h2, h3, h4⟩ := hb
  refine Rl_some h78 h4 ?_ (by omega) (by omega)
  rw [h2] at h87
  simp [sCoinL, h1, show den ≤ 2 * r by omega, h87, h3, h97]
theorem sCoin_end0 (hb : p < e ∧ r1 = b p ∧ p1 = p + 1 ∧ dr = false) (h48 : 2 * r < den) (h87 : r1 = 0) (h97 : 2 * r = 0) (h78 : d1 = false) : Rl (sCoinL b e den (k + 1) r p) e p dr (0, p1, d1) := by
  obtain ⟨h1, h2, h3, h4⟩ := hb
  refine Rl_some h78 h4 ?_ (by omega) (by omega)
  rw [h2] at h87
  have hd : ¬ den = 0 := by omega
  simp [sCoinL, h1, show ¬ den ≤ 2 * r by omega, h87, h3, h97, hd]
theorem sCoin_go1 (hb : p < e ∧ r1 = b p ∧ p1 = p + 1 ∧ dr = false) (h48 : ¬ (2 * r < den)) (h87 : r1 = 1) (h97 : ¬ (2 * r - den = 0)) (h78 : d1 = false) (h : Rl (sCoinL b e den k (2 * r - den) p1) e p1 d1 u) : Rl (sCoinL b e den (k + 1) r p) e p dr u := by
  obtain ⟨h1, h2, h3, h4⟩ := hb
  refine Rl_go h4 h78 (by omega) ?_ h
  rw [h2] at h87
  simp [sCoinL, h1, show den ≤ 2 * r by omega, h87, h3, h97]
theorem sCoin_go0 (hb : p < e ∧ r1 = b p ∧ p1 = p + 1 ∧ dr = false) (h48 : 2 * r < den) (h87 : r1 = 0) (h97 : ¬ (2 * r = 0)) (h78 : d1 = false) (h : Rl (sCoinL b e den k (2 * r) p1) e p1 d1 u) : Rl (sCoinL b e den (k + 1) r p) e p dr u := by
  obtain ⟨h1, h2, h3, h4⟩ := hb
  refine Rl_go h4 h78 (by omega) ?_ h
  rw [h2] at h87
  simp [sCoinL, h1, show ¬ den ≤ 2 * r by omega, h87, h3, h97]
theorem sCoin_triv0 {num : Nat} (hp : p ≤ e) (hdr : dr = true → p = e) (h : num = 0) : Rl (sCoin b e num den p) e p dr (0, p, dr) := by
  refine ⟨fun h => h, fun q => Or.inl ⟨(0, p), by simp [sCoin, h], by rw [q]⟩, Nat.le_refl _, hp, hdr⟩
theorem sCoin_triv1 {num : Nat} (hp : p ≤ e) (hdr : dr = true → p = e) (h : 0 < num ∧ den ≤ num) : Rl (sCoin b e num den p) e p dr (1, p, dr) := by
  refine ⟨fun h => h, fun q => Or.inl ⟨(1, p), by simp [sCoin, h.2, show ¬ num = 0 by omega], by rw [q]⟩, Nat.le_refl _, hp, hdr⟩
end
theorem Rbit_lt {b : Nat → Nat} {e p r p1 : Nat} {dr d1 : Bool} (hb : ∀ q, b q < 2) (h : Rbit b e p dr (r, p1, d1)) : r < 2 := by
  rcases h with ⟨-, h3⟩ | ⟨-, h3⟩ <;> simp only [Prod.mk.injEq] at h3
  · rw [h3.1]; exact hb p
  · omega
theorem Rbit_le {b : Nat → Nat} {e p r p1 : Nat} {dr d1 : Bool} (hp : p ≤ e) (h : Rbit b e p dr (r, p1, d1)) : p1 ≤ e := by
  rcases h with ⟨h1, h3⟩ | ⟨-, h3⟩ <;> simp only [Prod.mk.injEq] at h3 <;> omega
theorem Rbit_c {b : Nat → Nat} {e p r p1 : Nat} {dr d1 : Bool} (hp : p ≤ e) (hdr : dr = false) (h : Rbit b e p dr (r, p1, d1)) : (p < e ∧ r = b p ∧ p1 = p + 1 ∧ d1 = false) ∨ (p = e ∧ p1 = e ∧ r = 0 ∧ d1 = true) := by
  rcases h with ⟨h1, h3⟩ | ⟨h1, h3⟩ <;> simp only [Prod.mk.injEq] at h3
  · exact Or.inl ⟨h1, h3.1, h3.2.1, h3.2.2.trans hdr⟩
  · exact Or.inr ⟨by omega, by omega, h3.1, h3.2.2⟩
/-- once the bits have ended, they have -/
theorem Rl_end {o o' : Option (Nat × Nat)} {e p p1 : Nat} {dr d1 : Bool} {u : Nat × Nat × Bool} (h1 : d1 = true) (hp : p ≤ p1) (ho : dr = false → o = none) (h : Rl o' e p1 d1 u) : Rl o e p dr u := by
  obtain ⟨a1, a2, a3, a4, a5⟩ := h
  exact ⟨fun _ => a1 h1, fun q => Or.inr ⟨ho q, a1 h1⟩, by omega, a4, a5⟩
theorem Rl_over {o : Option (Nat × Nat)} {e p r : Nat} {dr : Bool} (h : dr = true) (hp : p = e) : Rl o e p dr (r, p, dr) :=
  ⟨fun h => h, fun q => absurd (q.symm.trans h) (by decide), Nat.le_refl _, Nat.le_of_eq hp, fun _ => hp⟩
section
variable {b : Nat → Nat} {e nn k m v p p1 r1 : Nat} {dr d1 : Bool} {u : Nat × Nat × Bool}
theorem sUni_bit (hb : (p < e ∧ r1 = b p ∧ p1 = p + 1 ∧ d1 = false) ∨ (p = e ∧ p1 = e ∧ r1 = 0 ∧ d1 = true)) (hd : dr = false) (hm : m < nn) (h : Rl (sUniL b e nn k (2 * m) (2 * v + r1) p1) e p1 d1 u) : Rl (sUniL b e nn (k + 1) m v p) e p dr u := by
  rcases hb with ⟨h1, h2, h3, h4⟩ | ⟨h1, h2, h3, h4⟩
  · exact Rl_go hd h4 (by omega) (by simp [sUniL, hm, h1, h2, h3]) h
  · exact Rl_end h4 (by omega) (fun _ => by simp [sUniL, hm, h1]) h
theorem sUni_sub (hd : dr = false) (hm : nn ≤ m) (hv : nn ≤ v) (h : Rl (sUniL b e nn k (m - nn) (v - nn) p) e p dr u) : Rl (sUniL b e nn (k + 1) m v p) e p dr u :=
  Rl_go hd hd (Nat.le_refl _) (by simp [sUniL, show ¬ m < nn by omega, show ¬ v < nn by omega]) h
theorem sUni_out (hd : dr = false) (hp : p ≤ e) (hm : nn ≤ m) (hv : ¬ nn ≤ v) : Rl (sUniL b e nn (k + 1) m v p) e p dr (v, p, dr) :=
  Rl_some hd hd (by simp [sUniL, show ¬ m < nn by omega, show v < nn by omega]) (Nat.le_refl _) hp
end
theorem Rb_e {b : Nat → Nat} {e p p1 r1 : Nat} {d1 : Bool} (hb : (p < e ∧ r1 = b p ∧ p1 = p + 1 ∧ d1 = false) ∨ (p = e ∧ p1 = e ∧ r1 = 0 ∧ d1 = true)) (h : d1 = true) : p1 = e := by
  rcases hb with ⟨g1, g2, g3, g4⟩ | ⟨g1, g2, g3, g4⟩
  · rw [g4] at h; cases h
  · exact g2
theorem sUni_inv {b : Nat → Nat} {e nn k m v p p1 r1 : Nat} {d1 : Bool} (hb : (p < e ∧ r1 = b p ∧ p1 = p + 1 ∧ d1 = false) ∨ (p = e ∧ p1 = e ∧ r1 = 0 ∧ d1 = true)) (hr : r1 < 2) (hi : v < m ∧ m < 2 * nn ∧ 2 * (e - p) + (if m < nn then 0 else 1) + 1 < k + 1) (hm : m < nn) (h : d1 = false) :
    2 * v + r1 < 2 * m ∧ 2 * m < 2 * nn ∧ 2 * (e - p1) + (if 2 * m < nn then 0 else 1) + 1 < k := by
  rcases hb with ⟨g1, g2, g3, g4⟩ | ⟨g1, g2, g3, g4⟩
  · obtain ⟨h1, h2, h3⟩ := hi
    rw [if_pos hm] at h3
    refine ⟨by omega, by omega, ?_⟩
    split <;> omega
  · rw [g4] at h; cases h
theorem sUni_inv2 {e nn k m v p : Nat} (hi : v < m ∧ m < 2 * nn ∧ 2 * (e - p) + (if m < nn then 0 else 1) + 1 < k + 1) (hm : nn ≤ m) (hv : nn ≤ v) :
    v - nn < m - nn ∧ m - nn < 2 * nn ∧ 2 * (e - p) + (if m - nn < nn then 0 else 1) + 1 < k := by
  obtain ⟨h1, h2, h3⟩ := hi
  rw [if_neg (by omega)] at h3
  refine ⟨by omega, by omega, ?_⟩
  rw [if_pos (by omega)]
  omega
