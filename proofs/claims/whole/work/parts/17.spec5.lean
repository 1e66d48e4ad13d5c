/-! bell -/
def beL (num den : Nat) : Nat → Nat → Nat
  | 0, t => t
  | k + 1, t => if t * t * den ≤ num then beL num den k (t + 1) else t
def beT (num den : Nat) : Nat := beL num den (num + 1) 1
theorem beL_le {num den : Nat} : ∀ (k t : Nat), t ≤ beL num den k t ∧ (beL num den k t = t ∨ (beL num den k t - 1) * (beL num den k t - 1) * den ≤ num) := by
  intro k
  induction k with
  | zero => intro t; exact ⟨Nat.le_refl _, Or.inl rfl⟩
  | succ k ih =>
    intro t
    simp only [beL]
    split
    · rename_i h
      obtain ⟨h1, h2⟩ := ih (t + 1)
      refine ⟨by omega, Or.inr ?_⟩
      rcases h2 with h2 | h2
      · rw [h2]; exact h
      · exact h2
    · exact ⟨Nat.le_refl _, Or.inl rfl⟩
theorem beT_le {num den : Nat} (h1 : num ≤ 1000) (hd : 0 < den) : 1 ≤ beT num den ∧ beT num den ≤ 32 := by
  obtain ⟨h2, h3⟩ := beL_le (num := num) (den := den) (num + 1) 1
  refine ⟨h2, ?_⟩
  show beL num den (num + 1) 1 ≤ 32
  rcases h3 with h3 | h3
  · omega
  · rcases Nat.lt_or_ge 32 (beL num den (num + 1) 1) with h | h
    · have h4 : 32 * 32 ≤ (beL num den (num + 1) 1 - 1) * (beL num den (num + 1) 1 - 1) := Nat.mul_le_mul (by omega) (by omega)
      have h5 : (beL num den (num + 1) 1 - 1) * (beL num den (num + 1) 1 - 1) * 1 ≤ (beL num den (num + 1) 1 - 1) * (beL num den (num + 1) 1 - 1) * den := Nat.mul_le_mul_left _ hd
      omega
    · exact h
def gapN (num den t y : Nat) : Nat := if num ≤ y * den * t then y * den * t - num else num - y * den * t
theorem gapN_sq (num den t y : Nat) : (lN (y * den * t) - lN num) * (lN (y * den * t) - lN num) = lN (gapN num den t y * gapN num den t y) := by
  unfold gapN
  split
  · rename_i h; rw [lN_sub h, lN_mul]
  · rename_i h
    have h1 : lN (y * den * t) - lN num = -(lN (num - y * den * t)) := by
      rw [← lN_sub (show y * den * t ≤ num by omega), Int64.neg_sub]
    rw [h1, Int64.neg_mul, Int64.mul_neg, Int64.neg_neg, lN_mul]
theorem bell_b {num den t u v : Nat} (h1 : num ≤ 1000) (h1' : 1 ≤ num) (h2 : den ≤ 10) (h2' : 1 ≤ den) (h3 : t ≤ 32) (h3' : 1 ≤ t) (hu : u < t) (hv : v < 100000) : u + t * v < 4000000 ∧ gapN num den t (u + t * v) * gapN num den t (u + t * v) < 2 ^ 62 ∧ 0 < 2 * num * den * t * t ∧ 2 * num * den * t * t < 2 ^ 44 := by
  have a1 : t * v ≤ 32 * 100000 := Nat.mul_le_mul h3 (by omega)
  have a2 : (u + t * v) * den ≤ 3200032 * 10 := Nat.mul_le_mul (by omega) h2
  have a3 : (u + t * v) * den * t ≤ 32000320 * 32 := Nat.mul_le_mul (by omega) h3
  have a4 : gapN num den t (u + t * v) ≤ 1024011240 := by unfold gapN; split <;> omega
  have a5 : gapN num den t (u + t * v) * gapN num den t (u + t * v) ≤ 1024011240 * 1024011240 := Nat.mul_le_mul a4 a4
  have b1 : 2 * num * den ≤ 2000 * 10 := Nat.mul_le_mul (by omega) h2
  have b2 : 2 * num * den * t ≤ 20000 * 32 := Nat.mul_le_mul (by omega) h3
  have b3 : 2 * num * den * t * t ≤ 640000 * 32 := Nat.mul_le_mul (by omega) h3
  have b4 : 0 < 2 * num * den * t * t := Nat.mul_pos (Nat.mul_pos (Nat.mul_pos (Nat.mul_pos (by decide) h1') h2') h3') h3'
  exact ⟨by omega, by omega, b4, by omega⟩
def sBe (b : Nat → Nat) (e num den t : Nat) (R : Nat → Option (Nat × Nat)) (y s p : Nat) : Option (Nat × Nat) := match sExp b e (gapN num den t y * gapN num den t y) (2 * num * den * t * t) p with
  | none => none
  | some z => if z.1 = 1 then some (2 * y + s, z.2) else R z.2
def sBd (b : Nat → Nat) (e num den t : Nat) (R : Nat → Option (Nat × Nat)) (y p : Nat) : Option (Nat × Nat) := if p < e then (if y = 0 ∧ b p = 1 then R (p + 1) else sBe b e num den t R y (b p) (p + 1)) else none
def sBc (b : Nat → Nat) (e num den t : Nat) (R : Nat → Option (Nat × Nat)) (u p : Nat) : Option (Nat × Nat) := match sUr b e p with
  | none => none
  | some v => sBd b e num den t R (u + t * v.1) v.2
def sBb (b : Nat → Nat) (e num den t : Nat) (R : Nat → Option (Nat × Nat)) (u p : Nat) : Option (Nat × Nat) := match sExp b e u t p with
  | none => none
  | some x => if x.1 = 0 then R x.2 else sBc b e num den t R u x.2
def sBa (b : Nat → Nat) (e num den t : Nat) (R : Nat → Option (Nat × Nat)) (p : Nat) : Option (Nat × Nat) := match sUni b e t p with
  | none => none
  | some a => sBb b e num den t R a.1 a.2
def sBelL (b : Nat → Nat) (e num den t : Nat) : Nat → Nat → Option (Nat × Nat)
  | 0, _ => none
  | k + 1, p => sBa b e num den t (sBelL b e num den t k) p
def sBell (b : Nat → Nat) (e num den p : Nat) : Option (Nat × Nat) := sBelL b e num den (beT num den) (e - p + 2) p
def blI (r : Nat) : Int64 := if r % 2 = 1 then -(lN (r / 2)) else lN (r / 2)
theorem blI_0 (y : Nat) : blI (2 * y + 0) = lN y := by unfold blI; rw [if_neg (by omega)]; congr 1; omega
theorem blI_1 (y : Nat) : blI (2 * y + 1) = -(lN y) := by unfold blI; rw [if_pos (by omega)]; congr 2; omega
section
variable {b : Nat → Nat} {e num den t : Nat} {R : Nat → Option (Nat × Nat)} {p p1 r1 x y v s : Nat} {dr d1 : Bool} {u : Nat × Nat × Bool}
theorem be_out (h1 : Rl (sExp b e (gapN num den t y * gapN num den t y) (2 * num * den * t * t) p) e p dr (r1, p1, d1)) (hr : r1 = 1) : Rl (sBe b e num den t R y s p) e p dr (2 * y + s, p1, d1) :=
  Rl_same h1 (fun _ _ h => by simp [sBe, h, hr]) (fun _ h => by simp [sBe, h])
theorem be_go (h1 : Rl (sExp b e (gapN num den t y * gapN num den t y) (2 * num * den * t * t) p) e p dr (r1, p1, d1)) (hr : ¬ r1 = 1) (h : Rl (R p1) e p1 d1 u) : Rl (sBe b e num den t R y s p) e p dr u :=
  Rl_seq h1 (fun _ _ h => by simp [sBe, h, hr]) (fun _ h => by simp [sBe, h]) h
theorem bd_no (hp : p ≤ e) (hdr : dr = true → p = e) (h1 : Rbit b e p dr (s, p1, d1)) (hy : ¬ (y = 0 ∧ s = 1)) (h : Rl (sBe b e num den t R y s p1) e p1 d1 u) : Rl (sBd b e num den t R y p) e p dr u := by
  rcases h1 with ⟨h2, h3⟩ | ⟨h2, h3⟩ <;> simp only [Prod.mk.injEq] at h3
  · have hd : dr = false := by cases hd : dr; rfl; have := hdr hd; omega
    obtain ⟨e1, e2, e3⟩ := h3
    rw [e1] at hy
    exact Rl_go hd (e3.trans hd) (by omega) (by rw [sBd, if_pos h2, if_neg hy, e1, e2]) h
  · exact Rl_end h3.2.2 (by omega) (fun _ => by rw [sBd, if_neg h2]) h
theorem bd_yes (hp : p ≤ e) (hdr : dr = true → p = e) (h1 : Rbit b e p dr (s, p1, d1)) (hy : y = 0 ∧ s = 1) (h : Rl (R p1) e p1 d1 u) : Rl (sBd b e num den t R y p) e p dr u := by
  rcases h1 with ⟨h2, h3⟩ | ⟨h2, h3⟩ <;> simp only [Prod.mk.injEq] at h3
  · have hd : dr = false := by cases hd : dr; rfl; have := hdr hd; omega
    obtain ⟨e1, e2, e3⟩ := h3
    rw [e1] at hy
    exact Rl_go hd (e3.trans hd) (by omega) (by rw [sBd, if_pos h2, if_pos hy, e2]) h
  · exact Rl_end h3.2.2 (by omega) (fun _ => by rw [sBd, if_neg h2]) h
theorem bc_go (h1 : Rl (sUr b e p) e p dr (v, p1, d1)) (h : Rl (sBd b e num den t R (x + t * v) p1) e p1 d1 u) : Rl (sBc b e num den t R x p) e p dr u :=
  Rl_seq h1 (fun _ _ h => by simp [sBc, h]) (fun _ h => by simp [sBc, h]) h
theorem bb_go (h1 : Rl (sExp b e x t p) e p dr (r1, p1, d1)) (hr : ¬ r1 = 0) (h : Rl (sBc b e num den t R x p1) e p1 d1 u) : Rl (sBb b e num den t R x p) e p dr u :=
  Rl_seq h1 (fun _ _ h => by simp [sBb, h, hr]) (fun _ h => by simp [sBb, h]) h
theorem bb_no (h1 : Rl (sExp b e x t p) e p dr (r1, p1, d1)) (hr : r1 = 0) (h : Rl (R p1) e p1 d1 u) : Rl (sBb b e num den t R x p) e p dr u :=
  Rl_seq h1 (fun _ _ h => by simp [sBb, h, hr]) (fun _ h => by simp [sBb, h]) h
theorem ba_go (h1 : Rl (sUni b e t p) e p dr (x, p1, d1)) (h : Rl (sBb b e num den t R x p1) e p1 d1 u) : Rl (sBa b e num den t R p) e p dr u :=
  Rl_seq h1 (fun _ _ h => by simp [sBa, h]) (fun _ h => by simp [sBa, h]) h
end
theorem sUex_gt0 {b : Nat → Nat} {e num den p : Nat} {q : Nat × Nat} (h1 : num ≤ den) (h : sUex b e num den p = some q) (hq : q.1 = 0) : p < q.2 := by
  unfold sUex at h
  rw [show e - p + 2 = (e - p + 1) + 1 from rfl] at h
  simp only [sUexL] at h
  split at h
  · cases h
  · rename_i q0 hq0
    split at h
    · rename_i hr
      have h0 : 0 < num := by
        rcases Nat.eq_zero_or_pos num with h | h
        · subst h; simp [sCoin] at hq0; rw [← hq0] at hr; simp at hr
        · exact h
      have hp : p ≤ q0.2 := by
        rw [sCoin] at hq0
        split at hq0
        · cases hq0; exact Nat.le_refl _
        · split at hq0
          · cases hq0; exact Nat.le_refl _
          · exact Nat.le_of_lt (sCoinL_gt hq0).1
      have := sUexL_gt (k := e - p + 1) (c := 1 + 1) h0 h1 (by decide) h
      omega
    · cases h; simp at hq
theorem bell_adv1 {b : Nat → Nat} {e t k x p p1 p2 r1 : Nat} {dr d1 d2 : Bool} (hx : x < t) (hd : dr = false) (hk : e - p + (if dr = true then 0 else 1) < k + 1) (hp1 : p ≤ p1 ∧ p1 ≤ e ∧ (d1 = true → p1 = e)) (h2 : Rl (sExp b e x t p1) e p1 d1 (r1, p2, d2)) (hr : r1 = 0) : e - p2 + (if d2 = true then 0 else 1) < k := by
  rw [hd, if_neg (by decide)] at hk
  have hp2 := Rl_p h2
  cases hd2 : d2
  · obtain ⟨-, c, -, -⟩ := Rl_f h2 hd2
    rw [sExp, sExp_end (by omega)] at c
    have := sUex_gt0 (Nat.le_of_lt hx) c hr
    simp only at this
    simp only [Bool.false_eq_true, if_false]
    omega
  · have := hp2.2.2 hd2
    rw [if_pos rfl]
    omega
theorem bell_adv2 {b : Nat → Nat} {e k v p p2 p3 p4 : Nat} {dr d2 d3 d4 : Bool} (hd : dr = false) (hk : e - p + (if dr = true then 0 else 1) < k + 1) (hp : p ≤ p2) (hp2 : p2 ≤ e) (h3 : Rl (sUr b e p2) e p2 d2 (v, p3, d3)) (h4 : p3 ≤ p4) (h4e : p4 ≤ e) (hd4 : d4 = true → p4 = e) (hdd : d3 = true → d4 = true) : e - p4 + (if d4 = true then 0 else 1) < k := by
  rw [hd, if_neg (by decide)] at hk
  cases hd4' : d4
  · cases hd3 : d3
    · obtain ⟨-, c, -, -⟩ := Rl_f h3 hd3
      have := sUrL_gt c
      simp only at this
      simp only [Bool.false_eq_true, if_false]
      omega
    · rw [hdd hd3] at hd4'; cases hd4'
  · have := hd4 hd4'
    rw [if_pos rfl]
    omega
theorem Rbit_d {b : Nat → Nat} {e p r p1 : Nat} {dr d1 : Bool} (h : Rbit b e p dr (r, p1, d1)) : (dr = true → d1 = true) ∧ p ≤ p1 := by
  rcases h with ⟨h1, h3⟩ | ⟨h1, h3⟩ <;> simp only [Prod.mk.injEq] at h3
  · exact ⟨fun h => h3.2.2.trans h, by omega⟩
  · exact ⟨fun _ => h3.2.2, by omega⟩
theorem Rbit_e {b : Nat → Nat} {e p r p1 : Nat} {dr d1 : Bool} (hp : p ≤ e) (hdr : dr = true → p = e) (h : Rbit b e p dr (r, p1, d1)) : d1 = true → p1 = e := by
  rcases h with ⟨h1, h3⟩ | ⟨h1, h3⟩ <;> simp only [Prod.mk.injEq] at h3
  · intro q; have := hdr (h3.2.2.symm.trans q); omega
  · intro _; omega
