/-! THE REFERENCE: the bits that it reads -/
def MB (tr : Bool) (fd ln sg : Nat) (tp : Nat → Int32) (b : Nat → Nat) (e : Nat) : Prop := e ≤ 16384 ∧ (∀ p, b p < 2) ∧ (tr = false → e = fd ∧ ∀ p, p < e → tp p = nI (b p)) ∧ (tr = true → e = ln ∧ ln ≤ 12 ∧ sg < 2 ^ ln ∧ b = bS ln sg)
theorem bS_eq {ln sg p : Nat} (hl : ln ≤ 12) (hs : sg < 2 ^ ln) (hp : p < ln) : bS ln sg p = sg / 2 ^ (ln - 1 - p) % 2 := by
  unfold bS bitW
  have h1 : sg * 2 ^ (32 - ln) < 2 ^ 32 := by
    have : sg * 2 ^ (32 - ln) < 2 ^ ln * 2 ^ (32 - ln) := Nat.mul_lt_mul_of_pos_right hs (Nat.two_pow_pos _)
    rw [← Nat.pow_add, show ln + (32 - ln) = 32 by omega] at this
    exact this
  rw [pk_shlN _ (32 - ln) (shl_amt _ (by omega)) h1, pk_tn h1, show 31 - p % 32 = (32 - ln) + (ln - 1 - p) by omega, Nat.pow_add, ← Nat.div_div_eq_div_mul, Nat.mul_div_cancel _ (Nat.two_pow_pos _)]
theorem bS_shr {ln sg p : Nat} (hl : ln ≤ 12) (hs : sg < 2 ^ ln) (hp : p < ln) : (nI sg >>> (nI (ln - 1 - p) &&& 31)) &&& nI 1 = nI (bS ln sg p) := by
  have hsg : sg < 4096 := Nat.lt_of_lt_of_le hs (pow_le12 hl)
  rw [pk_shrN (by omega) _ (ln - 1 - p) (shl_amt _ (by omega)), bS_eq hl hs hp]
  have h2 : sg / 2 ^ (ln - 1 - p) ≤ sg := Nat.div_le_self _ _
  exact pk_andN (by omega) 1 (by decide)
