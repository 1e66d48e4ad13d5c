/-! THE REFERENCE: ranges -/
def wi (v lo hi : Int64) : Bool := !decide (v < lo) && !decide (hi < v)
theorem toL_lt (x y : Int32) : x.toInt64 < y.toInt64 ↔ x < y := by
  rw [Int64.lt_iff_toInt_lt, Int32.lt_iff_toInt_lt, Int32.toInt_toInt64, Int32.toInt_toInt64]
theorem toL_0 (x : Int32) : x.toInt64 < 0 ↔ x < 0 := by
  rw [show (0 : Int64) = (0 : Int32).toInt64 by decide]; exact toL_lt x 0
theorem wi_up (x M : Int32) : wi x.toInt64 0 M.toInt64 = up x M := by
  unfold wi up
  simp only [toL_0, toL_lt]
theorem wi_0 (x : Int32) (h : Int64) : wi x.toInt64 0 h = (!decide (x < 0) && !decide (h < x.toInt64)) := by
  unfold wi
  simp only [toL_0]
theorem up_inR {x : Int32} {n : Nat} (hn : n < 2 ^ 31) : up x (nI n - nI 1) = true ↔ inR x n := by
  unfold up
  simp only [Bool.and_eq_true, Bool.not_eq_true', decide_eq_false_iff_not]
  constructor
  · rintro ⟨h1, h2⟩
    obtain ⟨a, ha, rfl⟩ := nI_of h1
    rcases Nat.eq_zero_or_pos n with h0 | h0
    · subst h0
      exfalso
      apply h2
      rw [show nI 0 - nI 1 = -1 by decide, Int32.lt_iff_toInt_lt, nI_toInt ha]
      have : (-1 : Int32).toInt = -1 := by decide
      omega
    · rw [pk_sub h0, nI_ltI (by omega) ha] at h2
      exact ⟨a, by omega, rfl⟩
  · rintro ⟨a, ha, rfl⟩
    refine ⟨fun q => absurd ((nI_ltI (b := 0) (by omega) (by decide)).mp q) (by omega), ?_⟩
    rw [pk_sub (by omega), nI_ltI (by omega) (by omega)]
    omega
theorem up_inR1 {x : Int32} {n : Nat} (hn : n < 2 ^ 31 - 1) : up x (nI n) = true ↔ inR x (n + 1) := by
  rw [← up_inR (by omega), show nI (n + 1) - nI 1 = nI n from pk_sub (by omega)]
theorem inR_tf {b : Bool} {P : Prop} (h : b = true ↔ P) : (P → b = true) ∧ (¬ P → b = false) := ⟨h.mpr, fun q => (Bool.eq_false_or_eq_true b).elim (fun hb => absurd (h.mp hb) q) id⟩
