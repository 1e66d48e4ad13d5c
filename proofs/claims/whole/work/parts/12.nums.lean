/-! numbers: longs compared, a bit of a word, booleans as ints -/
theorem z_lt {a b : Nat} (ha : a < 2 ^ 63) (hb : b < 2 ^ 63) : (lg_cmp (lN a) (lN b) < 0) ↔ a < b := (lg_cmp_lt _ _).trans (pk_lLT ha hb)
theorem z_ge {a b : Nat} (ha : a < 2 ^ 63) (hb : b < 2 ^ 63) : (0 ≤ lg_cmp (lN a) (lN b)) ↔ b ≤ a := (lg_cmp_ge _ _).trans (pk_lLE hb ha)
theorem z_le {a b : Nat} (ha : a < 2 ^ 63) (hb : b < 2 ^ 63) : (lg_cmp (lN a) (lN b) ≤ 0) ↔ a ≤ b := (lg_cmp_le _ _).trans (pk_lLE ha hb)
theorem z_gt {a b : Nat} (ha : a < 2 ^ 63) (hb : b < 2 ^ 63) : (0 < lg_cmp (lN a) (lN b)) ↔ b < a := (lg_cmp_gt _ _).trans (pk_lLT hb ha)
theorem z_eq {a b : Nat} (ha : a < 2 ^ 63) (hb : b < 2 ^ 63) : (lg_cmp (lN a) (lN b) = 0) ↔ a = b := (lg_cmp_eq _ _).trans (pk_lEQ ha hb)
def dI : Bool → Int32
  | true => 1
  | false => 0
theorem dI_0 (b : Bool) : dI b = 0 ↔ b = false := by cases b <;> decide
theorem dI_nar (b : Bool) : narrow .boolean (.int (dI b)) = .int (dI b) := by cases b <;> rfl
theorem dI_fit (b : Bool) : fits .boolean (.int (dI b)) = true := by cases b <;> rfl
theorem ush_amt : ∀ n, n < 32 → (((nI n).toUInt32 &&& Int32.toUInt32 31).toBitVec % 32).toNat = n := by decide +kernel
/-- the bit p of a row of words, the highest bit of each first -/
def bitW (f : Nat → Int32) (p : Nat) : Nat := (f (p / 32)).toBitVec.toNat / 2 ^ (31 - p % 32) % 2
theorem bitW_lt (f : Nat → Int32) (p : Nat) : bitW f p < 2 := Nat.mod_lt _ (by decide)
theorem bitW_eq (x : Int32) {k : Nat} (hk : k < 32) : ((x.toUInt32 >>> ((nI k).toUInt32 &&& Int32.toUInt32 31)).toInt32 &&& nI 1) = nI (x.toBitVec.toNat / 2 ^ k % 2) := by
  rw [pk_and _ 1 (by decide), pk_ushr x (nI k) k (ush_amt k hk)]
