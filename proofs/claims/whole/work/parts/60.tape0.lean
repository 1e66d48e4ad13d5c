/-! one bit of the tape made another; what a kind takes -/
theorem bit_div (x : Int32) (k : Nat) : x.toBitVec.toNat / 2 ^ k % 2 = if x.toBitVec.getLsbD k then 1 else 0 := by
  have h : x.toBitVec.getLsbD k = decide (x.toBitVec.toNat / 2 ^ k % 2 = 1) := by
    show x.toBitVec.toNat.testBit k = _
    exact Nat.testBit_eq_decide_div_mod_eq
  rw [h]
  have : x.toBitVec.toNat / 2 ^ k % 2 < 2 := Nat.mod_lt _ (by decide)
  by_cases h1 : x.toBitVec.toNat / 2 ^ k % 2 = 1
  · simp [h1]
  · simp [h1]; omega
theorem shl_amt : ∀ n, n < 32 → ((nI n &&& 31).toBitVec.smod 32).toNat = n := by decide +kernel
def exW (f : Nat → Int32) (a t : Nat) : Nat → Int32 := upd f (a / 32) (f (a / 32) ^^^ ((nI (bitW f a) ^^^ nI t) <<< (nI (31 - a % 32) &&& 31)))
theorem one_bits : ∀ k, k < 32 → ∀ i, i < 32 → ((nI 1) <<< (nI k &&& 31)).toBitVec.getLsbD i = decide (i = k) := by decide +kernel
theorem zero_bits : ∀ k, k < 32 → ∀ i, i < 32 → ((nI 0) <<< (nI k &&& 31)).toBitVec.getLsbD i = false := by decide +kernel
theorem bitW_ex {f : Nat → Int32} {a t : Nat} (ht : t < 2) (p : Nat) : bitW (exW f a t) p = if p = a then t else bitW f p := by
  by_cases hw : p / 32 = a / 32
  · have hk : 31 - p % 32 < 32 := by omega
    have e1 : bitW (exW f a t) p = if (f (p / 32) ^^^ ((nI (bitW f a) ^^^ nI t) <<< (nI (31 - a % 32) &&& 31))).toBitVec.getLsbD (31 - p % 32) then 1 else 0 := by
      unfold bitW exW
      rw [show upd f (a / 32) (f (a / 32) ^^^ ((nI (bitW f a) ^^^ nI t) <<< (nI (31 - a % 32) &&& 31))) (p / 32) = f (p / 32) ^^^ ((nI (bitW f a) ^^^ nI t) <<< (nI (31 - a % 32) &&& 31)) by rw [hw]; exact pk_us]
      exact bit_div _ _
    have e2 : bitW f p = if (f (p / 32)).toBitVec.getLsbD (31 - p % 32) then 1 else 0 := bit_div _ _
    have hba := bitW_lt f a
    rw [e1, Int32.toBitVec_xor, BitVec.getLsbD_xor]
    by_cases hp : p = a
    · subst hp
      rw [if_pos rfl]
      have hx : (nI (bitW f p) ^^^ nI t) = nI (if bitW f p = t then 0 else 1) := by
        rcases (show bitW f p = 0 ∨ bitW f p = 1 by omega) with h | h <;> rcases (show t = 0 ∨ t = 1 by omega) with h2 | h2 <;> rw [h, h2] <;> decide
      rw [hx]
      by_cases hbt : bitW f p = t
      · rw [if_pos hbt, zero_bits _ hk _ hk, Bool.xor_false, ← e2, hbt]
      · rw [if_neg hbt, one_bits _ hk _ hk]
        simp only [decide_true, Bool.xor_true]
        cases hb : (f (p / 32)).toBitVec.getLsbD (31 - p % 32)
        · rw [hb] at e2; simp at e2; simp; omega
        · rw [hb] at e2; simp at e2; simp; omega
    · rw [if_neg hp, e2]
      have hne : ¬ 31 - p % 32 = 31 - a % 32 := by omega
      have hz : ((nI (bitW f a) ^^^ nI t) <<< (nI (31 - a % 32) &&& 31)).toBitVec.getLsbD (31 - p % 32) = false := by
        have hx : (nI (bitW f a) ^^^ nI t) = nI 0 ∨ (nI (bitW f a) ^^^ nI t) = nI 1 := by
          rcases (show bitW f a = 0 ∨ bitW f a = 1 by omega) with h | h <;> rcases (show t = 0 ∨ t = 1 by omega) with h2 | h2 <;> rw [h, h2] <;> decide
        rcases hx with hx | hx
        · rw [hx]; exact zero_bits _ (by omega) _ hk
        · rw [hx, one_bits _ (by omega) _ hk]; simp [hne]
      rw [hz, Bool.xor_false]
  · have hpa : ¬ p = a := fun q => hw (by rw [q])
    rw [if_neg hpa]
    unfold bitW exW
    rw [pk_un hw]
def up (x m : Int32) : Bool := !decide (x < 0) && !decide (m < x)
def ra (x y : Int32) (m : Int64) : Bool := !decide (x < 0) && !decide (y < 1) && !decide (m * y.toInt64 < x.toInt64)
def wd (a b : Int32) : Int64 := a.toInt64 + 2147483648 * b.toInt64
def okK (k : Nat) (a b c : Int32) : Bool := match k with
  | 0 => up a 7
  | 1 => !decide (a < 0) && up b 511 && !decide (wd a b < 1)
  | 2 => ra a b 1
  | 3 => up a 1000 && ra b c 1
  | 4 => ra a b 1 && up c 100000
  | 5 => ra a b 64
  | 6 => up a 100000 && up b 100000 && up c (a + b)
  | 7 => !decide (a < 1) && up a 1000 && !decide (b < 1) && up b 10
  | 8 => ra a b 1000
  | 9 => up a 256
  | 10 => up a 256 && up b a
  | 11 => up a 128
  | 12 => up a 128
  | 13 => up a 256 && !decide (b < 1) && decide (a - a / b * b = 0)
  | _ => false
def okD (kd a b c : Int32) : Bool := if kd.toInt < 0 ∨ 13 < kd.toInt then false else okK kd.toInt.toNat a b c
theorem sw14 (x : Int32) : (x.toInt < 0 ∨ 13 < x.toInt) ∨ ∃ k, k < 14 ∧ x = nI k := by
  by_cases h : x.toInt < 0 ∨ 13 < x.toInt
  · exact Or.inl h
  · refine Or.inr ⟨x.toInt.toNat, by omega, ?_⟩
    rw [← Int32.toInt_inj, nI_toInt (by omega)]
    omega
theorem okD_k {k : Nat} (hk : k < 14) (a b c : Int32) : okD (nI k) a b c = okK k a b c := by
  unfold okD
  rw [nI_toInt (by omega), if_neg (by omega)]
  simp
