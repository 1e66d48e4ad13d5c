/-! THE REFERENCE: what its own methods do, in the class's words -/
theorem sar_bit (x : Int32) {j : Nat} (hj : j < 32) : (x >>> (nI j &&& 31)) &&& nI 1 = nI (x.toBitVec.toNat / 2 ^ j % 2) := by
  apply Int32.toBitVec_inj.mp
  apply BitVec.eq_of_getLsbD_eq
  intro i hi
  rw [Int32.toBitVec_and, BitVec.getLsbD_and, bit_div]
  have e1 : (x >>> (nI j &&& 31)).toBitVec = x.toBitVec.sshiftRight j := by
    show x.toBitVec.sshiftRight ((nI j &&& 31).toBitVec.smod 32).toNat = _
    rw [shl_amt j hj]
  have h1 : ∀ i, i < 32 → (nI 1).toBitVec.getLsbD i = decide (i = 0) := by decide +kernel
  have h0 : ∀ i, i < 32 → (nI 0).toBitVec.getLsbD i = false := by decide +kernel
  rw [e1, BitVec.getLsbD_sshiftRight]
  by_cases h : i = 0
  · subst h
    rw [h1 0 hi]
    have : j + 0 < 32 := by omega
    cases hb : x.toBitVec.getLsbD j
    · simp [hb, hj, h0]; decide
    · simp [hb, hj, h1]; decide
  · rw [h1 i hi]
    cases hb : x.toBitVec.getLsbD j
    · simp [h, h0 i hi]
    · simp [h, h1 i hi]
/-- the word of the k-th of 128 bits -/
def fW (a b c d : Int32) (k : Nat) : Int32 := if k < 32 then a else if k < 64 then b else if k < 96 then c else d
def fB (a b c d : Int32) (k : Nat) : Nat := (fW a b c d k).toBitVec.toNat / 2 ^ (31 - k % 32) % 2
theorem bitW_feed {f : Nat → Int32} {sz : Nat} {a b c d : Int32} (h : sz % 128 = 0) : (∀ p, p < sz → bitW (upd (upd (upd (upd f (sz / 32) a) ((sz + 32) / 32) b) ((sz + 32 + 32) / 32) c) ((sz + 32 + 32 + 32) / 32) d) p = bitW f p) ∧ ∀ k, k < 128 → bitW (upd (upd (upd (upd f (sz / 32) a) ((sz + 32) / 32) b) ((sz + 32 + 32) / 32) c) ((sz + 32 + 32 + 32) / 32) d) (sz + k) = fB a b c d k := by
  constructor
  · intro p hp
    unfold bitW upd
    rw [if_neg (by omega), if_neg (by omega), if_neg (by omega), if_neg (by omega)]
  · intro k hk
    unfold bitW fB fW upd
    have h32 : (sz + k) % 32 = k % 32 := by omega
    rw [h32]
    by_cases h1 : k < 32
    · rw [if_neg (by omega), if_neg (by omega), if_neg (by omega), if_pos (by omega), if_pos h1]
    · by_cases h2 : k < 64
      · rw [if_neg (by omega), if_neg (by omega), if_pos (by omega), if_neg h1, if_pos h2]
      · by_cases h3 : k < 96
        · rw [if_neg (by omega), if_pos (by omega), if_neg h1, if_neg h2, if_pos h3]
        · rw [if_pos (by omega), if_neg h1, if_neg h2, if_neg h3]
theorem upT {x : Int32} {n : Nat} (hn : n < 2 ^ 31) (h : inR x n) : up x (nI n - nI 1) = true := (up_inR hn).mpr h
theorem upF {x : Int32} {n : Nat} (hn : n < 2 ^ 31) (h : ¬ inR x n) : up x (nI n - nI 1) = false := (inR_tf (up_inR hn)).2 h
theorem upT1 {x : Int32} {n : Nat} (hn : n < 2 ^ 31 - 1) (h : inR x (n + 1)) : up x (nI n) = true := (up_inR1 hn).mpr h
theorem upF1 {x : Int32} {n : Nat} (hn : n < 2 ^ 31 - 1) (h : ¬ inR x (n + 1)) : up x (nI n) = false := (inR_tf (up_inR1 hn)).2 h
theorem inR_2 {x : Int32} (h0 : ¬ x = nI 0) (h1 : ¬ x = nI 1) : ¬ inR x 2 := by
  rintro ⟨a, ha, rfl⟩
  rcases (show a = 0 ∨ a = 1 by omega) with rfl | rfl
  · exact h0 rfl
  · exact h1 rfl
theorem feed_step {gT tp : Nat → Int32} {fd i : Nat} {g : Nat → Int32} {v : Int32} (h1 : ∀ p, p < fd → gT p = tp p) (h2 : ∀ k, k < i → gT (fd + k) = g k) (hv : v = g i) : (∀ p, p < fd → upd gT (fd + i) v p = tp p) ∧ ∀ k, k < i + 1 → upd gT (fd + i) v (fd + k) = g k := by
  constructor
  · intro p hp
    unfold upd
    rw [if_neg (by omega)]
    exact h1 p hp
  · intro k hk
    unfold upd
    by_cases e : k = i
    · subst e; rw [if_pos rfl]; exact hv
    · rw [if_neg (by omega)]; exact h2 k (by omega)
