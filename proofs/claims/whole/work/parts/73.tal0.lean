/-! strings of a length, and how many of them decide -/
theorem v_arI {G : vG} {X : vX} {R : Room} {cc : ByteArray} {nL : Nat} {own : String} {ws ws' : va_W} {ce sl : Nat} {lv : List (Nat × Value)} {pc : Nat} {st : List Value} {a n : Nat} {cA : ClassId} {f g : Nat → Int32} (q0 : Nat) (he : ws[q0]? = some (a, .inl (cA, n, .inl f))) (hfg : ∀ i, i < n → f i = g i) (hw : ws.set q0 (a, .inl (cA, n, .inl g)) = ws') (k : V G X R cc nL own ws' ce sl lv pc st) : V G X R cc nL own ws ce sl lv pc st := by
  intro hC H locs ls hP hD hS hl
  subst hw
  have h0 : va_at G.1 vwCl (a, .inl (cA, n, .inl f)) H := hP q0 _ he
  have h1 : va_at G.1 vwCl (a, .inl (cA, n, .inl g)) H := by
    have e1 : H[a]? = some (arrV cA n (fun j => .int (f j))) := h0
    show H[a]? = some (arrV cA n (fun j => .int (g j)))
    rw [e1]
    have e2 : arrV cA n (fun j => Value.int (f j)) = arrV cA n (fun j => Value.int (g j)) := by
      unfold arrV
      congr 1
      refine congrArg _ (funext fun j => ?_)
      show Value.int (f j.val) = Value.int (g j.val)
      rw [hfg j.val j.isLt]
    rw [e2]
  exact k hC H locs ls (hP.set hD he h1 (fun _ _ => rfl)) (hD.set he) hS hl
def bS (len s : Nat) : Nat → Nat := bitW (fun _ => nI s <<< (nI (32 - len) &&& 31))
/-- how many of the strings from s on decide with an answer that 'want' takes, or decide nothing -/
def talL (A : Nat → Option (sR × Nat)) (len : Nat) (dec : Bool) (out : Int64) : Nat → Nat → Nat → Nat
  | 0, _, found => found
  | k + 1, s, found => if s < 2 ^ len then
      (match A s with
        | none => talL A len dec out k (s + 1) (if dec then found else found + 1)
        | some q => talL A len dec out k (s + 2 ^ (len - q.2)) (if dec = true ∧ q.1.1 = out then found + 2 ^ (len - q.2) else found))
    else found
def sTal (kd a b c : Int32) (W : Nat → Nat) (mm len : Nat) (dec : Bool) (out : Int64) : Nat := talL (fun s => sAnsI (bS len s) len kd a b c W mm 0) len dec out (2 ^ len + 1) 0 0
theorem shl1 : ∀ n, n < 13 → (nI 1) <<< (nI n &&& 31) = nI (2 ^ n) := by decide +kernel
theorem shrN : ∀ n, n < 13 → ∀ k, k < 13 → (nI (2 ^ n)) >>> (nI k &&& 31) = nI (2 ^ n / 2 ^ k) := by decide +kernel
theorem max_pow {n k : Nat} (h : k ≤ n) : max 1 (2 ^ n / 2 ^ k) = 2 ^ (n - k) := by
  rw [Nat.pow_div h (by decide)]
  exact Nat.max_eq_right (Nat.one_le_two_pow)
theorem pow_le12 {n : Nat} (h : n ≤ 12) : 2 ^ n ≤ 4096 := Nat.pow_le_pow_right (n := 2) (by decide) h
