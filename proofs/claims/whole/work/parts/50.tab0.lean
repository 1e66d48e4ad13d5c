/-! TABLES: sums, the alias pairs and why the shares come out even, the tree's levels -/
def sumN (F : Nat → Nat) : Nat → Nat
  | 0 => 0
  | k + 1 => sumN F k + F k
def cntN (P : Nat → Bool) : Nat → Nat
  | 0 => 0
  | k + 1 => cntN P k + (if P k then 1 else 0)
def topN (F : Nat → Nat) : Nat → Nat
  | 0 => 0
  | k + 1 => if F k = 0 then topN F k else k + 1
theorem topN_le (F : Nat → Nat) : ∀ k, topN F k ≤ k := by
  intro k
  induction k with
  | zero => exact Nat.le_refl _
  | succ k ih => simp only [topN]; split <;> omega
theorem topN_0 (F : Nat → Nat) : ∀ k x, topN F k ≤ x → x < k → F x = 0 := by
  intro k
  induction k with
  | zero => intro x _ h; omega
  | succ k ih =>
    intro x h1 h2
    simp only [topN] at h1
    split at h1
    · rename_i h
      by_cases hx : x = k
      · rw [hx]; exact h
      · exact ih x h1 (by omega)
    · omega
theorem topN_pos (F : Nat → Nat) : ∀ k, 0 < topN F k → ¬ F (topN F k - 1) = 0 := by
  intro k
  induction k with
  | zero => intro h; simp [topN] at h
  | succ k ih =>
    intro h
    simp only [topN] at h ⊢
    split
    · rename_i h1; rw [if_pos h1] at h; exact ih h
    · rename_i h1; simpa using h1
theorem sumN_congr {F F' : Nat → Nat} : ∀ (k : Nat), (∀ x, x < k → F x = F' x) → sumN F k = sumN F' k := by
  intro k
  induction k with
  | zero => intro _; rfl
  | succ k ih => intro h; simp only [sumN, ih (fun x hx => h x (by omega)), h k (by omega)]
theorem sumN_le {F : Nat → Nat} {M : Nat} : ∀ (k : Nat), (∀ x, x < k → F x ≤ M) → sumN F k ≤ k * M := by
  intro k
  induction k with
  | zero => intro _; simp [sumN]
  | succ k ih =>
    intro h
    have h1 := ih (fun x hx => h x (by omega))
    have h2 := h k (by omega)
    simp only [sumN, Nat.succ_mul]
    omega
theorem sumN_ge {F : Nat → Nat} : ∀ (k x : Nat), x < k → F x ≤ sumN F k := by
  intro k
  induction k with
  | zero => intro x h; omega
  | succ k ih =>
    intro x h
    simp only [sumN]
    by_cases hx : x = k
    · rw [hx]; omega
    · have := ih x (by omega); omega
theorem sumN_fU {F : Nat → Nat} {i v : Nat} : ∀ (k : Nat), i < k → sumN (fU F i v) k + F i = sumN F k + v := by
  intro k
  induction k with
  | zero => intro h; omega
  | succ k ih =>
    intro h
    simp only [sumN]
    by_cases hx : i = k
    · subst hx
      have : sumN (fU F i v) i = sumN F i := sumN_congr i (fun x hx => by simp [fU, show ¬ x = i by omega])
      rw [this]
      simp only [fU, if_true]
      omega
    · have := ih (by omega)
      have h2 : fU F i v k = F k := by simp [fU, show ¬ k = i by omega]
      rw [h2]
      omega
theorem sumN_lt {F : Nat → Nat} {S i : Nat} : ∀ (k : Nat), (∀ x, x < k → F x ≤ S) → i < k → F i < S → sumN F k < k * S := by
  intro k
  induction k with
  | zero => intro _ h; omega
  | succ k ih =>
    intro h hi hF
    simp only [sumN, Nat.succ_mul]
    by_cases hx : i = k
    · subst hx
      have := sumN_le i (fun x hx => h x (by omega))
      omega
    · have := ih (fun x hx => h x (by omega)) (by omega) hF
      have := h k (by omega)
      omega
theorem sumN_lo {F : Nat → Nat} {S : Nat} : ∀ (k : Nat), (∀ x, x < k → S ≤ F x) → k * S ≤ sumN F k := by
  intro k
  induction k with
  | zero => intro _; simp [sumN]
  | succ k ih =>
    intro h
    have h1 := ih (fun x hx => h x (by omega))
    have h2 := h k (by omega)
    simp only [sumN, Nat.succ_mul]
    omega
theorem sumN_eq {F : Nat → Nat} {S : Nat} : ∀ (k : Nat), (∀ x, x < k → S ≤ F x) → sumN F k = k * S → ∀ x, x < k → F x = S := by
  intro k
  induction k with
  | zero => intro _ _ x h; omega
  | succ k ih =>
    intro h hs x hx
    have h1 := sumN_lo k (fun x hx => h x (by omega))
    have h2 := h k (by omega)
    simp only [sumN, Nat.succ_mul] at hs
    by_cases hxk : x = k
    · rw [hxk]; omega
    · exact ih (fun x hx => h x (by omega)) (by omega) x (by omega)
theorem sumN_mul (F : Nat → Nat) (c : Nat) : ∀ k, sumN (fun i => c * F i) k = c * sumN F k := by
  intro k
  induction k with
  | zero => rfl
  | succ k ih => simp only [sumN, ih, Nat.mul_add]
theorem sumN_top {F : Nat → Nat} : ∀ (d k : Nat), (∀ x, k ≤ x → x < k + d → F x = 0) → sumN F (k + d) = sumN F k := by
  intro d
  induction d with
  | zero => intro k _; rfl
  | succ d ih =>
    intro k h
    have e1 : sumN F (k + (d + 1)) = sumN F (k + d) + F (k + d) := rfl
    rw [e1, ih k (fun x h1 h2 => h x h1 (by omega)), h (k + d) (by omega) (by omega), Nat.add_zero]
theorem cntN_congr {P P' : Nat → Bool} : ∀ (k : Nat), (∀ x, x < k → P x = P' x) → cntN P k = cntN P' k := by
  intro k
  induction k with
  | zero => intro _; rfl
  | succ k ih => intro h; simp only [cntN, ih (fun x hx => h x (by omega)), h k (by omega)]
theorem cntN_le (P : Nat → Bool) : ∀ k, cntN P k ≤ k := by
  intro k
  induction k with
  | zero => exact Nat.le_refl _
  | succ k ih => simp only [cntN]; split <;> omega
theorem cntN_flip {P P' : Nat → Bool} {j : Nat} (h0 : P j = false) (h1 : P' j = true) (ho : ∀ x, x ≠ j → P' x = P x) : ∀ (k : Nat), j < k → cntN P' k = cntN P k + 1 := by
  intro k
  induction k with
  | zero => intro h; omega
  | succ k ih =>
    intro h
    simp only [cntN]
    by_cases hx : j = k
    · subst hx
      rw [cntN_congr j (fun x hx => ho x (by omega)), h0, h1]
      simp
    · rw [ih (by omega), ho k (by omega)]
      omega
/-- the first of n whose share is no less than S (n: none) -/
def flF (S : Nat) (s : Nat → Nat) : Nat → Nat
  | 0 => 0
  | k + 1 => if flF S s k < k then flF S s k else if s k < S then k + 1 else k
theorem flF_spec (S : Nat) (s : Nat → Nat) : ∀ n, flF S s n ≤ n ∧ (∀ x, x < flF S s n → s x < S) ∧ (flF S s n < n → S ≤ s (flF S s n)) := by
  intro n
  induction n with
  | zero => exact ⟨Nat.le_refl _, fun x h => absurd h (Nat.not_lt_zero x), fun h => absurd h (Nat.not_lt_zero _)⟩
  | succ n ih =>
    obtain ⟨h1, h2, h3⟩ := ih
    simp only [flF]
    split
    · rename_i h; exact ⟨by omega, h2, fun _ => h3 h⟩
    · rename_i h
      have hn : flF S s n = n := by omega
      rw [hn] at h2
      split
      · rename_i hs
        refine ⟨by omega, fun x hx => ?_, fun h => by omega⟩
        by_cases hxn : x = n
        · rw [hxn]; exact hs
        · exact h2 x (by omega)
      · rename_i hs
        exact ⟨by omega, h2, fun _ => by omega⟩
theorem flF_uniq {S n j : Nat} {s : Nat → Nat} (h1 : j ≤ n) (h2 : ∀ x, x < j → s x < S) (h3 : j < n → S ≤ s j) : flF S s n = j := by
  obtain ⟨g1, g2, g3⟩ := flF_spec S s n
  rcases Nat.lt_trichotomy (flF S s n) j with h | h | h
  · have := g3 (by omega); have := h2 _ h; omega
  · exact h
  · have := g2 j h; have := h3 (by omega); omega
def alL (n S : Nat) : Nat → (Nat → Nat) → (Nat → Nat) → (Nat → Nat) → Nat → Nat → (Nat → Nat) × (Nat → Nat)
  | 0, s, A, _, _, _ => (s, A)
  | k + 1, s, A, Q, dn, cnt => if dn < cnt then
      (if s (flF S s n) - (S - s (Q dn)) < S then alL n S k (fU s (flF S s n) (s (flF S s n) - (S - s (Q dn)))) (fU A (Q dn) (flF S s n)) (fU Q cnt (flF S s n)) (dn + 1) (cnt + 1)
       else alL n S k (fU s (flF S s n) (s (flF S s n) - (S - s (Q dn)))) (fU A (Q dn) (flF S s n)) Q (dn + 1) cnt)
    else (s, A)
def smQ (S : Nat) (s : Nat → Nat) : Nat → (Nat → Nat) × Nat
  | 0 => (fun _ => 0, 0)
  | k + 1 => if s k < S then (fU (smQ S s k).1 (smQ S s k).2 k, (smQ S s k).2 + 1) else smQ S s k
def alS (W : Nat → Nat) (n S : Nat) : (Nat → Nat) × (Nat → Nat) := alL n S (n + 1) (fun i => n * W i) (fun i => i) (smQ S (fun i => n * W i) n).1 0 (smQ S (fun i => n * W i) n).2
def AI (n S : Nat) (s Q : Nat → Nat) (dn cnt : Nat) (D : Nat → Bool) : Prop :=
  (∀ d, dn ≤ d → d < cnt → Q d < n ∧ s (Q d) < S ∧ D (Q d) = false) ∧
  (∀ i, i < n → s i < S → D i = false → ∃ d, dn ≤ d ∧ d < cnt ∧ Q d = i) ∧
  (∀ d d', dn ≤ d → d < cnt → dn ≤ d' → d' < cnt → Q d = Q d' → d = d') ∧
  (∀ i, i < n → D i = true → s i < S) ∧
  sumN (fun i => if D i then S else s i) n = n * S ∧
  cntN (fun i => decide (s i < S)) n = cnt ∧ dn ≤ cnt
theorem AI_large {n S : Nat} {s Q : Nat → Nat} {dn cnt : Nat} {D : Nat → Bool} (h : AI n S s Q dn cnt D) (hd : dn < cnt) : flF S s n < n := by
  obtain ⟨h1, h2, h3, h4, h5, h6, h7⟩ := h
  obtain ⟨g1, g2, g3⟩ := flF_spec S s n
  rcases Nat.lt_or_ge (flF S s n) n with q | q
  · exact q
  · obtain ⟨k1, k2, k3⟩ := h1 dn (Nat.le_refl _) hd
    have := sumN_lt (F := fun i => if D i then S else s i) (S := S) (i := Q dn) n (fun x hx => by
      split
      · exact Nat.le_refl _
      · exact Nat.le_of_lt (g2 x (by omega))) k1 (by simp only [k3]; simpa using k2)
    omega
theorem AI_end {n S : Nat} {s Q : Nat → Nat} {dn cnt : Nat} {D : Nat → Bool} (h : AI n S s Q dn cnt D) (hd : ¬ dn < cnt) : ∀ i, i < n → D i = false → s i = S := by
  obtain ⟨h1, h2, h3, h4, h5, h6, h7⟩ := h
  intro i hi hD
  have hge : ∀ x, x < n → S ≤ (if D x then S else s x) := by
    intro x hx
    split
    · exact Nat.le_refl _
    · rename_i hDx
      rcases Nat.lt_or_ge (s x) S with q | q
      · obtain ⟨d, e1, e2, -⟩ := h2 x hx q (by simpa using hDx)
        omega
      · exact q
  have := sumN_eq (F := fun i => if D i then S else s i) n hge h5 i hi
  simpa [hD] using this
theorem AI_step {n S : Nat} {s Q : Nat → Nat} {dn cnt : Nat} {D : Nat → Bool} (h : AI n S s Q dn cnt D) (hd : dn < cnt) (v : Nat) (hv : v = s (flF S s n) - (S - s (Q dn))) :
    (v < S → AI n S (fU s (flF S s n) v) (fU Q cnt (flF S s n)) (dn + 1) (cnt + 1) (fun i => if i = Q dn then true else D i) ∧ cnt < n) ∧
    (¬ v < S → AI n S (fU s (flF S s n) v) Q (dn + 1) cnt (fun i => if i = Q dn then true else D i)) := by
  have hlt := AI_large h hd
  obtain ⟨h1, h2, h3, h4, h5, h6, h7⟩ := h
  obtain ⟨g1, g2, g3⟩ := flF_spec S s n
  have hg := g3 hlt
  obtain ⟨k1, k2, k3⟩ := h1 dn (Nat.le_refl _) hd
  generalize hj : flF S s n = j at *
  have hjQ : ∀ d, dn ≤ d → d < cnt → Q d ≠ j := by
    intro d e1 e2 e3
    have := (h1 d e1 e2).2.1
    rw [e3] at this; omega
  have hDj : D j = false := by
    cases hDj : D j
    · rfl
    · have := h4 j hlt hDj; omega
  have hij : ¬ j = Q dn := fun q => hjQ dn (Nat.le_refl _) hd q.symm
  have hT : sumN (fun i => if (if i = Q dn then true else D i) then S else fU s j v i) n = n * S := by
    have e1 : sumN (fun i => if (if i = Q dn then true else D i) then S else fU s j v i) n = sumN (fU (fU (fun i => if D i then S else s i) (Q dn) S) j v) n := by
      refine sumN_congr n (fun x hx => ?_)
      unfold fU
      by_cases e2 : x = j
      · subst e2; simp [hij, hDj]
      · by_cases e3 : x = Q dn
        · simp [e3, show ¬ Q dn = j from fun q => hij q.symm]
        · simp [e2, e3]
    have e2 := sumN_fU (F := fU (fun i => if D i then S else s i) (Q dn) S) (i := j) (v := v) n hlt
    have e3 := sumN_fU (F := fun i => if D i then S else s i) (i := Q dn) (v := S) n k1
    have e4 : fU (fun i => if D i then S else s i) (Q dn) S j = s j := by simp [fU, hij, hDj]
    have e5 : (fun i => if D i then S else s i) (Q dn) = s (Q dn) := by simp [k3]
    rw [e4] at e2
    have e3' : sumN (fU (fun i => if D i then S else s i) (Q dn) S) n + s (Q dn) = n * S + S := by rw [← e5, ← h5]; exact e3
    rw [e1]
    omega
  have hs1 : ∀ i, i ≠ j → fU s j v i = s i := fun i hi => by simp [fU, hi]
  have hsj : fU s j v j = v := by simp [fU]
  have hD4 : ∀ i, i < n → (if i = Q dn then true else D i) = true → fU s j v i < S := by
    intro i hi hDi
    by_cases e1 : i = Q dn
    · rw [e1, hs1 _ (fun q => hij q.symm)]; exact k2
    · rw [if_neg e1] at hDi
      have := h4 i hi hDi
      by_cases e2 : i = j
      · rw [e2, hDj] at hDi; cases hDi
      · rw [hs1 i e2]; exact this
  have hD1 : ∀ d, dn + 1 ≤ d → d < cnt → Q d < n ∧ fU s j v (Q d) < S ∧ (if Q d = Q dn then true else D (Q d)) = false := by
    intro d e1 e2
    obtain ⟨a1, a2, a3⟩ := h1 d (by omega) e2
    refine ⟨a1, by rw [hs1 _ (hjQ d (by omega) e2)]; exact a2, ?_⟩
    rw [if_neg (fun q => ?_)]
    · exact a3
    · have := h3 d dn (by omega) e2 (Nat.le_refl _) hd q; omega
  have hD2 : ∀ i, i < n → i ≠ j → fU s j v i < S → (if i = Q dn then true else D i) = false → ∃ d, dn + 1 ≤ d ∧ d < cnt ∧ Q d = i := by
    intro i hi hne hs hDi
    by_cases e1 : i = Q dn
    · rw [if_pos e1] at hDi; cases hDi
    · rw [if_neg e1] at hDi
      rw [hs1 i hne] at hs
      obtain ⟨d, a1, a2, a3⟩ := h2 i hi hs hDi
      refine ⟨d, ?_, a2, a3⟩
      rcases Nat.lt_or_ge dn d with q | q
      · exact q
      · have : d = dn := by omega
        subst this
        exact absurd a3.symm e1
  constructor
  · intro hvS
    have hcnt : cntN (fun i => decide (fU s j v i < S)) n = cnt + 1 := by
      rw [← h6]
      exact cntN_flip (j := j) (by simp; omega) (by simp [hsj, hvS]) (fun x hx => by simp [hs1 x hx]) n hlt
    have hle := cntN_le (fun i => decide (fU s j v i < S)) n
    have hQ : ∀ d, d < cnt → fU Q cnt j d = Q d := fun d hd => by simp [fU, show ¬ d = cnt by omega]
    have hQc : fU Q cnt j cnt = j := by simp [fU]
    refine ⟨⟨fun d e1 e2 => ?_, fun i hi hs hDi => ?_, fun d d' e1 e2 e3 e4 e5 => ?_, hD4, hT, hcnt, by omega⟩, by omega⟩
    · by_cases e3 : d = cnt
      · rw [e3, hQc]
        exact ⟨hlt, by rw [hsj]; exact hvS, by show (if j = Q dn then true else D j) = false; rw [if_neg hij]; exact hDj⟩
      · rw [hQ d (by omega)]
        exact hD1 d e1 (by omega)
    · by_cases e3 : i = j
      · exact ⟨cnt, by omega, by omega, by rw [hQc, e3]⟩
      · obtain ⟨d, a1, a2, a3⟩ := hD2 i hi e3 hs hDi
        exact ⟨d, a1, by omega, by rw [hQ d a2]; exact a3⟩
    · by_cases c1 : d = cnt
      · by_cases c2 : d' = cnt
        · omega
        · rw [c1, hQc, hQ d' (by omega)] at e5
          exact absurd e5.symm (hjQ d' (by omega) (by omega))
      · by_cases c2 : d' = cnt
        · rw [c2, hQc, hQ d (by omega)] at e5
          exact absurd e5 (hjQ d (by omega) (by omega))
        · rw [hQ d (by omega), hQ d' (by omega)] at e5
          exact h3 d d' (by omega) (by omega) (by omega) (by omega) e5
  · intro hvS
    have hcnt : cntN (fun i => decide (fU s j v i < S)) n = cnt := by
      rw [← h6]
      refine cntN_congr n (fun x hx => ?_)
      by_cases e1 : x = j
      · rw [e1, hsj]; simp [hvS]; omega
      · rw [hs1 x e1]
    refine ⟨hD1, fun i hi hs hDi => ?_, fun d d' e1 e2 e3 e4 e5 => h3 d d' (by omega) e2 (by omega) e4 e5, hD4, hT, hcnt, by omega⟩
    by_cases e3 : i = j
    · rw [e3, hsj] at hs; omega
    · exact hD2 i hi e3 hs hDi
theorem smQ_spec (S : Nat) (s : Nat → Nat) : ∀ n, (smQ S s n).2 = cntN (fun i => decide (s i < S)) n ∧ (∀ d, d < (smQ S s n).2 → (smQ S s n).1 d < n ∧ s ((smQ S s n).1 d) < S) ∧ (∀ i, i < n → s i < S → ∃ d, d < (smQ S s n).2 ∧ (smQ S s n).1 d = i) ∧ ∀ d d', d < (smQ S s n).2 → d' < (smQ S s n).2 → (smQ S s n).1 d = (smQ S s n).1 d' → d = d' := by
  intro n
  induction n with
  | zero => exact ⟨rfl, fun d h => absurd h (Nat.not_lt_zero d), fun i h => absurd h (Nat.not_lt_zero i), fun d d' h => absurd h (Nat.not_lt_zero d)⟩
  | succ n ih =>
    obtain ⟨h1, h2, h3, h4⟩ := ih
    simp only [smQ, cntN]
    by_cases hs : s n < S
    · simp only [hs, if_true, decide_true]
      have hQ : ∀ d, d < (smQ S s n).2 → fU (smQ S s n).1 (smQ S s n).2 n d = (smQ S s n).1 d := fun d hd => by simp [fU, show ¬ d = (smQ S s n).2 by omega]
      have hQc : fU (smQ S s n).1 (smQ S s n).2 n (smQ S s n).2 = n := by simp [fU]
      refine ⟨by omega, fun d hd => ?_, fun i hi hsi => ?_, fun d d' e1 e2 e3 => ?_⟩
      · by_cases e : d = (smQ S s n).2
        · rw [e, hQc]; exact ⟨by omega, hs⟩
        · rw [hQ d (by omega)]
          have := h2 d (by omega)
          exact ⟨by omega, this.2⟩
      · by_cases e : i = n
        · exact ⟨(smQ S s n).2, by omega, by rw [hQc, e]⟩
        · obtain ⟨d, a1, a2⟩ := h3 i (by omega) hsi
          exact ⟨d, by omega, by rw [hQ d a1]; exact a2⟩
      · by_cases c1 : d = (smQ S s n).2
        · by_cases c2 : d' = (smQ S s n).2
          · omega
          · rw [c1, hQc, hQ d' (by omega)] at e3
            have := (h2 d' (by omega)).1; omega
        · by_cases c2 : d' = (smQ S s n).2
          · rw [c2, hQc, hQ d (by omega)] at e3
            have := (h2 d (by omega)).1; omega
          · rw [hQ d (by omega), hQ d' (by omega)] at e3
            exact h4 d d' (by omega) (by omega) e3
    · simp only [hs, if_false, decide_false, Bool.false_eq_true, if_false, Nat.add_zero]
      refine ⟨h1, fun d hd => ?_, fun i hi hsi => ?_, h4⟩
      · have := h2 d hd; exact ⟨by omega, this.2⟩
      · by_cases e : i = n
        · rw [e] at hsi; exact absurd hsi hs
        · exact h3 i (by omega) hsi
theorem AI_start {n S : Nat} {s : Nat → Nat} (h : sumN s n = n * S) : AI n S s (smQ S s n).1 0 (smQ S s n).2 (fun _ => false) := by
  obtain ⟨h1, h2, h3, h4⟩ := smQ_spec S s n
  refine ⟨fun d _ hd => ⟨(h2 d hd).1, (h2 d hd).2, rfl⟩, fun i hi hs _ => ?_, fun d d' _ e1 _ e2 e3 => h4 d d' e1 e2 e3, (fun i _ h => absurd h Bool.false_ne_true), by simpa using h, h1.symm, Nat.zero_le _⟩
  obtain ⟨d, a1, a2⟩ := h3 i hi hs
  exact ⟨d, Nat.zero_le _, a1, a2⟩
