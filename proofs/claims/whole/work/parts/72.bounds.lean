/-! how large items are; what a draw's end says -/
theorem sCoinL_bit {b : Nat → Nat} {e den : Nat} : ∀ {k r p : Nat} {q : Nat × Nat}, sCoinL b e den k r p = some q → q.1 ≤ 1 := by
  intro k
  induction k with
  | zero => intro r p q h; simp [sCoinL] at h
  | succ k ih =>
    intro r p q h
    simp only [sCoinL] at h
    repeat' split at h
    all_goals first | exact ih h | (cases h; simp) | (cases h) | skip
    all_goals (cases h; simp)
theorem sCoin_bit {b : Nat → Nat} {e num den p : Nat} {q : Nat × Nat} (h : sCoin b e num den p = some q) : q.1 ≤ 1 := by
  unfold sCoin at h
  split at h
  · cases h; simp
  · split at h
    · cases h; simp
    · exact sCoinL_bit h
theorem sSubL_lt {b : Nat → Nat} {e kk M : Nat} : ∀ {k i c : Nat} {F : Nat → Nat} {p : Nat} {q : (Nat × (Nat → Nat)) × Nat}, (∀ x, x < c → F x < M) → i + k ≤ M → sSubL b e kk k i c F p = some q → ∀ x, x < q.1.1 → q.1.2 x < M := by
  intro k
  induction k with
  | zero => intro i c F p q hF hi h; simp only [sSubL] at h; cases h; exact hF
  | succ k ih =>
    intro i c F p q hF hi h
    simp only [sSubL] at h
    split at h
    · cases h
    · split at h
      · refine ih (fun x hx => ?_) (by omega) h
        unfold fU
        split
        · omega
        · exact hF x (by omega)
      · exact ih hF (by omega) h
theorem sPatL_le {b : Nat → Nat} {e : Nat} : ∀ {r a h : Nat} {F : Nat → Nat} {p : Nat} {q : (Nat → Nat) × Nat}, (∀ x, F x ≤ 1) → sPatL b e r a h F p = some q → ∀ x, q.1 x ≤ 1 := by
  intro r
  induction r with
  | zero => intro a h F p q hF hh; simp only [sPatL] at hh; cases hh; exact hF
  | succ r ih =>
    intro a h F p q hF hh
    simp only [sPatL] at hh
    split at hh
    · cases hh
    · rename_i q0 hq0
      refine ih (fun x => ?_) hh
      unfold fU
      split
      · exact sCoin_bit hq0
      · exact hF x
theorem mtL_le {F : Nat → Nat} : ∀ (f h k : Nat), mtL F f h k ≤ k + f := by
  intro f
  induction f with
  | zero => intro h k; exact Nat.le_refl _
  | succ f ih =>
    intro h k
    simp only [mtL]
    have h1 := ih (h + 1) (k + 1)
    have h2 := ih (h - 1) (k + 1)
    by_cases hF : F (k + 1) = 1
    · rw [if_pos hF]; split <;> omega
    · rw [if_neg hF]; split <;> omega
theorem sShu_lt {b : Nat → Nat} {e n p : Nat} {q : (Nat → Nat) × Nat} (h : sShu b e n p = some q) : ∀ x, x < n → q.1 x < n := by
  intro x hx
  exact sShuL_lt (i := n - 1) (n := n) (M := n) (by omega) (fun x hx => hx) h x hx
theorem sAns_bd {b : Nat → Nat} {e k x y z : Nat} {W : Nat → Nat} {mm p : Nat} {r : sR} {q : Nat} (hk : k < 14) (hx : 9 ≤ k → x ≤ 256) (h : sAns b e k x y z W mm p = some (r, q)) : ∀ i, i < r.2.1 → r.2.2 i < 65536 := by
  have hM : ∀ {o : Option (Nat × Nat)} {g : Nat → Int64}, oM o g = some (r, q) → ∀ i, i < r.2.1 → r.2.2 i < 65536 := by
    intro o g h i hi
    unfold oM at h
    split at h
    · cases h
    · cases h; exact absurd hi (Nat.not_lt_zero _)
  rcases (show k = 0 ∨ k = 1 ∨ k = 2 ∨ k = 3 ∨ k = 4 ∨ k = 5 ∨ k = 6 ∨ k = 7 ∨ k = 8 ∨ k = 9 ∨ k = 10 ∨ k = 11 ∨ k = 12 ∨ k = 13 by omega) with rfl | rfl | rfl | rfl | rfl | rfl | rfl | rfl | rfl | rfl | rfl | rfl | rfl | rfl
  all_goals try exact hM h
  · have hx := hx (by decide)
    simp only [sAns, oF] at h
    split at h
    · cases h
    · rename_i q0 hq0
      cases h
      intro i hi
      have := sShu_lt hq0 i hi
      show q0.1 i < 65536
      omega
  · have hx := hx (by decide)
    simp only [sAns, oS] at h
    split at h
    · cases h
    · rename_i q0 hq0
      cases h
      intro i hi
      have := sSubL_lt (M := x) (fun x hx => absurd hx (Nat.not_lt_zero _)) (by omega) hq0 i hi
      show q0.1.2 i < 65536
      omega
  · simp only [sAns, oF] at h
    split at h
    · cases h
    · rename_i q0 hq0
      cases h
      intro i hi
      have := sPatL_le (fun _ => Nat.zero_le 1) hq0 i
      show q0.1 i < 65536
      omega
  · have hx := hx (by decide)
    simp only [sAns, oF, sTre] at h
    split at h
    · cases h
    · rename_i q0 hq0
      split at hq0
      · cases hq0
      · cases hq0
        cases h
        intro i hi
        show belowN _ (2 * x) _ < 65536
        unfold belowN
        rename_i q1 hq1
        have := mtL_le (F := q1.1) (2 * x) 1 ((ul q1.1 (2 * x)).getD i 0)
        omega
  · have hx := hx (by decide)
    simp only [sAns, oF, sStr] at h
    split at h
    · cases h
    · rename_i q0 hq0
      split at hq0
      · cases hq0
      · cases hq0
        cases h
        intro i hi
        rename_i q1 hq1
        have := sShu_lt hq1 i hi
        show q1.1 i % y < 65536
        have := Nat.mod_le (q1.1 i) y
        omega
theorem okD_x {kd a b c : Int32} (hok : okD kd a b c = true) : kd.toInt.toNat < 14 ∧ (9 ≤ kd.toInt.toNat → a.toNatClampNeg ≤ 256) ∧ ¬ kd < 0 ∧ (kd = nI 0 → inR a 8) := by
  rcases sw14 kd with h | ⟨k, hk0, rfl⟩
  · rw [show okD kd a b c = false from if_pos h] at hok; cases hok
  rw [kd_k hk0]
  refine ⟨hk0, fun h9 => ?_, fun q => absurd ((nI_ltI (b := 0) (by omega) (by decide)).mp q) (by omega), fun h0 => ?_⟩
  · rw [okD_k hk0] at hok
    rcases (show k = 9 ∨ k = 10 ∨ k = 11 ∨ k = 12 ∨ k = 13 by omega) with rfl | rfl | rfl | rfl | rfl <;> simp only [okK, Bool.and_eq_true] at hok
    · obtain ⟨n, h1, rfl⟩ := up_of (M := 256) (by decide) (by decide) hok; rw [nI_clamp (by omega)]; exact h1
    · obtain ⟨n, h1, rfl⟩ := up_of (M := 256) (by decide) (by decide) hok.1; rw [nI_clamp (by omega)]; exact h1
    · obtain ⟨n, h1, rfl⟩ := up_of (M := 128) (by decide) (by decide) hok; rw [nI_clamp (by omega)]; omega
    · obtain ⟨n, h1, rfl⟩ := up_of (M := 128) (by decide) (by decide) hok; rw [nI_clamp (by omega)]; omega
    · obtain ⟨n, h1, rfl⟩ := up_of (M := 256) (by decide) (by decide) hok.1.1; rw [nI_clamp (by omega)]; exact h1
  · have := (nI_eq (by omega) (by decide)).mp h0
    subst this
    rw [okD_k (by decide)] at hok
    obtain ⟨n, h1, rfl⟩ := up_of (M := 7) (by decide) (by decide) hok
    exact ⟨n, by omega, rfl⟩
theorem sAnsI_bd {b : Nat → Nat} {e : Nat} {kd x y z : Int32} {W : Nat → Nat} {mm p : Nat} {r : sR} {q : Nat} (hok : okD kd x y z = true) (h : sAnsI b e kd x y z W mm p = some (r, q)) : ∀ i, i < r.2.1 → r.2.2 i < 65536 :=
  sAns_bd (okD_x hok).1 (okD_x hok).2.1 h
theorem Rg_ok {α : Type} {o : Option (α × Nat)} {e p p1 : Nat} {dr d1 : Bool} {m : α → Prop} (h : Rg o e p dr m p1 d1) (hd : dr = false) (h1 : d1 = false) : ∃ a, o = some (a, p1) ∧ m a ∧ p ≤ p1 ∧ p1 ≤ e := by
  rcases h.2.1 hd with ⟨q, h2, h3, h4, -⟩ | ⟨-, h2⟩
  · exact ⟨q.1, by rw [h2, h4], h3, h.2.2.1, h.2.2.2.1⟩
  · rw [h1] at h2; cases h2
theorem Rg_no {α : Type} {o : Option (α × Nat)} {e p p1 : Nat} {dr d1 : Bool} {m : α → Prop} (h : Rg o e p dr m p1 d1) (hd : dr = false) (h1 : d1 = true) : o = none := by
  rcases h.2.1 hd with ⟨q, h2, h3, h4, h5⟩ | ⟨h2, -⟩
  · rw [h1] at h5; cases h5
  · exact h2
/-- ready: not a table's draw, or the table is built -/
def rdy (kd mI : Int32) : Bool := !decide (kd = 0) || !decide (mI = -1)
