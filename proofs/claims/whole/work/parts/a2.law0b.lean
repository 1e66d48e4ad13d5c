theorem inR_2i {x : Int32} (h : x = nI 0 ∨ x = nI 1) : inR x 2 := by
  rcases h with h | h
  · exact ⟨0, by decide, h⟩
  · exact ⟨1, by decide, h⟩
theorem TabSt_2 {M : Nat} {mI : Int32} {tp sm : Nat} {W : Nat → Nat} {gp : Nat → Int32} {gr : Nat → Int64} (h : TabSt M mI tp sm W gp gr) (hm : mI = nI 1) : M = 2 ∧ tp = topN W 64 ∧ (∀ x, x < topN W 64 → gr x = lN ((alS W (topN W 64) (sumN W 64)).1 x)) ∧ ∀ x, x < topN W 64 → gp x = nI ((alS W (topN W 64) (sumN W 64)).2 x) := by
  obtain ⟨h1, h2, h3, h4⟩ := h
  rcases Nat.eq_zero_or_pos M with h0 | h0
  · exact absurd ((h3 h0).symm.trans hm) (by decide)
  · obtain ⟨a1, a2, a3, a4, a5, a6⟩ := h4 h0
    have hM : M - 1 = 1 := (nI_eq (by omega) (by decide)).mp (a1.symm.trans hm)
    exact ⟨by omega, a2, (a6 hM).1, (a6 hM).2⟩
theorem TabSt_n {M : Nat} {mI : Int32} {tp sm : Nat} {W : Nat → Nat} {gp : Nat → Int32} {gr : Nat → Int64} (h : TabSt M mI tp sm W gp gr) (hm : ¬ mI = nI 1) : M < 2 := by
  obtain ⟨h1, h2, h3, h4⟩ := h
  rcases Nat.lt_or_ge M 2 with h0 | h0
  · exact h0
  · exact absurd ((h4 (by omega)).1.trans (by rw [show M - 1 = 1 by omega])) hm
theorem alV_eq {gp gQ : Nat → Int32} {gr gL : Nat → Int64} {i k q : Nat} (h1 : gr i = gL k) (h2 : gp i = gQ k) : alV gp gr i q = alV gQ gL k q := by
  unfold alV
  rw [h1, h2]
theorem jr_eq {nx ls sz : Nat} {g : Nat → Int64} {J : Nat → JE} {gJ : Nat → Int32} {gN : Nat → Int64} {i q : Nat} (h : ID nx ls sz g J gJ gN) (hs : sz ≤ 16384) (hi : i < ls) (hq : q < 7) : g ((nx + 100 - ls + i) % 100 * 8 + q) = if q = 6 then gN i else (gJ (7 * i + q)).toInt64 := by
  obtain ⟨-, -, hl, ho, hm⟩ := h
  obtain ⟨l0, l1, l2, l3, l4, l5, l6, -⟩ := hl i hi
  obtain ⟨m0, m1, m2, m3, m4, m5, m6, m7⟩ := hm i hi
  obtain ⟨-, o1, o2, -⟩ := ho i hi
  unfold lgS at l0 l1 l2 l3 l4 l5 l6
  rcases (show q = 0 ∨ q = 1 ∨ q = 2 ∨ q = 3 ∨ q = 4 ∨ q = 5 ∨ q = 6 by omega) with rfl | rfl | rfl | rfl | rfl | rfl | rfl
  · rw [if_neg (by decide), l0, show 7 * i + 0 = 7 * i from rfl, m0]
  · rw [if_neg (by decide), l1, m1]
  · rw [if_neg (by decide), l2, m2]
  · rw [if_neg (by decide), l3, m3]
  · rw [if_neg (by decide), l4, m4, nI_l (by omega)]
  · rw [if_neg (by decide), l5, m5, nI_l (by omega)]
  · rw [if_pos rfl, l6, m7]
theorem sw5 (x : Int32) : ((x.toInt < 0 ∨ 4 < x.toInt) ∧ ¬ inR x 5) ∨ ∃ k, k < 5 ∧ x = nI k := by
  by_cases h : inR x 5
  · exact Or.inr h
  · refine Or.inl ⟨?_, h⟩
    by_cases h1 : x.toInt < 0 ∨ 4 < x.toInt
    · exact h1
    · exfalso
      apply h
      refine ⟨x.toInt.toNat, by omega, ?_⟩
      rw [← Int32.toInt_inj, nI_toInt (by omega)]
      omega
