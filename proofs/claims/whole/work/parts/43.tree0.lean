/-! TREE: heights, places of the steps up, and their mates -/
def ht (F : Nat → Nat) : Nat → Nat
  | 0 => 0
  | k + 1 => if F k = 1 then ht F k + 1 else ht F k - 1
def ul (F : Nat → Nat) : Nat → List Nat
  | 0 => []
  | k + 1 => if F k = 1 then ul F k ++ [k] else ul F k
def Vp (F : Nat → Nat) (N : Nat) : Prop := (∀ k, k < N → ¬ F k = 1 → 0 < ht F k) ∧ ht F N = 0
def IsMate (F : Nat → Nat) (k m : Nat) : Prop := k < m ∧ ht F (m + 1) = ht F k ∧ ∀ i, k < i → i ≤ m → ht F k < ht F i
def mtL (F : Nat → Nat) : Nat → Nat → Nat → Nat
  | 0, _, k => k
  | f + 1, h, k => if (if F (k + 1) = 1 then h + 1 else h - 1) = 0 then k + 1 else mtL F f (if F (k + 1) = 1 then h + 1 else h - 1) (k + 1)
def belowN (F : Nat → Nat) (N k : Nat) : Nat := (mtL F N 1 k - k - 1) / 2
def treeF (F : Nat → Nat) (N : Nat) : Nat → Nat := fun j => belowN F N ((ul F N).getD j 0)
def sTre (b : Nat → Nat) (e n p : Nat) : Option ((Nat → Nat) × Nat) := match sPat b e n p with
  | none => none
  | some q => some (treeF q.1 (2 * n), q.2)
theorem mtL_at {F : Nat → Nat} {k m N : Nat} (hV : ∀ k, k < N → ¬ F k = 1 → 0 < ht F k) (hm : IsMate F k m) (hmN : m < N) : ∀ (f i : Nat), k ≤ i → i < m → m - i ≤ f → mtL F f (ht F (i + 1) - ht F k) i = m := by
  intro f
  induction f with
  | zero => intro i h1 h2 h3; omega
  | succ f ih =>
    intro i h1 h2 h3
    obtain ⟨a1, a2, a3⟩ := hm
    have b1 : ht F k < ht F (i + 1) := a3 (i + 1) (by omega) (by omega)
    have b2 : (if F (i + 1) = 1 then (ht F (i + 1) - ht F k) + 1 else (ht F (i + 1) - ht F k) - 1) = ht F (i + 1 + 1) - ht F k := by
      have : ht F (i + 1 + 1) = if F (i + 1) = 1 then ht F (i + 1) + 1 else ht F (i + 1) - 1 := rfl
      rw [this]
      split <;> omega
    simp only [mtL]
    rw [b2]
    by_cases hi : i + 1 = m
    · have : ht F (i + 1 + 1) = ht F k := by rw [hi]; exact a2
      rw [this, if_pos (by omega)]; exact hi
    · have : ht F k < ht F (i + 1 + 1) := a3 (i + 1 + 1) (by omega) (by omega)
      rw [if_neg (by omega)]
      exact ih (i + 1) (by omega) (by omega) (by omega)
theorem mtL_mate {F : Nat → Nat} {k m N : Nat} (hV : ∀ k, k < N → ¬ F k = 1 → 0 < ht F k) (hk : F k = 1) (hm : IsMate F k m) (hmN : m < N) : belowN F N k = (m - k - 1) / 2 := by
  have h := mtL_at hV hm hmN N k (Nat.le_refl _) hm.1 (by omega)
  rw [show ht F (k + 1) - ht F k = 1 by simp only [ht, hk, if_true]; omega] at h
  rw [belowN, h]
theorem ul_len {F : Nat → Nat} {N : Nat} (hV : ∀ k, k < N → ¬ F k = 1 → 0 < ht F k) : ∀ k, k ≤ N → 2 * (ul F k).length = k + ht F k := by
  intro k
  induction k with
  | zero => intro _; rfl
  | succ k ih =>
    intro hk
    have h1 := ih (by omega)
    by_cases h : F k = 1
    · simp only [ul, ht, h, if_true, List.length_append, List.length_singleton]; omega
    · have := hV k (by omega) h
      simp only [ul, ht, h, if_false]; omega
theorem ul_mono {F : Nat → Nat} : ∀ (d k : Nat), (ul F k).length ≤ (ul F (k + d)).length ∧ ∀ j, j < (ul F k).length → (ul F (k + d)).getD j 0 = (ul F k).getD j 0 := by
  intro d
  induction d with
  | zero => intro k; exact ⟨Nat.le_refl _, fun _ _ => rfl⟩
  | succ d ih =>
    intro k
    obtain ⟨h1, h2⟩ := ih k
    have e1 : ul F (k + (d + 1)) = if F (k + d) = 1 then ul F (k + d) ++ [k + d] else ul F (k + d) := rfl
    rw [e1]
    split
    · refine ⟨by simp; omega, fun j hj => ?_⟩
      rw [← h2 j hj, List.getD_eq_getElem?_getD, List.getD_eq_getElem?_getD, List.getElem?_append_left (by omega)]
    · exact ⟨h1, h2⟩
theorem ul_last {F : Nat → Nat} {k : Nat} (h : F k = 1) : (ul F (k + 1)).getD (ul F k).length 0 = k := by
  have e1 : ul F (k + 1) = ul F k ++ [k] := by simp [ul, h]
  rw [e1, List.getD_eq_getElem?_getD, List.getElem?_append_right (Nat.le_refl _)]
  simp
theorem ul_mem {F : Nat → Nat} : ∀ (k j : Nat), j < (ul F k).length → F ((ul F k).getD j 0) = 1 ∧ (ul F k).getD j 0 < k := by
  intro k
  induction k with
  | zero => intro j h; simp [ul] at h
  | succ k ih =>
    intro j hj
    by_cases h : F k = 1
    · have hl : (ul F (k + 1)).length = (ul F k).length + 1 := by simp [ul, h]
      by_cases hj2 : j < (ul F k).length
      · have := (ul_mono (F := F) 1 k).2 j hj2
        rw [this]
        have := ih j hj2
        exact ⟨this.1, by omega⟩
      · have : j = (ul F k).length := by omega
        rw [this, ul_last h]
        exact ⟨h, by omega⟩
    · have e1 : ul F (k + 1) = ul F k := by simp [ul, h]
      rw [e1] at hj ⊢
      have := ih j hj
      exact ⟨this.1, by omega⟩
/-- what the row of places, the pile of open ones and the items hold when 'a' steps have been looked at -/
def TI (F : Nat → Nat) (a : Nat) (gu gp gi : Nat → Int32) : Prop :=
  (∀ j, j < (ul F a).length → gu j = nI ((ul F a).getD j 0)) ∧
  (∀ d, d < ht F a → ∃ j, j < (ul F a).length ∧ gp d = nI j ∧ ht F ((ul F a).getD j 0) = d ∧ ∀ i, (ul F a).getD j 0 < i → i ≤ a → d < ht F i) ∧
  ∀ j, j < (ul F a).length → (∃ m, m < a ∧ IsMate F ((ul F a).getD j 0) m ∧ gi j = nI ((m - (ul F a).getD j 0 - 1) / 2)) ∨ ∃ d, d < ht F a ∧ gp d = nI j
theorem TI_0 {F : Nat → Nat} {gu gp gi : Nat → Int32} : TI F 0 gu gp gi := ⟨fun j h => by simp [ul] at h, fun d h => by simp [ht] at h, fun j h => by simp [ul] at h⟩
theorem TI_up {F : Nat → Nat} {a : Nat} {gu gp gi : Nat → Int32} (h : TI F a gu gp gi) (hF : F a = 1) : TI F (a + 1) (upd gu (ul F a).length (nI a)) (upd gp (ht F a) (nI (ul F a).length)) gi := by
  obtain ⟨h1, h2, h3⟩ := h
  have hl : (ul F (a + 1)).length = (ul F a).length + 1 := by simp [ul, hF]
  have hh : ht F (a + 1) = ht F a + 1 := by simp [ht, hF]
  have hg : ∀ j, j < (ul F a).length → (ul F (a + 1)).getD j 0 = (ul F a).getD j 0 := (ul_mono (F := F) 1 a).2
  have hlast := ul_last hF
  refine ⟨fun j hj => ?_, fun d hd => ?_, fun j hj => ?_⟩
  · by_cases hj2 : j < (ul F a).length
    · rw [hg j hj2, pk_un (by omega)]; exact h1 j hj2
    · rw [show j = (ul F a).length by omega, hlast, pk_us]
  · by_cases hd2 : d < ht F a
    · obtain ⟨j, g1, g2, g3, g4⟩ := h2 d hd2
      refine ⟨j, by omega, by rw [pk_un (by omega)]; exact g2, by rw [hg j g1]; exact g3, fun i i1 i2 => ?_⟩
      rw [hg j g1] at i1
      by_cases hi : i ≤ a
      · exact g4 i i1 hi
      · rw [show i = a + 1 by omega, hh]; omega
    · have hd3 : d = ht F a := by omega
      subst hd3
      refine ⟨(ul F a).length, by omega, pk_us, by rw [hlast], fun i i1 i2 => ?_⟩
      rw [hlast] at i1
      rw [show i = a + 1 by omega, hh]; omega
  · by_cases hj2 : j < (ul F a).length
    · rw [hg j hj2]
      rcases h3 j hj2 with ⟨m, g1, g2, g3⟩ | ⟨d, g1, g2⟩
      · exact Or.inl ⟨m, by omega, g2, g3⟩
      · exact Or.inr ⟨d, by omega, by rw [pk_un (by omega)]; exact g2⟩
    · refine Or.inr ⟨ht F a, by omega, ?_⟩
      rw [show j = (ul F a).length by omega, pk_us]
theorem TI_down {F : Nat → Nat} {a j : Nat} {gu gp gi : Nat → Int32} (hb : (ul F a).length < 2 ^ 31) (h : TI F a gu gp gi) (hF : ¬ F a = 1) (h0 : 0 < ht F a) (hj : j < (ul F a).length) (hgp : gp (ht F a - 1) = nI j) : TI F (a + 1) gu gp (upd gi j (nI ((a - (ul F a).getD j 0 - 1) / 2))) := by
  obtain ⟨h1, h2, h3⟩ := h
  have el : ul F (a + 1) = ul F a := by simp [ul, hF]
  have hh : ht F (a + 1) = ht F a - 1 := by simp [ht, hF]
  have hnj : ∀ {x : Nat}, x < (ul F a).length → nI x = nI j → x = j := fun hx q => (nI_eq (by omega) (by omega)).mp q
  obtain ⟨j', g1, g2, g3, g4⟩ := h2 (ht F a - 1) (by omega)
  have hjj : j' = j := hnj g1 (g2.symm.trans hgp)
  subst hjj
  refine ⟨by rw [el]; exact h1, fun d hd => ?_, fun x hx => ?_⟩
  · obtain ⟨x, k1, k2, k3, k4⟩ := h2 d (by omega)
    refine ⟨x, by rw [el]; exact k1, k2, by rw [el]; exact k3, fun i i1 i2 => ?_⟩
    rw [el] at i1
    by_cases hi : i ≤ a
    · exact k4 i i1 hi
    · rw [show i = a + 1 by omega, hh]; omega
  · rw [el] at hx ⊢
    by_cases hxj : x = j'
    · subst hxj
      refine Or.inl ⟨a, by omega, ⟨(ul_mem a x hx).2, by rw [hh, g3], fun i i1 i2 => ?_⟩, pk_us⟩
      rw [g3]; exact g4 i i1 i2
    · rcases h3 x hx with ⟨m, k1, k2, k3⟩ | ⟨d, k1, k2⟩
      · exact Or.inl ⟨m, by omega, k2, by rw [pk_un hxj]; exact k3⟩
      · by_cases hd : d = ht F a - 1
        · rw [hd] at k2
          exact absurd (hnj hx (k2.symm.trans hgp)) hxj
        · exact Or.inr ⟨d, by omega, k2⟩
theorem TI_end {F : Nat → Nat} {n : Nat} {gu gp gi : Nat → Int32} (hV : Vp F (2 * n)) (h : TI F (2 * n) gu gp gi) : ∀ j, j < n → gi j = nI (treeF F (2 * n) j) := by
  intro j hj
  have hl := ul_len hV.1 (2 * n) (Nat.le_refl _)
  rw [hV.2] at hl
  rcases h.2.2 j (by omega) with ⟨m, g1, g2, g3⟩ | ⟨d, g1, g2⟩
  · rw [g3, treeF, mtL_mate hV.1 (ul_mem (2 * n) j (by omega)).1 g2 g1]
  · rw [hV.2] at g1; omega
theorem ht_congr {F F' : Nat → Nat} : ∀ (k : Nat), (∀ x, x < k → F x = F' x) → ht F k = ht F' k := by
  intro k
  induction k with
  | zero => intro _; rfl
  | succ k ih => intro h; simp only [ht, ih (fun x hx => h x (by omega)), h k (by omega)]
theorem sCoin_le1 {b : Nat → Nat} {e num den p : Nat} {q : Nat × Nat} (h : sCoin b e num den p = some q) : q.1 ≤ 1 := by
  rw [sCoin] at h
  split at h
  · cases h; exact Nat.zero_le _
  · split at h
    · cases h; exact Nat.le_refl _
    · have : ∀ {k r p : Nat} {q : Nat × Nat}, sCoinL b e den k r p = some q → q.1 ≤ 1 := by
        intro k
        induction k with
        | zero => intro r p q h; simp [sCoinL] at h
        | succ k ih =>
          intro r p q h
          simp only [sCoinL] at h
          repeat' split at h
          all_goals first | exact ih h | (cases h; exact Nat.le_of_ble_eq_true rfl) | cases h
      exact this h
theorem sPatL_ok {b : Nat → Nat} {e N : Nat} : ∀ (r a h p : Nat) (F : Nat → Nat) (q : (Nat → Nat) × Nat), a + r = N → h ≤ r → (h + r) % 2 = 0 → ht F a = h → (∀ k, k < a → ¬ F k = 1 → 0 < ht F k) → sPatL b e r a h F p = some q → Vp q.1 N ∧ (∀ x, x < a → q.1 x = F x) := by
  intro r
  induction r with
  | zero =>
    intro a h p F q ha hh hpar hht hv hs
    cases hs
    have : a = N := by omega
    subst this
    exact ⟨⟨hv, by show ht F a = 0; omega⟩, fun _ _ => rfl⟩
  | succ r ih =>
    intro a h p F q ha hh hpar hht hv hs
    simp only [sPatL] at hs
    split at hs
    · cases hs
    · rename_i q0 hq0
      have hle := sCoin_le1 hq0
      have hU : ∀ x, x < a → fU F a q0.1 x = F x := fun x hx => by simp [fU, show ¬ x = a by omega]
      have hUa : fU F a q0.1 a = q0.1 := by simp [fU]
      have hH : ht (fU F a q0.1) a = h := by rw [← hht]; exact ht_congr a hU
      have h1 : ht (fU F a q0.1) (a + 1) = if q0.1 = 1 then h + 1 else h - 1 := by simp only [ht, hUa, hH]
      have hz : h = 0 → q0.1 = 1 := by
        intro h0
        subst h0
        have : sCoin b e ((0 + 2) * (r + 1 - 0)) (2 * (0 + 1) * (r + 1)) p = some (1, p) := by
          rw [sCoin, if_neg (by omega), if_pos (by omega)]
        rw [this] at hq0; cases hq0; rfl
      have hr : h = r + 1 → ¬ q0.1 = 1 := by
        intro h0
        subst h0
        have : sCoin b e ((r + 1 + 2) * (r + 1 - (r + 1))) (2 * (r + 1 + 1) * (r + 1)) p = some (0, p) := by
          rw [sCoin, if_pos (by simp)]
        rw [this] at hq0; cases hq0; exact Nat.zero_ne_one
      have hv' : ∀ k, k < a + 1 → ¬ fU F a q0.1 k = 1 → 0 < ht (fU F a q0.1) k := by
        intro k hk hk1
        by_cases hka : k = a
        · subst hka
          rw [hUa] at hk1
          rw [hH]
          rcases Nat.eq_zero_or_pos h with q | q
          · exact absurd (hz q) hk1
          · exact q
        · rw [hU k (by omega)] at hk1
          rw [ht_congr k (fun x hx => hU x (by omega))]
          exact hv k (by omega) hk1
      have hstep := ih (a + 1) (if q0.1 = 1 then h + 1 else h - 1) q0.2 (fU F a q0.1) q (by omega)
        (by split
            · rename_i hq; have := fun q => hr q hq; omega
            · omega)
        (by split
            · omega
            · rename_i hq; have := fun q => hq (hz q); omega) h1 hv' hs
      exact ⟨hstep.1, fun x hx => by rw [hstep.2 x (by omega), hU x hx]⟩
theorem sPat_ok {b : Nat → Nat} {e n p : Nat} {q : (Nat → Nat) × Nat} (h : sPat b e n p = some q) : Vp q.1 (2 * n) :=
  (sPatL_ok (2 * n) 0 0 p (fun _ => 0) q (by omega) (by omega) (by omega) rfl (fun k hk => absurd hk (Nat.not_lt_zero k)) h).1
