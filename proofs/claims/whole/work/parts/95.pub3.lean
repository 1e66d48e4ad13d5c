/-! THE REFERENCE: tables, sizes, the journal -/
def TBm (M y : Nat) (W : Nat → Nat) (gB gZ gQ : Nat → Int32) (gL : Nat → Int64) : Prop := gB y = nI M ∧ M ≤ 2 ∧ (0 < M → 0 < sumN W 64) ∧ (M = 2 → gZ y = nI (topN W 64) ∧ (∀ x, x < topN W 64 → gL (64 * y + x) = lN ((alS W (topN W 64) (sumN W 64)).1 x)) ∧ ∀ x, x < topN W 64 → gQ (64 * y + x) = nI ((alS W (topN W 64) (sumN W 64)).2 x))
theorem TBm_go {M y : Nat} {W : Nat → Nat} {gB gZ gQ : Nat → Int32} {gL : Nat → Int64} {kd a : Int32} (h : TBm M y W gB gZ gQ gL) (hz : kd = nI 0 → a = nI y) (hr : kd = nI 0 → 0 < M) : kd = nI 0 → a = nI y ∧ 0 < sumN W 64 ∧ M - 1 ≤ 1 ∧ gB y = nI (M - 1 + 1) ∧ (M - 1 = 1 → gZ y = nI (topN W 64) ∧ (∀ x, x < topN W 64 → gL (64 * y + x) = lN ((alS W (topN W 64) (sumN W 64)).1 x)) ∧ ∀ x, x < topN W 64 → gQ (64 * y + x) = nI ((alS W (topN W 64) (sumN W 64)).2 x)) := by
  intro hk
  have h0 := hr hk
  obtain ⟨h1, h2, h3, h4⟩ := h
  refine ⟨hz hk, h3 h0, by omega, ?_, fun hM => h4 (by omega)⟩
  rw [h1, Nat.sub_add_cancel h0]
theorem rdM_pos {kd : Int32} {M : Nat} (h : rdM kd M = true) : kd = nI 0 → 0 < M := by
  intro hk
  subst hk
  simp [rdM] at h
  exact h.elim (fun q => absurd rfl q) (fun q => by omega)
theorem rdM_rdy {M : Nat} {mI : Int32} {tp sm : Nat} {W : Nat → Nat} {gp : Nat → Int32} {gr : Nat → Int64} {kd : Int32} (h : TabSt M mI tp sm W gp gr) : rdM kd M = rdy kd mI := by
  rw [rdy_iff h]
  unfold rdM
  congr 1
  rcases Nat.eq_zero_or_pos M with h0 | h0
  · subst h0; rfl
  · rw [decide_eq_true h0, decide_eq_false (by omega)]; rfl
theorem sSubL_ct {b : Nat → Nat} {e kk : Nat} : ∀ {k i c : Nat} {F : Nat → Nat} {p : Nat} {q : (Nat × (Nat → Nat)) × Nat}, sSubL b e kk k i c F p = some q → q.1.1 ≤ c + k := by
  intro k
  induction k with
  | zero => intro i c F p q h; simp only [sSubL] at h; cases h; exact Nat.le_refl _
  | succ k ih =>
    intro i c F p q h
    simp only [sSubL] at h
    split at h
    · cases h
    · split at h
      · have := ih h; omega
      · have := ih h; omega
theorem sAns_sz {b : Nat → Nat} {e k x y z : Nat} {W : Nat → Nat} {mm p : Nat} {r : sR} {q : Nat} (hk : k < 14) (hx : 9 ≤ k → x ≤ 256) (hx1 : k = 11 → x ≤ 128) (h : sAns b e k x y z W mm p = some (r, q)) : r.2.1 ≤ 256 ∧ (k ≤ 8 → r.2.1 = 0) := by
  have hM : ∀ {o : Option (Nat × Nat)} {g : Nat → Int64}, oM o g = some (r, q) → r.2.1 = 0 := by
    intro o g h
    unfold oM at h
    split at h
    · cases h
    · cases h; rfl
  have hF : ∀ {o : Option ((Nat → Nat) × Nat)} {n : Nat}, oF o n = some (r, q) → r.2.1 = n := by
    intro o g h
    unfold oF at h
    split at h
    · cases h
    · cases h; rfl
  rcases (show k = 0 ∨ k = 1 ∨ k = 2 ∨ k = 3 ∨ k = 4 ∨ k = 5 ∨ k = 6 ∨ k = 7 ∨ k = 8 ∨ k = 9 ∨ k = 10 ∨ k = 11 ∨ k = 12 ∨ k = 13 by omega) with rfl | rfl | rfl | rfl | rfl | rfl | rfl | rfl | rfl | rfl | rfl | rfl | rfl | rfl
  all_goals try (have h0 := hM h; exact ⟨by omega, fun _ => h0⟩)
  all_goals have hx := hx (by decide)
  · have := hF h; exact ⟨by omega, fun h => absurd h (by decide)⟩
  · simp only [sAns, oS] at h
    split at h
    · cases h
    · rename_i q0 hq0
      cases h
      have := sSubL_ct hq0
      exact ⟨by show q0.1.1 ≤ 256; omega, fun h => absurd h (by decide)⟩
  · have := hF h; have := hx1 rfl; exact ⟨by omega, fun h => absurd h (by decide)⟩
  · have := hF h; exact ⟨by omega, fun h => absurd h (by decide)⟩
  · have := hF h; exact ⟨by omega, fun h => absurd h (by decide)⟩
theorem okD_11 {kd a b c : Int32} (hok : okD kd a b c = true) : kd.toInt.toNat = 11 → a.toNatClampNeg ≤ 128 := by
  intro h1
  rcases sw14 kd with h | ⟨k, hk0, rfl⟩
  · rw [show okD kd a b c = false from if_pos h] at hok; cases hok
  rw [kd_k hk0] at h1
  subst h1
  rw [okD_k (by decide)] at hok
  obtain ⟨n, h1, rfl⟩ := up_of (M := 128) (by decide) (by decide) hok
  rw [nI_clamp (by omega)]; exact h1
theorem sAnsI_sz {b : Nat → Nat} {e : Nat} {kd x y z : Int32} {W : Nat → Nat} {mm p : Nat} {r : sR} {q : Nat} (hok : okD kd x y z = true) (h : sAnsI b e kd x y z W mm p = some (r, q)) : r.2.1 ≤ 256 ∧ (kd ≤ nI 8 → r.2.1 = 0) := by
  have h1 := sAns_sz (okD_x hok).1 (okD_x hok).2.1 (okD_11 hok) h
  refine ⟨h1.1, fun h8 => h1.2 ?_⟩
  rcases sw14 kd with h | ⟨k, hk0, rfl⟩
  · rw [show okD kd x y z = false from if_pos h] at hok; cases hok
  rw [kd_k hk0]
  exact (nI_leI (by omega) (by decide)).mp h8
def JMod (gJ : Nat → Int32) (gN : Nat → Int64) (en : Nat) (J : Nat → JE) : Prop := ∀ i, i < en → gJ (7 * i) = (J i).1 ∧ gJ (7 * i + 1) = (J i).2.1 ∧ gJ (7 * i + 2) = (J i).2.2.1 ∧ gJ (7 * i + 3) = (J i).2.2.2.1 ∧ gJ (7 * i + 4) = nI (J i).2.2.2.2.1 ∧ gJ (7 * i + 5) = nI (J i).2.2.2.2.2.1 ∧ gJ (7 * i + 6) = nI (J i).2.2.2.2.2.2.2 ∧ gN i = (J i).2.2.2.2.2.2.1
/-- the entries behind one more draw: the eldest goes where a hundred are kept -/
def jPush (en : Nat) (J : Nat → JE) (x : JE) : Nat → JE := fun i => if en < 100 then (if i = en then x else J i) else if i = 99 then x else J (i + 1)
def jE (g : Nat → Int32) (en : Nat) (kd a b c pl bi su : Int32) : Nat → Int32 := upd (upd (upd (upd (upd (upd (upd g (7 * en) kd) (7 * en + 1) a) (7 * en + 2) b) (7 * en + 3) c) (7 * en + 4) pl) (7 * en + 5) bi) (7 * en + 6) su
theorem jE_at {g : Nat → Int32} {en : Nat} {kd a b c pl bi su : Int32} : jE g en kd a b c pl bi su (7 * en) = kd ∧ jE g en kd a b c pl bi su (7 * en + 1) = a ∧ jE g en kd a b c pl bi su (7 * en + 2) = b ∧ jE g en kd a b c pl bi su (7 * en + 3) = c ∧ jE g en kd a b c pl bi su (7 * en + 4) = pl ∧ jE g en kd a b c pl bi su (7 * en + 5) = bi ∧ jE g en kd a b c pl bi su (7 * en + 6) = su ∧ ∀ x, x < 7 * en → jE g en kd a b c pl bi su x = g x := by
  unfold jE upd
  refine ⟨?_, ?_, ?_, ?_, ?_, ?_, ?_, fun x hx => ?_⟩
  all_goals repeat first | rw [if_pos rfl] | rw [if_neg (by omega)]
theorem JMod_a {gJ : Nat → Int32} {gN : Nat → Int64} {en : Nat} {J : Nat → JE} {kd a b c : Int32} {pl bi su : Nat} {an : Int64} (h : JMod gJ gN en J) (he : en < 100) : JMod (jE gJ en kd a b c (nI pl) (nI bi) (nI su)) (vp_updL gN en an) (min (en + 1) 100) (jPush en J (kd, a, b, c, pl, bi, an, su)) := by
  intro i hi
  obtain ⟨j0, j1, j2, j3, j4, j5, j6, j7⟩ := jE_at (g := gJ) (en := en) (kd := kd) (a := a) (b := b) (c := c) (pl := nI pl) (bi := nI bi) (su := nI su)
  unfold jPush
  rw [if_pos he]
  by_cases e : i = en
  · subst e
    rw [if_pos rfl]
    exact ⟨j0, j1, j2, j3, j4, j5, j6, by unfold vp_updL; rw [if_pos rfl]⟩
  · rw [if_neg e]
    have hi2 : i < en := by omega
    obtain ⟨k0, k1, k2, k3, k4, k5, k6, k7⟩ := h i hi2
    refine ⟨?_, ?_, ?_, ?_, ?_, ?_, ?_, ?_⟩
    · rw [j7 _ (by omega)]; exact k0
    · rw [j7 _ (by omega)]; exact k1
    · rw [j7 _ (by omega)]; exact k2
    · rw [j7 _ (by omega)]; exact k3
    · rw [j7 _ (by omega)]; exact k4
    · rw [j7 _ (by omega)]; exact k5
    · rw [j7 _ (by omega)]; exact k6
    · unfold vp_updL; rw [if_neg e]; exact k7
theorem JMod_b {gJ g1 : Nat → Int32} {gN g2 : Nat → Int64} {J : Nat → JE} {kd a b c : Int32} {pl bi su : Nat} {an : Int64} (h : JMod gJ gN 100 J) (h1 : ∀ x, x < 693 → g1 x = gJ (x + 7)) (h2 : ∀ x, x < 99 → g2 x = gN (x + 1)) : JMod (jE g1 99 kd a b c (nI pl) (nI bi) (nI su)) (vp_updL g2 99 an) (min (100 + 1) 100) (jPush 100 J (kd, a, b, c, pl, bi, an, su)) := by
  intro i hi
  obtain ⟨j0, j1, j2, j3, j4, j5, j6, j7⟩ := jE_at (g := g1) (en := 99) (kd := kd) (a := a) (b := b) (c := c) (pl := nI pl) (bi := nI bi) (su := nI su)
  unfold jPush
  rw [if_neg (by decide)]
  by_cases e : i = 99
  · subst e
    rw [if_pos rfl]
    exact ⟨j0, j1, j2, j3, j4, j5, j6, by unfold vp_updL; rw [if_pos rfl]⟩
  · rw [if_neg e]
    have hi2 : i < 99 := by have : min (100 + 1) 100 = 100 := by decide
                            omega
    obtain ⟨k0, k1, k2, k3, k4, k5, k6, k7⟩ := h (i + 1) (by omega)
    refine ⟨?_, ?_, ?_, ?_, ?_, ?_, ?_, ?_⟩
    · rw [j7 _ (by omega), h1 _ (by omega), show 7 * i + 7 = 7 * (i + 1) by omega]; exact k0
    · rw [j7 _ (by omega), h1 _ (by omega), show 7 * i + 1 + 7 = 7 * (i + 1) + 1 by omega]; exact k1
    · rw [j7 _ (by omega), h1 _ (by omega), show 7 * i + 2 + 7 = 7 * (i + 1) + 2 by omega]; exact k2
    · rw [j7 _ (by omega), h1 _ (by omega), show 7 * i + 3 + 7 = 7 * (i + 1) + 3 by omega]; exact k3
    · rw [j7 _ (by omega), h1 _ (by omega), show 7 * i + 4 + 7 = 7 * (i + 1) + 4 by omega]; exact k4
    · rw [j7 _ (by omega), h1 _ (by omega), show 7 * i + 5 + 7 = 7 * (i + 1) + 5 by omega]; exact k5
    · rw [j7 _ (by omega), h1 _ (by omega), show 7 * i + 6 + 7 = 7 * (i + 1) + 6 by omega]; exact k6
    · unfold vp_updL; rw [if_neg e, h2 _ hi2]; exact k7
theorem shift_step {g g0 : Nat → Int32} {i d : Nat} (h1 : ∀ x, x < i → g x = g0 (x + d)) (h2 : ∀ x, i ≤ x → g x = g0 x) : (∀ x, x < i + 1 → upd g i (g (i + d)) x = g0 (x + d)) ∧ ∀ x, i + 1 ≤ x → upd g i (g (i + d)) x = g0 x := by
  constructor
  · intro x hx
    unfold upd
    by_cases e : x = i
    · subst e; rw [if_pos rfl]; exact h2 _ (by omega)
    · rw [if_neg e]; exact h1 x (by omega)
  · intro x hx
    unfold upd
    rw [if_neg (by omega)]; exact h2 x (by omega)
theorem shift_stepL {g g0 : Nat → Int64} {i d : Nat} (h1 : ∀ x, x < i → g x = g0 (x + d)) (h2 : ∀ x, i ≤ x → g x = g0 x) : (∀ x, x < i + 1 → vp_updL g i (g (i + d)) x = g0 (x + d)) ∧ ∀ x, i + 1 ≤ x → vp_updL g i (g (i + d)) x = g0 x := by
  constructor
  · intro x hx
    unfold vp_updL
    by_cases e : x = i
    · subst e; rw [if_pos rfl]; exact h2 _ (by omega)
    · rw [if_neg e]; exact h1 x (by omega)
  · intro x hx
    unfold vp_updL
    rw [if_neg (by omega)]; exact h2 x (by omega)
theorem copy_step {g : Nat → Int32} {G : Nat → Int32} {i : Nat} {v : Int32} (h : ∀ x, x < i → g x = G x) (hv : v = G i) : ∀ x, x < i + 1 → upd g i v x = G x := by
  intro x hx
  unfold upd
  by_cases e : x = i
  · subst e; rw [if_pos rfl]; exact hv
  · rw [if_neg e]; exact h x (by omega)
