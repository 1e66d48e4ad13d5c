/-! THE LAW: its world, and what holds at its loop's head -/
theorem v_mg_len : ∀ (ws : va_W) (k : Nat) (is : List Nat) (w1 : va_W), (v_mg k ws is w1).length = ws.length := by
  intro ws
  induction ws with
  | nil => intro k is w1; rfl
  | cons c ws ih => intro k is w1; simp [v_mg, ih]
theorem v_mgT {S : Type} {L t : va_W} {is : List Nat} {W1 L' : S → va_W} (hn : va_nd is = true) (hb : is.all (fun i => Nat.blt i L.length) = true) (h : ∀ u, v_mg 0 L is (W1 u) = L' u) : ∀ u, v_upds (L ++ t) is (W1 u) = L' u ++ t := by
  intro u
  rw [← h u]
  apply List.ext_getElem?
  intro k
  rw [v_upds_mg is _ (W1 u) (v_nd is hn)]
  by_cases hk : k < L.length
  · rw [List.getElem?_append_left hk, List.getElem?_append_left (by rw [v_mg_len]; exact hk), v_mg_at, Nat.zero_add]
  · rw [List.getElem?_append_right (by omega), List.getElem?_append_right (by rw [v_mg_len]; omega), v_mg_len]
    have hno : k ∉ is := fun hm => hk (by
      have := List.all_eq_true.mp hb k hm
      simpa using this)
    cases t[k - L.length]? with
    | none => rfl
    | some c => simp only [Option.map_some, v_pk_no is (W1 u) hno]
theorem D_nd {A : Nat → Prop} {ws : va_W} : va_D A ws ↔ (ws.map Prod.fst).Nodup ∧ ∀ q ∈ ws, A q.1 := by
  constructor
  · intro h
    refine ⟨List.pairwise_iff_getElem.mpr (fun i j hi hj hij e => ?_), fun q hq => ?_⟩
    · rw [List.length_map] at hi hj
      rw [List.getElem_map, List.getElem_map] at e
      have := h.1 i j _ _ (List.getElem?_eq_getElem hi) (List.getElem?_eq_getElem hj) e
      omega
    · obtain ⟨k, hk⟩ := List.getElem?_of_mem hq
      exact h.2 k q hk
  · intro h
    refine ⟨fun i j p q hi hj e => ?_, fun k q hk => h.2 q (List.mem_of_getElem? hk)⟩
    have h1 := List.pairwise_iff_getElem.mp h.1
    obtain ⟨hi', ei⟩ := List.getElem?_eq_some_iff.mp hi
    obtain ⟨hj', ej⟩ := List.getElem?_eq_some_iff.mp hj
    rcases Nat.lt_trichotomy i j with hl | hl | hl
    · exact absurd (by rw [List.getElem_map, List.getElem_map, ei, ej]; exact e) (h1 i j (by simpa using hi') (by simpa using hj') hl)
    · exact hl
    · exact absurd (by rw [List.getElem_map, List.getElem_map, ei, ej]; exact e.symm) (h1 j i (by simpa using hj') (by simpa using hi') hl)
section VPerm
variable {G : vG} {X : vX} {R : Room} {cc : ByteArray} {nL : Nat} {own : String} {ws : va_W} {ce sl : Nat} {lv : List (Nat × Value)} {pc : Nat} {st : List Value}
theorem v_perm {ws' : va_W} (h : ws.Perm ws') (k : V G X R cc nL own ws' ce sl lv pc st) : V G X R cc nL own ws ce sl lv pc st := by
  intro hC H locs ls hP hD hS hl
  refine k hC H locs ls (fun i q hi => ?_) (D_nd.mpr ⟨(h.map Prod.fst).nodup_iff.mp (D_nd.mp hD).1, fun q hq => (D_nd.mp hD).2 q (h.mem_iff.mpr hq)⟩) hS hl
  obtain ⟨j, hj⟩ := List.getElem?_of_mem (h.mem_iff.mpr (List.mem_of_getElem? hi))
  exact hP j q hj
theorem v_sld {b L : Nat} {xs : Nat → Int32} {j : Nat} (hX : va_X b L xs X.s X.s.heap) (hbl : b < X.s.heap.size) (hbA : ¬ X.A b) (hj : j < L) (hL : L ≤ 3584) (hdg : decode cc pc = .ok (.iaload, 1)) (k : V G X R cc nL own ws ce sl lv (pc + 1) (.int (xs j) :: st)) : V G X R cc nL own ws ce sl lv pc (.int (nI j) :: .ref b :: st) := by
  intro hC H locs ls hP hD hS hl
  refine va_sld hC.1 hC.2.1 hX hbl hbA hS (vp_in_nI hj (by omega)) hdg ?_
  rw [nI_clamp (by omega)]
  exact k hC H locs ls hP hD hS hl
theorem v_slen {b L : Nat} {xs : Nat → Int32} (hX : va_X b L xs X.s X.s.heap) (hbl : b < X.s.heap.size) (hbA : ¬ X.A b) (hdg : decode cc pc = .ok (.arraylength, 1)) (k : V G X R cc nL own ws ce sl lv (pc + 1) (.int (nI L) :: st)) : V G X R cc nL own ws ce sl lv pc (.ref b :: st) :=
  fun hC H locs ls hP hD hS hl => va_slen hC.1 hC.2.1 hX hbl hbA hS hdg (k hC H locs ls hP hD hS hl)
end VPerm
/-- a table's cells: its method, top, sum, weights, smalls, partners, rests -/
abbrev TR : Type := Int32 × Nat × Nat × (Nat → Int32) × (Nat → Int32) × (Nat → Int32) × (Nat → Int64)
def tbR (A : Nat → Nat) (cI cJ : ClassId) (z : Nat) (r : TR) : va_W := [(A (5 * z), .inr (6, [.ref (A (5 * z + 1)), .ref (A (5 * z + 2)), .ref (A (5 * z + 3)), .ref (A (5 * z + 4)), .int r.1, .int (nI r.2.1), .long (lN r.2.2.1)])), (A (5 * z + 1), .inl (cI, 64, .inl r.2.2.2.1)), (A (5 * z + 2), .inl (cI, 64, .inl r.2.2.2.2.1)), (A (5 * z + 3), .inl (cI, 64, .inl r.2.2.2.2.2.1)), (A (5 * z + 4), .inl (cJ, 64, .inr (.inl r.2.2.2.2.2.2)))]
def tbX (A : Nat → Nat) (cI cJ : ClassId) (T : Nat → TR) (z : Nat) : va_W := ((List.range 8).erase z).flatMap (fun y => tbR A cI cJ y (T y))
def tbW (A : Nat → Nat) (cI cJ : ClassId) (T : Nat → TR) : va_W := (List.range 8).flatMap (fun y => tbR A cI cJ y (T y))
def tUp {α : Type} (T : Nat → α) (z : Nat) (r : α) : Nat → α := fun y => if y = z then r else T y
theorem tUp_s {α : Type} {T : Nat → α} {z : Nat} {r : α} : tUp T z r z = r := if_pos rfl
theorem tUp_o {α : Type} {T : Nat → α} {z y : Nat} {r : α} (h : ¬ y = z) : tUp T z r y = T y := if_neg h
theorem tbX_up {A : Nat → Nat} {cI cJ : ClassId} {T : Nat → TR} {z : Nat} {r : TR} : tbX A cI cJ (tUp T z r) z = tbX A cI cJ T z := by
  unfold tbX
  rw [List.flatMap_def, List.flatMap_def]
  congr 1
  apply List.map_congr_left
  intro y hy
  have : ¬ y = z := fun e => (List.Nodup.not_mem_erase List.nodup_range) (e ▸ hy)
  rw [tUp_o this]
theorem tbW_pick {A : Nat → Nat} {cI cJ : ClassId} {T : Nat → TR} {z : Nat} (hz : z < 8) : (tbW A cI cJ T).Perm (tbR A cI cJ z (T z) ++ tbX A cI cJ T z) :=
  ((List.perm_cons_erase (List.mem_range.mpr hz)).flatMap_right (fun y => tbR A cI cJ y (T y)))
section VTab
variable {G : vG} {X : vX} {R : Room} {cc : ByteArray} {nL : Nat} {own : String} {ce sl : Nat} {lv : List (Nat × Value)} {pc : Nat} {st : List Value} {A : Nat → Nat} {cI cJ : ClassId} {T : Nat → TR}
theorem v_tabF {L : va_W} {z : Nat} (hz : z < 8) (k : V G X R cc nL own (L ++ (tbR A cI cJ z (T z) ++ tbX A cI cJ T z)) ce sl lv pc st) : V G X R cc nL own (L ++ tbW A cI cJ T) ce sl lv pc st :=
  v_perm ((tbW_pick hz).append_left L) k
theorem v_tabB {L : va_W} {z : Nat} (hz : z < 8) (r : TR) (k : V G X R cc nL own (L ++ tbW A cI cJ (tUp T z r)) ce sl lv pc st) : V G X R cc nL own (L ++ (tbR A cI cJ z r ++ tbX A cI cJ T z)) ce sl lv pc st := by
  refine v_perm (List.Perm.append_left L ?_) k
  have h := (tbW_pick (A := A) (cI := cI) (cJ := cJ) (T := tUp T z r) hz).symm
  rw [tUp_s, tbX_up] at h
  exact h
end VTab
/-- the tape, and the place -/
def IA (sz pl : Nat) (f tpm : Nat → Int32) : Prop := sz ≤ 16384 ∧ sz % 128 = 0 ∧ pl ≤ sz ∧ ∀ p, p < sz → tpm p = nI (bitW f p)
/-- the items -/
def IB (icn : Nat) (gt gI : Nat → Int32) : Prop := icn ≤ 256 ∧ ∀ y, y < icn → gI y = gt y
/-- the tables -/
def IZ (A : Nat → Nat) (tf : Nat → Option Nat) (T : Nat → TR) (W : Nat → Nat → Nat) (M : Nat → Nat) (gW gL : Nat → Int64) (gB gQ gZ : Nat → Int32) (z : Nat) : Prop := tf z = some (A (5 * z)) ∧ (∀ x, x < 64 → (T z).2.2.2.1 x = nI (W z x)) ∧ (∀ x, x < 64 → W z x < 2 ^ 31) ∧ TabSt (M z) (T z).1 (T z).2.1 (T z).2.2.1 (W z) (T z).2.2.2.2.2.1 (T z).2.2.2.2.2.2 ∧ (∀ x, x < 64 → gW (64 * z + x) = lN (W z x)) ∧ TBm (M z) z (W z) gB gZ gQ gL
def IC (A : Nat → Nat) (tf : Nat → Option Nat) (T : Nat → TR) (W : Nat → Nat → Nat) (M : Nat → Nat) (gW gL : Nat → Int64) (gB gQ gZ : Nat → Int32) : Prop := ∀ z, z < 8 → IZ A tf T W M gW gL gB gQ gZ z
/-- the journal -/
def ID (nx ls sz : Nat) (g : Nat → Int64) (J : Nat → JE) (gJ : Nat → Int32) (gN : Nat → Int64) : Prop := nx < 100 ∧ ls ≤ 100 ∧ LogOk g nx ls J ∧ JOk ls sz J ∧ JMod gJ gN ls J
/-- the table that a number names, or the first -/
theorem pickT (t : Int32) : ∃ z, z < 8 ∧ (∀ q, q < 8 → t = nI q → q = z) ∧ (inR t 8 → t = nI z) := by
  by_cases h : inR t 8
  · obtain ⟨z, hz, rfl⟩ := h
    exact ⟨z, hz, fun q hq e => ((nI_eq (by omega) (by omega)).mp e).symm, fun _ => rfl⟩
  · exact ⟨0, by decide, fun q hq e => absurd ⟨q, hq, e⟩ h, fun q => absurd q h⟩
theorem TabSt_gr {M : Nat} {mI : Int32} {tp sm : Nat} {W : Nat → Nat} {gp : Nat → Int32} {gr g2 : Nat → Int64} (h : TabSt M mI tp sm W gp gr) (hg : M = 2 → g2 = gr) : TabSt M mI tp sm W gp g2 := by
  obtain ⟨h1, h2, h3, h4⟩ := h
  refine ⟨h1, h2, h3, fun h0 => ?_⟩
  obtain ⟨a1, a2, a3, a4, a5, a6⟩ := h4 h0
  refine ⟨a1, a2, a3, a4, a5, fun hm => ?_⟩
  rw [hg (by omega)]
  exact a6 hm
section Tables
variable {A : Nat → Nat} {tf : Nat → Option Nat} {T : Nat → TR} {W : Nat → Nat → Nat} {M : Nat → Nat} {gW gL : Nat → Int64} {gB gQ gZ : Nat → Int32} {z : Nat}
/-- a draw changes no table but in its scratch -/
theorem IC_gr {g2 : Nat → Int64} (h : IC A tf T W M gW gL gB gQ gZ) (hg : M z = 2 → g2 = (T z).2.2.2.2.2.2) : IC A tf (tUp T z ((T z).1, (T z).2.1, (T z).2.2.1, (T z).2.2.2.1, (T z).2.2.2.2.1, (T z).2.2.2.2.2.1, g2)) W M gW gL gB gQ gZ := by
  intro y hy
  obtain ⟨h1, h2, h3, h4, h5, h6⟩ := h y hy
  by_cases e : y = z
  · subst e
    refine ⟨h1, ?_, h3, ?_, h5, h6⟩
    · rw [tUp_s]; exact h2
    · rw [tUp_s]; exact TabSt_gr h4 hg
  · refine ⟨h1, ?_, h3, ?_, h5, h6⟩
    · rw [tUp_o e]; exact h2
    · rw [tUp_o e]; exact h4
theorem IC_wt {v wn : Nat} (h : IC A tf T W M gW gL gB gQ gZ) (hz : z < 8) (hv : v < 64) (hw : wn < 2 ^ 31) : IC A tf (tUp T z (-1, (T z).2.1, (T z).2.2.1, upd (T z).2.2.2.1 v (nI wn), (T z).2.2.2.2.1, (T z).2.2.2.2.2.1, (T z).2.2.2.2.2.2)) (tUp W z (fU (W z) v wn)) (tUp M z 0) (vp_updL gW (64 * z + v) (nI wn).toInt64) gL (upd gB z (nI 0)) gQ gZ := by
  intro y hy
  obtain ⟨h1, h2, h3, h4, h5, h6⟩ := h y hy
  by_cases e : y = z
  · subst e
    refine ⟨h1, ?_, ?_, ?_, ?_, ?_⟩
    · rw [tUp_s, tUp_s]
      intro x hx
      show upd (T y).2.2.2.1 v (nI wn) x = nI (fU (W y) v wn x)
      unfold upd fU
      by_cases e : x = v
      · rw [if_pos e, if_pos e]
      · rw [if_neg e, if_neg e]; exact h2 x hx
    · rw [tUp_s]
      intro x hx
      unfold fU
      split
      · exact hw
      · exact h3 x hx
    · rw [tUp_s, tUp_s, tUp_s]
      exact ⟨by decide, h4.2.1, fun _ => rfl, fun q => absurd q (by decide)⟩
    · rw [tUp_s]
      intro x hx
      unfold vp_updL fU
      by_cases e : x = v
      · subst e; rw [if_pos rfl, if_pos rfl]; exact nI_l hw
      · rw [if_neg (by omega), if_neg e]; exact h5 x hx
    · rw [tUp_s, tUp_s]
      exact ⟨pk_us, by decide, fun q => absurd q (by decide), fun q => absurd q (by decide)⟩
  · refine ⟨h1, ?_, ?_, ?_, ?_, ?_⟩
    · rw [tUp_o e, tUp_o e]; exact h2
    · rw [tUp_o e]; exact h3
    · rw [tUp_o e, tUp_o e, tUp_o e]; exact h4
    · rw [tUp_o e]
      intro x hx
      unfold vp_updL
      rw [if_neg (by omega)]; exact h5 x hx
    · rw [tUp_o e, tUp_o e]
      refine ⟨?_, h6.2⟩
      unfold upd
      rw [if_neg e]; exact h6.1
theorem IC_b0 {g1 g2 : Nat → Int32} {g3 : Nat → Int64} (h : IC A tf T W M gW gL gB gQ gZ) (hz : z < 8) (hs : ¬ sumN (W z) 64 = 0) : IC A tf (tUp T z (nI 0, topN (W z) 64, sumN (W z) 64, (T z).2.2.2.1, g1, g2, g3)) W (tUp M z 1) gW gL (upd gB z (nI 1)) gQ gZ := by
  intro y hy
  obtain ⟨h1, h2, h3, h4, h5, h6⟩ := h y hy
  by_cases e : y = z
  · subst e
    refine ⟨h1, ?_, h3, ?_, h5, ?_⟩
    · rw [tUp_s]; exact h2
    · rw [tUp_s, tUp_s]
      exact ⟨by decide, topN_le _ _, fun q => absurd q (by decide), fun _ => ⟨rfl, rfl, rfl, by decide, by show 0 < sumN (W y) 64; omega, fun q => absurd q (by decide)⟩⟩
    · rw [tUp_s]
      exact ⟨pk_us, by decide, fun _ => by omega, fun q => absurd q (by decide)⟩
  · refine ⟨h1, ?_, h3, ?_, h5, ?_⟩
    · rw [tUp_o e]; exact h2
    · rw [tUp_o e, tUp_o e]; exact h4
    · rw [tUp_o e]
      refine ⟨?_, h6.2⟩
      unfold upd
      rw [if_neg e]; exact h6.1
theorem IC_b1 {g1 g2 q2 : Nat → Int32} {g3 l2 : Nat → Int64} (h : IC A tf T W M gW gL gB gQ gZ) (hz : z < 8) (hs : ¬ sumN (W z) 64 = 0) (a1 : ∀ x, x < topN (W z) 64 → g3 x = lN ((alS (W z) (topN (W z) 64) (sumN (W z) 64)).1 x)) (a2 : ∀ x, x < topN (W z) 64 → g2 x = nI ((alS (W z) (topN (W z) 64) (sumN (W z) 64)).2 x)) (b1 : ∀ x, x < topN (W z) 64 → l2 (64 * z + x) = lN ((alS (W z) (topN (W z) 64) (sumN (W z) 64)).1 x)) (b2 : ∀ x, x < topN (W z) 64 → q2 (64 * z + x) = nI ((alS (W z) (topN (W z) 64) (sumN (W z) 64)).2 x)) (b3 : ∀ x, ¬ (64 * z ≤ x ∧ x < 64 * z + 64) → l2 x = gL x) (b4 : ∀ x, ¬ (64 * z ≤ x ∧ x < 64 * z + 64) → q2 x = gQ x) : IC A tf (tUp T z (nI 1, topN (W z) 64, sumN (W z) 64, (T z).2.2.2.1, g1, g2, g3)) W (tUp M z 2) gW l2 (upd gB z (nI 2)) q2 (upd gZ z (nI (topN (W z) 64))) := by
  intro y hy
  obtain ⟨h1, h2, h3, h4, h5, h6⟩ := h y hy
  by_cases e : y = z
  · subst e
    refine ⟨h1, ?_, h3, ?_, h5, ?_⟩
    · rw [tUp_s]; exact h2
    · rw [tUp_s, tUp_s]
      exact ⟨by decide, topN_le _ _, fun q => absurd q (by decide), fun _ => ⟨rfl, rfl, rfl, by decide, by show 0 < sumN (W y) 64; omega, fun _ => ⟨a1, a2⟩⟩⟩
    · rw [tUp_s]
      exact ⟨pk_us, by decide, fun _ => by omega, fun _ => ⟨pk_us, b1, b2⟩⟩
  · refine ⟨h1, ?_, h3, ?_, h5, ?_⟩
    · rw [tUp_o e]; exact h2
    · rw [tUp_o e, tUp_o e]; exact h4
    · rw [tUp_o e]
      obtain ⟨c1, c2, c3, c4⟩ := h6
      refine ⟨?_, c2, c3, fun hM => ?_⟩
      · unfold upd
        rw [if_neg e]; exact c1
      · obtain ⟨d1, d2, d3⟩ := c4 hM
        refine ⟨?_, fun x hx => ?_, fun x hx => ?_⟩
        · unfold upd
          rw [if_neg e]; exact d1
        · have := topN_le (W y) 64
          rw [b3 _ (by omega)]; exact d2 x hx
        · have := topN_le (W y) 64
          rw [b4 _ (by omega)]; exact d3 x hx
end Tables
theorem lgE_at {g : Nat → Int64} {nx : Nat} {kd a b c : Int32} {pl bi : Nat} {an su : Int64} : lgE g nx kd a b c pl bi an su (nx * 8 + 0) = kd.toInt64 ∧ lgE g nx kd a b c pl bi an su (nx * 8 + 1) = a.toInt64 ∧ lgE g nx kd a b c pl bi an su (nx * 8 + 2) = b.toInt64 ∧ lgE g nx kd a b c pl bi an su (nx * 8 + 3) = c.toInt64 ∧ lgE g nx kd a b c pl bi an su (nx * 8 + 4) = lN pl ∧ lgE g nx kd a b c pl bi an su (nx * 8 + 5) = lN bi ∧ lgE g nx kd a b c pl bi an su (nx * 8 + 6) = an ∧ lgE g nx kd a b c pl bi an su (nx * 8 + 7) = su ∧ ∀ k j, ¬ k = nx → j < 8 → lgE g nx kd a b c pl bi an su (k * 8 + j) = g (k * 8 + j) := by
  unfold lgE vp_updL
  refine ⟨?_, ?_, ?_, ?_, ?_, ?_, ?_, ?_, fun k j hk hj => ?_⟩
  all_goals repeat first | rw [if_pos rfl] | rw [if_neg (by omega)]
theorem LogOk_push {g : Nat → Int64} {nx ls : Nat} {J : Nat → JE} {kd a b c : Int32} {pl bi su : Nat} {an : Int64} (h : LogOk g nx ls J) (hnx : nx < 100) (hls : ls ≤ 100) : LogOk (lgE g nx kd a b c pl bi an (lN su)) ((nx + 1) % 100) (min (ls + 1) 100) (jPush ls J (kd, a, b, c, pl, bi, an, su)) := by
  obtain ⟨j0, j1, j2, j3, j4, j5, j6, j7, j8⟩ := lgE_at (g := g) (nx := nx) (kd := kd) (a := a) (b := b) (c := c) (pl := pl) (bi := bi) (an := an) (su := lN su)
  intro i hi
  have new : (((nx + 1) % 100 + 100 - min (ls + 1) 100 + i) % 100 = nx ∧ jPush ls J (kd, a, b, c, pl, bi, an, su) i = (kd, a, b, c, pl, bi, an, su)) ∨ ∃ k, k < ls ∧ ¬ (nx + 100 - ls + k) % 100 = nx ∧ ((nx + 1) % 100 + 100 - min (ls + 1) 100 + i) % 100 = (nx + 100 - ls + k) % 100 ∧ jPush ls J (kd, a, b, c, pl, bi, an, su) i = J k := by
    unfold jPush
    rcases Nat.lt_or_ge ls 100 with hl | hl
    · rw [if_pos hl, Nat.min_eq_left (by omega)]
      rw [Nat.min_eq_left (by omega)] at hi
      by_cases e : i = ls
      · left; rw [if_pos e]; exact ⟨by omega, rfl⟩
      · right; rw [if_neg e]; exact ⟨i, by omega, by omega, by omega, rfl⟩
    · have hl : ls = 100 := by omega
      subst hl
      have e100 : min (100 + 1) 100 = 100 := by decide
      rw [if_neg (by decide), e100]
      rw [e100] at hi
      by_cases e : i = 99
      · left; rw [if_pos e]; exact ⟨by omega, rfl⟩
      · right; rw [if_neg e]; exact ⟨i + 1, by omega, by omega, by omega, rfl⟩
  unfold lgS
  rcases new with ⟨e1, e2⟩ | ⟨k, hk, hne, e1, e2⟩
  · rw [e1, e2]
    exact ⟨j0, j1, j2, j3, j4, j5, j6, j7⟩
  · rw [e1, e2]
    have hk := h k hk
    unfold lgS at hk
    rw [j8 _ 0 hne (by decide), j8 _ 1 hne (by decide), j8 _ 2 hne (by decide), j8 _ 3 hne (by decide), j8 _ 4 hne (by decide), j8 _ 5 hne (by decide), j8 _ 6 hne (by decide), j8 _ 7 hne (by decide)]
    exact hk
theorem JOk_push {ls sz : Nat} {J : Nat → JE} {kd a b c : Int32} {pl bi su : Nat} {an : Int64} (h : JOk ls sz J) (hls : ls ≤ 100) (hok : okD kd a b c = true) (hp : pl ≤ sz) (hb : bi ≤ 16384) (hs : su < 1000003) : JOk (min (ls + 1) 100) sz (jPush ls J (kd, a, b, c, pl, bi, an, su)) := by
  intro i hi
  unfold jPush
  rcases Nat.lt_or_ge ls 100 with hl | hl
  · rw [if_pos hl]
    by_cases e : i = ls
    · rw [if_pos e]; exact ⟨hok, hp, hb, hs⟩
    · rw [if_neg e]; exact h i (by omega)
  · rw [if_neg (by omega)]
    by_cases e : i = 99
    · rw [if_pos e]; exact ⟨hok, hp, hb, hs⟩
    · rw [if_neg e]; exact h (i + 1) (by omega)
theorem ID_push {nx ls sz : Nat} {g : Nat → Int64} {J : Nat → JE} {gJ g4 : Nat → Int32} {gN g5 : Nat → Int64} {kd a b c : Int32} {pl bi su : Nat} {an : Int64} (h : ID nx ls sz g J gJ gN) (hok : okD kd a b c = true) (hp : pl ≤ sz) (hb : bi ≤ 16384) (hs : su < 1000003) (hm : JMod g4 g5 (min (ls + 1) 100) (jPush ls J (kd, a, b, c, pl, bi, an, su))) : ID ((nx + 1) % 100) (min (ls + 1) 100) sz (lgE g nx kd a b c pl bi an (lN su)) (jPush ls J (kd, a, b, c, pl, bi, an, su)) g4 g5 :=
  ⟨Nat.mod_lt _ (by decide), by omega, LogOk_push h.2.2.1 h.1 h.2.1, JOk_push h.2.2.2.1 h.2.1 hok hp hb hs, hm⟩
theorem ID_sz {nx ls sz s2 : Nat} {g : Nat → Int64} {J : Nat → JE} {gJ : Nat → Int32} {gN : Nat → Int64} (h : ID nx ls sz g J gJ gN) (hs : sz ≤ s2) : ID nx ls s2 g J gJ gN :=
  ⟨h.1, h.2.1, h.2.2.1, fun i hi => ⟨(h.2.2.2.1 i hi).1, Nat.le_trans (h.2.2.2.1 i hi).2.1 hs, (h.2.2.2.1 i hi).2.2⟩, h.2.2.2.2⟩
theorem IA_feed {sz pl : Nat} {f tpm t2 : Nat → Int32} {a b c d : Int32} (h : IA sz pl f tpm) (hn : sz + 128 ≤ 16384) (h1 : ∀ p, p < sz → t2 p = tpm p) (h2 : ∀ k, k < 128 → t2 (sz + k) = nI (fB a b c d k)) : IA (sz + 128) pl (upd (upd (upd (upd f (sz / 32) a) ((sz + 32) / 32) b) ((sz + 32 + 32) / 32) c) ((sz + 32 + 32 + 32) / 32) d) t2 := by
  obtain ⟨a1, a2, a3, a4⟩ := h
  refine ⟨hn, by omega, by omega, fun p hp => ?_⟩
  have hb := bitW_feed (f := f) (a := a) (b := b) (c := c) (d := d) a2
  rcases Nat.lt_or_ge p sz with hl | hl
  · rw [h1 p hl, hb.1 p hl]; exact a4 p hl
  · have := h2 (p - sz) (by omega)
    have h3 := hb.2 (p - sz) (by omega)
    rw [show sz + (p - sz) = p by omega] at this h3
    rw [this, h3]
theorem IA_bit {sz pl i t : Nat} {f tpm : Nat → Int32} (h : IA sz pl f tpm) (hi : i < sz) (ht : t < 2) : IA sz pl (exW f i t) (upd tpm i (nI t)) := by
  obtain ⟨a1, a2, a3, a4⟩ := h
  refine ⟨a1, a2, a3, fun p hp => ?_⟩
  rw [bitW_ex ht]
  unfold upd
  by_cases e : p = i
  · rw [if_pos e, if_pos e]
  · rw [if_neg e, if_neg e]; exact a4 p hp
