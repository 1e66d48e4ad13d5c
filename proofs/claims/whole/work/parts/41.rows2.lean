theorem str_1 {g g0 : Nat → Int32} {i : Nat} {A : Int32} (h : ∀ x, x < i → g x = rI (g0 x) A) (hi : g i = g0 i) : ∀ x, x < i + 1 → upd g i (g i - g i / A * A) x = rI (g0 x) A := by
  intro x hx
  unfold upd
  by_cases h1 : x = i
  · simp [h1, hi, rI]
  · simp [h1, h x (by omega)]
theorem str_2 {g g0 : Nat → Int32} {i n0 : Nat} {v : Int32} (h : ∀ x, i ≤ x → x < n0 → g x = g0 x) : ∀ x, i + 1 ≤ x → x < n0 → upd g i v x = g0 x := by
  intro x h1 h2
  unfold upd
  simp [show ¬ x = i by omega, h x (by omega) h2]
set_option maxRecDepth 100000 in
set_option maxHeartbeats 4000000 in
theorem kX4_stratum_loop {D : va_G} {cI cJ cT : ClassId} {X : vX} {o d w n : Nat} {f : Nat → Int32} {fr e : Nat} {st us pe it : Nat} {n0 arms p : Nat} {dr : Bool} {g0 : Nat → Int32} (hn0 : n0 ≤ 256) (ha0 : 0 < arms) (ha : arms < 2 ^ 31) {W0 : va_W} {post : (Nat → Int32) × Nat × Bool → Prop} (hq : ∀ g, (∀ x, x < n0 → g x = rI (g0 x) (nI arms)) → post (g, p, dr)) (hE : vE (gG D cI cJ cT) X (some .int) W0 post (fun u => some (.int (nI n0))) (fun u => [(o, .inr (4, [.ref d, .ref st, .ref us, .ref pe, .ref it, .int (nI n0)])), (d, .inr (0, [.ref w, .int (nI fr), .int (nI u.2.1), .int (nI e), .int (dI u.2.2)])), (w, .inl (cI, n, .inl f)), (it, .inl (cI, 256, .inl u.1))])) :
    ∀ (k : Nat) (i : Nat) (g : Nat → Int32), n0 - i < k → i ≤ n0 → (∀ x, x < i → g x = rI (g0 x) (nI arms)) → (∀ x, i ≤ x → x < n0 → g x = g0 x) → V (gG D cI cJ cT) X (rmD 3) cX4_stratum 4 RX4 [(o, .inr (4, [.ref d, .ref st, .ref us, .ref pe, .ref it, .int (nI n0)])), (d, .inr (0, [.ref w, .int (nI fr), .int (nI p), .int (nI e), .int (dI dr)])), (w, .inl (cI, n, .inl f)), (it, .inl (cI, 256, .inl g))] 0 0 [(0, .ref o), (1, .int (nI n0)), (2, .int (nI arms)), (3, .int (nI i))] 8 [] := by
  intro k
  induction k with
  | zero => intro i g hk hi hg1 hg2; omega
  | succ k ih =>
    intro i g hk hi hg1 hg2
    refine v_iload_n 3 dX4_stratum_8 rfl rfl ?_
    refine v_iload_n 1 dX4_stratum_9 rfl rfl ?_
    refine v_icmp_ge (tgt := 33) dX4_stratum_10 (by decide) (fun b10 => ?_) (fun b10 => ?_)
    · have b10 : n0 ≤ i := (nI_leI (by omega) (by omega)).mp b10
      refine v_aload_n 0 dX4_stratum_33 rfl rfl ?_
      refine v_get f_Rows_24 0 rfl rfl dX4_stratum_34 ?_
      exact v_iret hE dX4_stratum_37 (g, p, dr) (hq _ (fun x hx => hg1 x (by omega))) rfl rfl
    · have b10 : ¬ (n0 ≤ i) := fun q => b10 ((nI_leI (by omega) (by omega)).mpr q)
      refine v_iload_n 2 dX4_stratum_13 rfl rfl ?_
      refine v_if_le (tgt := 33) dX4_stratum_14 (by decide) (fun b14 => absurd b14 (fun q => absurd ((show nI arms ≤ 0 ↔ arms ≤ 0 from nI_leI (b := 0) (by omega) (by decide)).mp q) (by omega))) (fun b14 => ?_)
      refine v_aload_n 0 dX4_stratum_17 rfl rfl ?_
      refine v_get f_Rows_21 0 rfl rfl dX4_stratum_18 ?_
      refine v_iload_n 3 dX4_stratum_21 rfl rfl ?_
      refine v_dup2_11 dX4_stratum_22 rfl rfl ?_
      refine v_iald 0 3 rfl rfl (by omega) (by omega) dX4_stratum_23 ?_
      refine v_iload_n 2 dX4_stratum_24 rfl rfl ?_
      refine v_irem dX4_stratum_25 (fun q => absurd ((nI_eq (b := 0) (by omega) (by decide)).mp q) (by omega)) ?_
      refine v_iast (ws' := [(o, .inr (4, [.ref d, .ref st, .ref us, .ref pe, .ref it, .int (nI n0)])), (d, .inr (0, [.ref w, .int (nI fr), .int (nI p), .int (nI e), .int (dI dr)])), (w, .inl (cI, n, .inl f)), (it, .inl (cI, 256, .inl (upd g i ((g i) - (g i) / (nI arms) * (nI arms)))))]) 0 3 rfl rfl (by omega) (by omega) dX4_stratum_26 rfl ?_
      refine v_iinc (lv' := [(3, .int (nI (i + 1))), (0, .ref o), (1, .int (nI n0)), (2, .int (nI arms))]) (v := nI (i + 1)) 3 dX4_stratum_27 rfl (nI_1 i) (by decide) rfl ?_
      refine v_goto (tgt := 8) dX4_stratum_30 (by decide) ?_
      refine v_lv [1, 2, 3, 0] rfl ?_
      exact ih (i + 1) _ (by omega) (by omega) (fun x hx => str_1 hg1 (hg2 i (by omega) (by omega)) x hx) (fun x h1 h2 => str_2 hg2 x h1 h2)
set_option maxRecDepth 100000 in
set_option maxHeartbeats 4000000 in
theorem kX4_stratum {D : va_G} {cI cJ cT : ClassId} (l : Launch) {o d w n : Nat} {f : Nat → Int32} {fr p e : Nat} {dr : Bool} {st us pe it : Nat} {n0 sz arms : Nat} {gi : Nat → Int32} (hp : p ≤ e) (he : e ≤ 32 * n) (hn : n ≤ 512) (hdr : dr = true → p = e) (hn0 : n0 ≤ 256) (ha0 : 0 < arms) (ha : arms < 2 ^ 31) : Fn (S := (Nat → Int32) × Nat × Bool) (gG D cI cJ cT) l yX4_stratum (.code yX4_stratum cX4_stratum 4 (some .int)) (rmD 3) [.ref o, .int (nI n0), .int (nI arms)] [(o, .inr (4, [.ref d, .ref st, .ref us, .ref pe, .ref it, .int (nI sz)])), (d, .inr (0, [.ref w, .int (nI fr), .int (nI p), .int (nI e), .int (dI dr)])), (w, .inl (cI, n, .inl f)), (it, .inl (cI, 256, .inl gi))] (fun u => Rg (sStr (bitW f) e n0 arms p) e p dr (fun F => ∀ x, x < n0 → u.1 x = nI (F x)) u.2.1 u.2.2) (fun u => some (.int (nI n0))) (fun u => [(o, .inr (4, [.ref d, .ref st, .ref us, .ref pe, .ref it, .int (nI n0)])), (d, .inr (0, [.ref w, .int (nI fr), .int (nI u.2.1), .int (nI e), .int (dI u.2.2)])), (w, .inl (cI, n, .inl f)), (it, .inl (cI, 256, .inl u.1))]) := by
  refine Fn.intro (by decide) (Nat.le_of_ble_eq_true rfl) ?_
  intro X hX hE hin
  subst hX
  show V (gG D cI cJ cT) X _ cX4_stratum 4 RX4 _ 0 0 [(0, .ref o), (1, .int (nI n0)), (2, .int (nI arms))] 0 []
  refine v_aload_n 0 dX4_stratum_0 rfl rfl ?_
  refine v_iload_n 1 dX4_stratum_1 rfl rfl ?_
  refine v_callV (as := [.int (nI n0)]) (rest := []) (ws' := fun u => [(o, .inr (4, [.ref d, .ref st, .ref us, .ref pe, .ref it, .int (nI n0)])), (d, .inr (0, [.ref w, .int (nI fr), .int (nI u.2.1), .int (nI e), .int (dI u.2.2)])), (w, .inl (cI, n, .inl f)), (it, .inl (cI, 256, .inl u.1))]) m_Rows_44 (kX4_shuffle X.l (o := o) (d := d) (w := w) (n := n) (f := f) (fr := fr) (p := p) (e := e) (dr := dr) (st := st) (us := us) (pe := pe) (it := it) (n0 := n0) (sz := sz) (gi := gi) hp he hn hdr hn0) k_code_X4_shuffle [0, 1, 2, 3] 0 rfl rfl rfl rfl dX4_stratum_2 (Nat.le_of_ble_eq_true rfl) ⟨rfl, rfl, by decide, by decide⟩ ⟨Nat.zero_le _, Nat.zero_le _⟩ rfl rfl (fun _ => rfl) (fun _ => rfl) ?_
  intro u2 c2
  obtain ⟨g1, p1, d1⟩ := u2
  try dsimp only at c2
  show V (gG D cI cJ cT) X (rmD 3) cX4_stratum 4 RX4 [(o, .inr (4, [.ref d, .ref st, .ref us, .ref pe, .ref it, .int (nI n0)])), (d, .inr (0, [.ref w, .int (nI fr), .int (nI p1), .int (nI e), .int (dI d1)])), (w, .inl (cI, n, .inl f)), (it, .inl (cI, 256, .inl g1))] 0 0 [(0, .ref o), (1, .int (nI n0)), (2, .int (nI arms))] 5 [.int (nI n0)]
  refine v_pop dX4_stratum_5 rfl ?_
  refine v_iconst (v := nI 0) dX4_stratum_6 (by decide) ?_
  refine v_istore_n (lv' := [(3, .int (nI 0)), (0, .ref o), (1, .int (nI n0)), (2, .int (nI arms))]) dX4_stratum_7 rfl (by decide) rfl ?_
  refine v_lv [1, 2, 3, 0] rfl ?_
  exact kX4_stratum_loop (g0 := g1) hn0 ha0 ha (fun g hg => str_map hn0 ha0 ha c2 hg) hE (n0 + 1) 0 g1 (by omega) (by omega) (fun x hx => absurd hx (Nat.not_lt_zero x)) (fun x _ _ => rfl)
set_option maxRecDepth 100000 in
set_option maxHeartbeats 4000000 in
theorem kX4_subset_loop {D : va_G} {cI cJ cT : ClassId} {X : vX} {o d w n : Nat} {f : Nat → Int32} {fr e : Nat} {st us pe it : Nat} {nn kk : Nat} (he : e ≤ 32 * n) (hn : n ≤ 512) (hnn : nn ≤ 256) (hkk : kk ≤ nn) {W0 : va_W} {post : Nat × (Nat → Int32) × Nat × Bool → Prop} (hE : vE (gG D cI cJ cT) X (some .int) W0 post (fun u => some (.int (nI u.1))) (fun u => [(o, .inr (4, [.ref d, .ref st, .ref us, .ref pe, .ref it, .int (nI u.1)])), (d, .inr (0, [.ref w, .int (nI fr), .int (nI u.2.2.1), .int (nI e), .int (dI u.2.2.2)])), (w, .inl (cI, n, .inl f)), (it, .inl (cI, 256, .inl u.2.1))])) :
    ∀ (k : Nat) (i : Nat) (c : Nat) (gi : Nat → Int32) (F : Nat → Nat) (p : Nat) (dr : Bool), nn - i < k → i ≤ nn → c ≤ kk → c ≤ i → (dr = false → kk - c ≤ nn - i) → (∀ x, x < c → gi x = nI (F x)) → p ≤ e → (dr = true → p = e) → (∀ u, Rg (sSubL (bitW f) e kk (nn - i) i c F p) e p dr (fun a => u.1 = a.1 ∧ ∀ x, x < a.1 → u.2.1 x = nI (a.2 x)) u.2.2.1 u.2.2.2 ∧ u.1 ≤ kk → post u) → V (gG D cI cJ cT) X (rmD 2) cX4_subset 4 RX4 [(o, .inr (4, [.ref d, .ref st, .ref us, .ref pe, .ref it, .int (nI c)])), (d, .inr (0, [.ref w, .int (nI fr), .int (nI p), .int (nI e), .int (dI dr)])), (w, .inl (cI, n, .inl f)), (it, .inl (cI, 256, .inl gi))] 0 0 [(0, .ref o), (1, .int (nI nn)), (2, .int (nI kk)), (3, .int (nI i))] 2 [] := by
  intro k
  induction k with
  | zero => intro i c gi F p dr hk hi hck hci hinv hF hp hdr hq; omega
  | succ k ih =>
    intro i c gi F p dr hk hi hck hci hinv hF hp hdr hq
    refine v_iload_n 3 dX4_subset_2 rfl rfl ?_
    refine v_iload_n 1 dX4_subset_3 rfl rfl ?_
    refine v_icmp_ge (tgt := 65) dX4_subset_4 (by decide) (fun b4 => ?_) (fun b4 => ?_)
    · have b4 : nn ≤ i := (nI_leI (by omega) (by omega)).mp b4
      refine v_aload_n 0 dX4_subset_65 rfl rfl ?_
      refine v_get f_Rows_24 0 rfl rfl dX4_subset_66 ?_
      exact v_iret hE dX4_subset_69 (c, gi, p, dr) (hq _ ⟨Rg_here hp hdr (by rw [show nn - i = 0 by omega]; rfl) ⟨rfl, hF⟩, hck⟩) rfl rfl
    · have b4 : ¬ (nn ≤ i) := fun q => b4 ((nI_leI (by omega) (by omega)).mpr q)
      refine v_aload_n 0 dX4_subset_7 rfl rfl ?_
      refine v_get f_Rows_28 0 rfl rfl dX4_subset_8 ?_
      refine v_get f_Rows_34 1 rfl rfl dX4_subset_11 ?_
      refine v_if_ne (tgt := 65) dX4_subset_14 (by decide) (fun b14 => ?_) (fun b14 => ?_)
      · have b14 : ¬ (dr = false) := fun q => b14 ((dI_0 dr).mpr q)
        refine v_aload_n 0 dX4_subset_65 rfl rfl ?_
        refine v_get f_Rows_24 0 rfl rfl dX4_subset_66 ?_
        exact v_iret hE dX4_subset_69 (c, gi, p, dr) (hq _ ⟨Rg_over (by simpa using b14) (hdr (by simpa using b14)), hck⟩) rfl rfl
      · have b14 : dr = false := (dI_0 dr).mp b14
        have hkn := hinv b14
        refine v_aload_n 0 dX4_subset_17 rfl rfl ?_
        refine v_get f_Rows_28 0 rfl rfl dX4_subset_18 ?_
        refine v_iload_n 2 dX4_subset_21 rfl rfl ?_
        refine v_aload_n 0 dX4_subset_22 rfl rfl ?_
        refine v_get f_Rows_24 0 rfl rfl dX4_subset_23 ?_
        refine v_isub dX4_subset_26 ?_
        refine v_topi (y := nI (kk - c)) (pk_sub hck) ?_
        refine v_i2l (v := lN (kk - c)) dX4_subset_27 (nI_l (by omega)) ?_
        refine v_iload_n 1 dX4_subset_28 rfl rfl ?_
        refine v_iload_n 3 dX4_subset_29 rfl rfl ?_
        refine v_isub dX4_subset_30 ?_
        refine v_topi (y := nI (nn - i)) (pk_sub (by omega)) ?_
        refine v_i2l (v := lN (nn - i)) dX4_subset_31 (nI_l (by omega)) ?_
        refine v_callV (as := [.long (lN (kk - c)), .long (lN (nn - i))]) (rest := []) (ws' := fun u => [(o, .inr (4, [.ref d, .ref st, .ref us, .ref pe, .ref it, .int (nI c)])), (d, .inr (0, [.ref w, .int (nI fr), .int (nI u.2.1), .int (nI e), .int (dI u.2.2)])), (w, .inl (cI, n, .inl f)), (it, .inl (cI, 256, .inl gi))]) m_Rows_48 (kX0_coin X.l (d := d) (w := w) (n := n) (f := f) (fr := fr) (p := p) (e := e) (dr := dr) (num := (kk - c)) (den := (nn - i)) (by omega) he hn hdr (by omega) (by omega)) k_code_X0_coin [1, 2] 1 rfl rfl rfl rfl dX4_subset_32 (Nat.le_of_ble_eq_true rfl) ⟨rfl, rfl, by decide, by decide⟩ ⟨Nat.zero_le _, Nat.zero_le _⟩ rfl rfl (fun _ => rfl) (fun _ => rfl) ?_
        intro u32 c32
        obtain ⟨r1, p1, d1⟩ := u32
        try dsimp only at c32
        show V (gG D cI cJ cT) X (rmD 2) cX4_subset 4 RX4 [(o, .inr (4, [.ref d, .ref st, .ref us, .ref pe, .ref it, .int (nI c)])), (d, .inr (0, [.ref w, .int (nI fr), .int (nI p1), .int (nI e), .int (dI d1)])), (w, .inl (cI, n, .inl f)), (it, .inl (cI, 256, .inl gi))] 0 0 [(0, .ref o), (1, .int (nI nn)), (2, .int (nI kk)), (3, .int (nI i))] 35 [.int (nI r1)]
        have hr1 : r1 ≤ 1 := c32.2.1
        have hp1 := Rl_p c32.1
        refine v_iconst (v := nI 1) dX4_subset_35 (by decide) ?_
        refine v_icmp_ne (tgt := 59) dX4_subset_36 (by decide) (fun b36 => ?_) (fun b36 => ?_)
        · have b36 : ¬ (r1 = 1) := fun q => b36 ((nI_eq (by omega) (by decide)).mpr q)
          refine v_iinc (lv' := [(3, .int (nI (i + 1))), (0, .ref o), (1, .int (nI nn)), (2, .int (nI kk))]) (v := nI (i + 1)) 3 dX4_subset_59 rfl (nI_1 i) (by decide) rfl ?_
          refine v_goto (tgt := 2) dX4_subset_62 (by decide) ?_
          refine v_lv [1, 2, 3, 0] rfl ?_
          exact ih (i + 1) c gi F p1 d1 (by omega) (by omega) hck (by omega) (fun h => by rcases Nat.lt_or_ge (kk - c) (nn - i) with q | q; omega; exact absurd (coin_sure (by omega) q b14 c32.1).1 b36) hF hp1.2.1 hp1.2.2 (fun u hu => hq u ⟨sSub_go (by omega) c32.1 (by rw [if_neg b36]; exact hu.1), hu.2⟩)
        · have b36 : r1 = 1 := (nI_eq (by omega) (by decide)).mp b36
          have hckk : c < kk := by rcases Nat.lt_or_ge c kk with q | q; exact q; exact absurd (c32.2.2.2 (by omega)) (by omega)
          refine v_aload_n 0 dX4_subset_39 rfl rfl ?_
          refine v_get f_Rows_21 0 rfl rfl dX4_subset_40 ?_
          refine v_aload_n 0 dX4_subset_43 rfl rfl ?_
          refine v_get f_Rows_24 0 rfl rfl dX4_subset_44 ?_
          refine v_iload_n 3 dX4_subset_47 rfl rfl ?_
          refine v_iast (ws' := [(o, .inr (4, [.ref d, .ref st, .ref us, .ref pe, .ref it, .int (nI c)])), (d, .inr (0, [.ref w, .int (nI fr), .int (nI p1), .int (nI e), .int (dI d1)])), (w, .inl (cI, n, .inl f)), (it, .inl (cI, 256, .inl (upd gi c (nI i))))]) 0 3 rfl rfl (by omega) (by omega) dX4_subset_48 rfl ?_
          refine v_aload_n 0 dX4_subset_49 rfl rfl ?_
          refine v_dup dX4_subset_50 rfl ?_
          refine v_get f_Rows_24 0 rfl rfl dX4_subset_51 ?_
          refine v_iconst (v := 1) dX4_subset_54 (by decide) ?_
          refine v_iadd dX4_subset_55 ?_
          refine v_topi (y := nI (c + 1)) (nI_1 c) ?_
          refine v_put (ws' := [(o, .inr (4, [.ref d, .ref st, .ref us, .ref pe, .ref it, .int (nI (c + 1))])), (d, .inr (0, [.ref w, .int (nI fr), .int (nI p1), .int (nI e), .int (dI d1)])), (w, .inl (cI, n, .inl f)), (it, .inl (cI, 256, .inl (upd gi c (nI i))))]) fw_Rows_24 0 rfl (rfl) (rfl) (Nat.le_of_ble_eq_true rfl) dX4_subset_56 rfl ?_
          refine v_iinc (lv' := [(3, .int (nI (i + 1))), (0, .ref o), (1, .int (nI nn)), (2, .int (nI kk))]) (v := nI (i + 1)) 3 dX4_subset_59 rfl (nI_1 i) (by decide) rfl ?_
          refine v_goto (tgt := 2) dX4_subset_62 (by decide) ?_
          refine v_lv [1, 2, 3, 0] rfl ?_
          exact ih (i + 1) (c + 1) _ (fU F c i) p1 d1 (by omega) (by omega) (by omega) (by omega) (fun h => by omega) (upd_ok hF rfl) hp1.2.1 hp1.2.2 (fun u hu => hq u ⟨sSub_go (by omega) c32.1 (by rw [if_pos b36]; exact hu.1), hu.2⟩)
set_option maxRecDepth 100000 in
set_option maxHeartbeats 4000000 in
theorem kX4_subset {D : va_G} {cI cJ cT : ClassId} (l : Launch) {o d w n : Nat} {f : Nat → Int32} {fr p e : Nat} {dr : Bool} {st us pe it : Nat} {nn kk : Nat} {gi : Nat → Int32} (hp : p ≤ e) (he : e ≤ 32 * n) (hn : n ≤ 512) (hdr : dr = true → p = e) (hnn : nn ≤ 256) (hkk : kk ≤ nn) : Fn (S := Nat × (Nat → Int32) × Nat × Bool) (gG D cI cJ cT) l yX4_subset (.code yX4_subset cX4_subset 4 (some .int)) (rmD 2) [.ref o, .int (nI nn), .int (nI kk)] [(o, .inr (4, [.ref d, .ref st, .ref us, .ref pe, .ref it, .int (nI 0)])), (d, .inr (0, [.ref w, .int (nI fr), .int (nI p), .int (nI e), .int (dI dr)])), (w, .inl (cI, n, .inl f)), (it, .inl (cI, 256, .inl gi))] (fun u => Rg (sSub (bitW f) e nn kk p) e p dr (fun a => u.1 = a.1 ∧ ∀ x, x < a.1 → u.2.1 x = nI (a.2 x)) u.2.2.1 u.2.2.2 ∧ u.1 ≤ kk) (fun u => some (.int (nI u.1))) (fun u => [(o, .inr (4, [.ref d, .ref st, .ref us, .ref pe, .ref it, .int (nI u.1)])), (d, .inr (0, [.ref w, .int (nI fr), .int (nI u.2.2.1), .int (nI e), .int (dI u.2.2.2)])), (w, .inl (cI, n, .inl f)), (it, .inl (cI, 256, .inl u.2.1))]) := by
  refine Fn.intro (by decide) (Nat.le_of_ble_eq_true rfl) ?_
  intro X hX hE hin
  subst hX
  show V (gG D cI cJ cT) X _ cX4_subset 4 RX4 _ 0 0 [(0, .ref o), (1, .int (nI nn)), (2, .int (nI kk))] 0 []
  refine v_iconst (v := nI 0) dX4_subset_0 (by decide) ?_
  refine v_istore_n (lv' := [(3, .int (nI 0)), (0, .ref o), (1, .int (nI nn)), (2, .int (nI kk))]) dX4_subset_1 rfl (by decide) rfl ?_
  refine v_lv [1, 2, 3, 0] rfl ?_
  exact kX4_subset_loop he hn hnn hkk hE (nn + 1) 0 0 gi (fun _ => 0) p dr (by omega) (by omega) (by omega) (by omega) (fun _ => by omega) (fun x hx => absurd hx (Nat.not_lt_zero x)) hp hdr (fun u hu => hu)
