set_option maxRecDepth 100000 in
set_option maxHeartbeats 4000000 in
theorem kX4_walk_loop {D : va_G} {cI cJ cT : ClassId} {X : vX} {o d w n : Nat} {f : Nat → Int32} {fr e : Nat} {st us pe it : Nat} {n0 sz : Nat} (he : e ≤ 32 * n) (hn : n ≤ 512) (hn0 : n0 ≤ 128) {W0 : va_W} {post : (Nat → Int32) × Nat × Bool → Prop} (hE : vE (gG D cI cJ cT) X none W0 post (fun u => none) (fun u => [(o, .inr (4, [.ref d, .ref st, .ref us, .ref pe, .ref it, .int (nI sz)])), (d, .inr (0, [.ref w, .int (nI fr), .int (nI u.2.1), .int (nI e), .int (dI u.2.2)])), (w, .inl (cI, n, .inl f)), (st, .inl (cI, 256, .inl u.1))])) :
    ∀ (k : Nat) (a : Nat) (h : Nat) (gs : Nat → Int32) (F : Nat → Nat) (p : Nat) (dr : Bool), 2 * n0 - a < k → a ≤ 2 * n0 → h ≤ 2 * n0 - a → (h + a) % 2 = 0 → (∀ x, x < a → gs x = nI (F x)) → p ≤ e → (dr = true → p = e) → (∀ u, Rg (sPatL (bitW f) e (2 * n0 - a) a h F p) e p dr (fun F => ∀ x, x < 2 * n0 → u.1 x = nI (F x)) u.2.1 u.2.2 → post u) → V (gG D cI cJ cT) X (rmD 2) cX4_walk 5 RX4 [(o, .inr (4, [.ref d, .ref st, .ref us, .ref pe, .ref it, .int (nI sz)])), (d, .inr (0, [.ref w, .int (nI fr), .int (nI p), .int (nI e), .int (dI dr)])), (w, .inl (cI, n, .inl f)), (st, .inl (cI, 256, .inl gs))] 0 0 [(0, .ref o), (1, .int (nI n0)), (2, .int (nI h)), (3, .int (nI a))] 4 [] := by
  intro k
  induction k with
  | zero => intro a h gs F p dr hk ha hhr hpar hF hp hdr hq; omega
  | succ k ih =>
    intro a h gs F p dr hk ha hhr hpar hF hp hdr hq
    refine v_iload_n 3 dX4_walk_4 rfl rfl ?_
    refine v_iconst (v := nI 2) dX4_walk_5 (by decide) ?_
    refine v_iload_n 1 dX4_walk_6 rfl rfl ?_
    refine v_imul dX4_walk_7 ?_
    refine v_topi (y := nI (2 * n0)) (pk_mul 2 n0) ?_
    refine v_icmp_ge (tgt := 83) dX4_walk_8 (by decide) (fun b8 => ?_) (fun b8 => ?_)
    · have b8 : 2 * n0 ≤ a := (nI_leI (by omega) (by omega)).mp b8
      exact v_vret hE dX4_walk_83 (gs, p, dr) (hq _ (Rg_here hp hdr (by rw [show 2 * n0 - a = 0 by omega]; rfl) (fun x hx => hF x (by omega)))) rfl rfl
    · have b8 : ¬ (2 * n0 ≤ a) := fun q => b8 ((nI_leI (by omega) (by omega)).mpr q)
      refine v_aload_n 0 dX4_walk_11 rfl rfl ?_
      refine v_get f_Rows_28 0 rfl rfl dX4_walk_12 ?_
      refine v_get f_Rows_34 1 rfl rfl dX4_walk_15 ?_
      refine v_if_ne (tgt := 83) dX4_walk_18 (by decide) (fun b18 => ?_) (fun b18 => ?_)
      · have b18 : ¬ (dr = false) := fun q => b18 ((dI_0 dr).mpr q)
        exact v_vret hE dX4_walk_83 (gs, p, dr) (hq _ (Rg_over (by simpa using b18) (hdr (by simpa using b18)))) rfl rfl
      · have b18 : dr = false := (dI_0 dr).mp b18
        refine v_iconst (v := nI 2) dX4_walk_21 (by decide) ?_
        refine v_iload_n 1 dX4_walk_22 rfl rfl ?_
        refine v_imul dX4_walk_23 ?_
        refine v_topi (y := nI (2 * n0)) (pk_mul 2 n0) ?_
        refine v_iload_n 3 dX4_walk_24 rfl rfl ?_
        refine v_isub dX4_walk_25 ?_
        refine v_topi (y := nI (2 * n0 - a)) (pk_sub (by omega)) ?_
        refine v_istore (lv' := [(4, .int (nI (2 * n0 - a))), (0, .ref o), (1, .int (nI n0)), (2, .int (nI h)), (3, .int (nI a))]) dX4_walk_26 (by decide) rfl ?_
        have hpb := pat_b (h := h) (r := 2 * n0 - a) (by omega) hhr (by omega)
        refine v_aload_n 1 dX4_walk_28 rfl rfl ?_
        refine v_get f_Rows_9 0 rfl rfl dX4_walk_29 ?_
        refine v_iload_n 4 dX4_walk_32 rfl rfl ?_
        refine v_aload_n 1 dX4_walk_33 rfl rfl ?_
        refine v_get f_Rows_28 0 rfl rfl dX4_walk_34 ?_
        refine v_iload_n 3 dX4_walk_37 rfl rfl ?_
        refine v_iconst (v := nI 2) dX4_walk_38 (by decide) ?_
        refine v_iadd dX4_walk_39 ?_
        refine v_topi (y := nI (h + 2)) (nI_add _ _) ?_
        refine v_iload 0 dX4_walk_40 rfl ?_
        refine v_iload_n 3 dX4_walk_42 rfl rfl ?_
        refine v_isub dX4_walk_43 ?_
        refine v_topi (y := nI (2 * n0 - a - h)) (pk_sub (by omega)) ?_
        refine v_imul dX4_walk_44 ?_
        refine v_topi (y := nI ((h + 2) * (2 * n0 - a - h))) (pk_mul _ _) ?_
        refine v_i2l (v := lN ((h + 2) * (2 * n0 - a - h))) dX4_walk_45 (nI_l (by omega)) ?_
        refine v_iconst (v := nI 2) dX4_walk_46 (by decide) ?_
        refine v_iload_n 3 dX4_walk_47 rfl rfl ?_
        refine v_iconst (v := 1) dX4_walk_48 (by decide) ?_
        refine v_iadd dX4_walk_49 ?_
        refine v_topi (y := nI (h + 1)) (nI_1 h) ?_
        refine v_imul dX4_walk_50 ?_
        refine v_topi (y := nI (2 * (h + 1))) (pk_mul _ _) ?_
        refine v_iload 0 dX4_walk_51 rfl ?_
        refine v_imul dX4_walk_53 ?_
        refine v_topi (y := nI (2 * (h + 1) * (2 * n0 - a))) (pk_mul _ _) ?_
        refine v_i2l (v := lN (2 * (h + 1) * (2 * n0 - a))) dX4_walk_54 (nI_l (by omega)) ?_
        refine v_callV (as := [.long (lN ((h + 2) * (2 * n0 - a - h))), .long (lN (2 * (h + 1) * (2 * n0 - a)))]) (rest := [.int (nI a), .ref st]) (ws' := fun u => [(o, .inr (4, [.ref d, .ref st, .ref us, .ref pe, .ref it, .int (nI sz)])), (d, .inr (0, [.ref w, .int (nI fr), .int (nI u.2.1), .int (nI e), .int (dI u.2.2)])), (w, .inl (cI, n, .inl f)), (st, .inl (cI, 256, .inl gs))]) m_Rows_48 (kX0_coin X.l (d := d) (w := w) (n := n) (f := f) (fr := fr) (p := p) (e := e) (dr := dr) (num := ((h + 2) * (2 * n0 - a - h))) (den := (2 * (h + 1) * (2 * n0 - a))) (by omega) he hn hdr (by omega) hpb.1) k_code_X0_coin [1, 2] 1 rfl rfl rfl rfl dX4_walk_55 (Nat.le_of_ble_eq_true rfl) ⟨rfl, rfl, by decide, by decide⟩ ⟨Nat.zero_le _, Nat.zero_le _⟩ rfl rfl (fun _ => rfl) (fun _ => rfl) ?_
        intro u55 c55
        obtain ⟨r1, p1, d1⟩ := u55
        try dsimp only at c55
        show V (gG D cI cJ cT) X (rmD 2) cX4_walk 5 RX4 [(o, .inr (4, [.ref d, .ref st, .ref us, .ref pe, .ref it, .int (nI sz)])), (d, .inr (0, [.ref w, .int (nI fr), .int (nI p1), .int (nI e), .int (dI d1)])), (w, .inl (cI, n, .inl f)), (st, .inl (cI, 256, .inl gs))] 0 0 [(4, .int (nI (2 * n0 - a))), (0, .ref o), (1, .int (nI n0)), (2, .int (nI h)), (3, .int (nI a))] 58 [.int (nI r1), .int (nI a), .ref st]
        have hr1 : r1 ≤ 1 := c55.2.1
        have hp1 := Rl_p c55.1
        refine v_iast (ws' := [(o, .inr (4, [.ref d, .ref st, .ref us, .ref pe, .ref it, .int (nI sz)])), (d, .inr (0, [.ref w, .int (nI fr), .int (nI p1), .int (nI e), .int (dI d1)])), (w, .inl (cI, n, .inl f)), (st, .inl (cI, 256, .inl (upd gs a (nI r1))))]) 0 3 rfl rfl (by omega) (by omega) dX4_walk_58 rfl ?_
        refine v_iload_n 3 dX4_walk_59 rfl rfl ?_
        refine v_aload_n 1 dX4_walk_60 rfl rfl ?_
        refine v_get f_Rows_9 0 rfl rfl dX4_walk_61 ?_
        refine v_iload_n 4 dX4_walk_64 rfl rfl ?_
        refine v_iald 0 3 rfl rfl (by omega) (by omega) dX4_walk_65 ?_
        refine v_topi (y := nI r1) (pk_us) ?_
        refine v_iconst (v := nI 1) dX4_walk_66 (by decide) ?_
        refine v_icmp_ne (tgt := 74) dX4_walk_67 (by decide) (fun b67 => ?_) (fun b67 => ?_)
        · have b67 : ¬ (r1 = 1) := fun q => b67 ((nI_eq (by omega) (by decide)).mpr q)
          have hh0 : 0 < h := by rcases Nat.eq_zero_or_pos h with q | q; exact absurd (coin_sure (by rw [hpb.2.2.2.2.1 q]; exact hpb.2.2.2.1) (Nat.le_of_eq (hpb.2.2.2.2.1 q).symm) b18 c55.1).1 b67; exact q
          refine v_iconst (v := (-1)) dX4_walk_74 (by decide) ?_
          refine v_iadd dX4_walk_75 ?_
          refine v_topi (y := nI (h - 1)) (sb_m1 hh0) ?_
          refine v_istore_n (lv' := [(2, .int (nI (h - 1))), (4, .int (nI (2 * n0 - a))), (0, .ref o), (1, .int (nI n0)), (3, .int (nI a))]) dX4_walk_76 rfl (by decide) rfl ?_
          refine v_iinc (lv' := [(3, .int (nI (a + 1))), (2, .int (nI (h - 1))), (4, .int (nI (2 * n0 - a))), (0, .ref o), (1, .int (nI n0))]) (v := nI (a + 1)) 4 dX4_walk_77 rfl (nI_1 a) (by decide) rfl ?_
          refine v_goto (tgt := 4) dX4_walk_80 (by decide) ?_
          refine v_lv [3, 4, 1, 0] rfl ?_
          exact ih (a + 1) (h - 1) _ (fU F a r1) p1 d1 (by omega) (by omega) (by omega) (by omega) (upd_ok hF rfl) hp1.2.1 hp1.2.2 (fun u hu => hq u (sPat_go (by omega) c55.1 (by rw [if_neg b67]; exact hu)))
        · have b67 : r1 = 1 := (nI_eq (by omega) (by decide)).mp b67
          have hh2 : h + 2 ≤ 2 * n0 - a := by rcases Nat.lt_or_ge h (2 * n0 - a) with q | q; omega; exact absurd (c55.2.2.2 (hpb.2.2.2.2.2 (by omega))) (by omega)
          refine v_iconst (v := 1) dX4_walk_70 (by decide) ?_
          refine v_goto (tgt := 75) dX4_walk_71 (by decide) ?_
          refine v_iadd dX4_walk_75 ?_
          refine v_topi (y := nI (h + 1)) (nI_1 h) ?_
          refine v_istore_n (lv' := [(2, .int (nI (h + 1))), (4, .int (nI (2 * n0 - a))), (0, .ref o), (1, .int (nI n0)), (3, .int (nI a))]) dX4_walk_76 rfl (by decide) rfl ?_
          refine v_iinc (lv' := [(3, .int (nI (a + 1))), (2, .int (nI (h + 1))), (4, .int (nI (2 * n0 - a))), (0, .ref o), (1, .int (nI n0))]) (v := nI (a + 1)) 4 dX4_walk_77 rfl (nI_1 a) (by decide) rfl ?_
          refine v_goto (tgt := 4) dX4_walk_80 (by decide) ?_
          refine v_lv [3, 4, 1, 0] rfl ?_
          exact ih (a + 1) (h + 1) _ (fU F a r1) p1 d1 (by omega) (by omega) (by omega) (by omega) (upd_ok hF rfl) hp1.2.1 hp1.2.2 (fun u hu => hq u (sPat_go (by omega) c55.1 (by rw [if_pos b67]; exact hu)))
set_option maxRecDepth 100000 in
set_option maxHeartbeats 4000000 in
theorem kX4_walk {D : va_G} {cI cJ cT : ClassId} (l : Launch) {o d w n : Nat} {f : Nat → Int32} {fr p e : Nat} {dr : Bool} {st us pe it : Nat} {n0 sz : Nat} {gs : Nat → Int32} (hp : p ≤ e) (he : e ≤ 32 * n) (hn : n ≤ 512) (hdr : dr = true → p = e) (hn0 : n0 ≤ 128) : Fn (S := (Nat → Int32) × Nat × Bool) (gG D cI cJ cT) l yX4_walk (.code yX4_walk cX4_walk 5 none) (rmD 2) [.ref o, .int (nI n0)] [(o, .inr (4, [.ref d, .ref st, .ref us, .ref pe, .ref it, .int (nI sz)])), (d, .inr (0, [.ref w, .int (nI fr), .int (nI p), .int (nI e), .int (dI dr)])), (w, .inl (cI, n, .inl f)), (st, .inl (cI, 256, .inl gs))] (fun u => Rg (sPat (bitW f) e n0 p) e p dr (fun F => ∀ x, x < 2 * n0 → u.1 x = nI (F x)) u.2.1 u.2.2) (fun u => none) (fun u => [(o, .inr (4, [.ref d, .ref st, .ref us, .ref pe, .ref it, .int (nI sz)])), (d, .inr (0, [.ref w, .int (nI fr), .int (nI u.2.1), .int (nI e), .int (dI u.2.2)])), (w, .inl (cI, n, .inl f)), (st, .inl (cI, 256, .inl u.1))]) := by
  refine Fn.intro (by decide) (Nat.le_of_ble_eq_true rfl) ?_
  intro X hX hE hin
  subst hX
  show V (gG D cI cJ cT) X _ cX4_walk 5 RX4 _ 0 0 [(0, .ref o), (1, .int (nI n0))] 0 []
  refine v_iconst (v := nI 0) dX4_walk_0 (by decide) ?_
  refine v_istore_n (lv' := [(2, .int (nI 0)), (0, .ref o), (1, .int (nI n0))]) dX4_walk_1 rfl (by decide) rfl ?_
  refine v_iconst (v := nI 0) dX4_walk_2 (by decide) ?_
  refine v_istore_n (lv' := [(3, .int (nI 0)), (2, .int (nI 0)), (0, .ref o), (1, .int (nI n0))]) dX4_walk_3 rfl (by decide) rfl ?_
  refine v_lv [2, 3, 1, 0] rfl ?_
  exact kX4_walk_loop he hn hn0 hE (2 * n0 + 1) 0 0 gs (fun _ => 0) p dr (by omega) (by omega) (by omega) (by omega) (fun x hx => absurd hx (Nat.not_lt_zero x)) hp hdr (fun u hu => hu)
set_option maxRecDepth 100000 in
set_option maxHeartbeats 4000000 in
theorem kX4_path {D : va_G} {cI cJ cT : ClassId} (l : Launch) {o d w n : Nat} {f : Nat → Int32} {fr p e : Nat} {dr : Bool} {st us pe it : Nat} {n0 sz : Nat} {gs gi : Nat → Int32} (hp : p ≤ e) (he : e ≤ 32 * n) (hn : n ≤ 512) (hdr : dr = true → p = e) (hn0 : n0 ≤ 128) : Fn (S := (Nat → Int32) × (Nat → Int32) × Nat × Bool) (gG D cI cJ cT) l yX4_path (.code yX4_path cX4_path 2 (some .int)) (rmD 3) [.ref o, .int (nI n0)] [(o, .inr (4, [.ref d, .ref st, .ref us, .ref pe, .ref it, .int (nI sz)])), (d, .inr (0, [.ref w, .int (nI fr), .int (nI p), .int (nI e), .int (dI dr)])), (w, .inl (cI, n, .inl f)), (st, .inl (cI, 256, .inl gs)), (it, .inl (cI, 256, .inl gi))] (fun u => Rg (sPat (bitW f) e n0 p) e p dr (fun F => ∀ x, x < 2 * n0 → u.2.1 x = nI (F x)) u.2.2.1 u.2.2.2) (fun u => some (.int (nI (2 * n0)))) (fun u => [(o, .inr (4, [.ref d, .ref st, .ref us, .ref pe, .ref it, .int (nI (2 * n0))])), (d, .inr (0, [.ref w, .int (nI fr), .int (nI u.2.2.1), .int (nI e), .int (dI u.2.2.2)])), (w, .inl (cI, n, .inl f)), (st, .inl (cI, 256, .inl u.1)), (it, .inl (cI, 256, .inl u.2.1))]) := by
  refine Fn.intro (by decide) (Nat.le_of_ble_eq_true rfl) ?_
  intro X hX hE hin
  subst hX
  show V (gG D cI cJ cT) X _ cX4_path 2 RX4 _ 0 0 [(0, .ref o), (1, .int (nI n0))] 0 []
  refine v_aload_n 0 dX4_path_0 rfl rfl ?_
  refine v_iload_n 1 dX4_path_1 rfl rfl ?_
  refine v_callV (as := [.int (nI n0)]) (rest := []) (ws' := fun u => [(o, .inr (4, [.ref d, .ref st, .ref us, .ref pe, .ref it, .int (nI sz)])), (d, .inr (0, [.ref w, .int (nI fr), .int (nI u.2.1), .int (nI e), .int (dI u.2.2)])), (w, .inl (cI, n, .inl f)), (st, .inl (cI, 256, .inl u.1)), (it, .inl (cI, 256, .inl gi))]) m_Rows_52 (kX4_walk X.l (o := o) (d := d) (w := w) (n := n) (f := f) (fr := fr) (p := p) (e := e) (dr := dr) (st := st) (us := us) (pe := pe) (it := it) (n0 := n0) (sz := sz) (gs := gs) hp he hn hdr hn0) k_code_X4_walk [0, 1, 2, 3] 0 rfl rfl rfl rfl dX4_path_2 (Nat.le_of_ble_eq_true rfl) ⟨rfl, rfl, by decide, by decide⟩ ⟨Nat.zero_le _, Nat.zero_le _⟩ rfl rfl (fun _ => rfl) (fun _ => rfl) ?_
  intro u2 c2
  obtain ⟨g1, p1, d1⟩ := u2
  try dsimp only at c2
  show V (gG D cI cJ cT) X (rmD 3) cX4_path 2 RX4 [(o, .inr (4, [.ref d, .ref st, .ref us, .ref pe, .ref it, .int (nI sz)])), (d, .inr (0, [.ref w, .int (nI fr), .int (nI p1), .int (nI e), .int (dI d1)])), (w, .inl (cI, n, .inl f)), (st, .inl (cI, 256, .inl g1)), (it, .inl (cI, 256, .inl gi))] 0 0 [(0, .ref o), (1, .int (nI n0))] 5 []
  refine v_aload_n 0 dX4_path_5 rfl rfl ?_
  refine v_iconst (v := nI 2) dX4_path_6 (by decide) ?_
  refine v_iload_n 1 dX4_path_7 rfl rfl ?_
  refine v_imul dX4_path_8 ?_
  refine v_topi (y := nI (2 * n0)) (pk_mul 2 n0) ?_
  refine v_put (ws' := [(o, .inr (4, [.ref d, .ref st, .ref us, .ref pe, .ref it, .int (nI (2 * n0))])), (d, .inr (0, [.ref w, .int (nI fr), .int (nI p1), .int (nI e), .int (dI d1)])), (w, .inl (cI, n, .inl f)), (st, .inl (cI, 256, .inl g1)), (it, .inl (cI, 256, .inl gi))]) fw_Rows_24 0 rfl (rfl) (rfl) (Nat.le_of_ble_eq_true rfl) dX4_path_9 rfl ?_
  refine v_aload_n 0 dX4_path_12 rfl rfl ?_
  refine v_get f_Rows_9 0 rfl rfl dX4_path_13 ?_
  refine v_iconst (v := nI 0) dX4_path_16 (by decide) ?_
  refine v_aload_n 0 dX4_path_17 rfl rfl ?_
  refine v_get f_Rows_21 0 rfl rfl dX4_path_18 ?_
  refine v_iconst (v := nI 0) dX4_path_21 (by decide) ?_
  refine v_aload_n 0 dX4_path_22 rfl rfl ?_
  refine v_get f_Rows_24 0 rfl rfl dX4_path_23 ?_
  refine v_copyi (ws' := [(o, .inr (4, [.ref d, .ref st, .ref us, .ref pe, .ref it, .int (nI (2 * n0))])), (d, .inr (0, [.ref w, .int (nI fr), .int (nI p1), .int (nI e), .int (dI d1)])), (w, .inl (cI, n, .inl f)), (st, .inl (cI, 256, .inl g1)), (it, .inl (cI, 256, .inl (va_cpy g1 gi 0 0 ((2 * n0)))))]) k_m_Rows_56 0 3 4 rfl rfl rfl ⟨by decide, by decide, by omega⟩ (by omega) (by omega) (by decide) (by decide) dX4_path_26 rfl ?_
  refine v_aload_n 0 dX4_path_29 rfl rfl ?_
  refine v_get f_Rows_24 0 rfl rfl dX4_path_30 ?_
  exact v_iret hE dX4_path_33 (g1, va_cpy g1 gi 0 0 (2 * n0), p1, d1) (Rg_map c2 (fun _ _ F ho hm => ⟨F, ho, fun x hx => by show va_cpy g1 gi 0 0 (2 * n0) x = _; rw [sb_cpy0 hx]; exact hm x hx⟩) (fun _ ho => ho)) rfl rfl
