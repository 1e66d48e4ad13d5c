set_option maxRecDepth 100000 in
set_option maxHeartbeats 4000000 in
theorem kX4_checkSum_loop {D : va_G} {cI cJ cT : ClassId} {X : vX} {o d st us pe it sz : Nat} {gi : Nat → Int32} {F : Nat → Nat}  (hsz : sz ≤ 256) (hF : ∀ x, x < sz → gi x = nI (F x)) (hB : ∀ x, x < sz → F x < 65536)  {W0 : va_W} {post : Unit → Prop} (hq : ∀ u, True → post u) (hE : vE (gG D cI cJ cT) X (some .long) W0 post (fun u => some (.long (lN (csN F sz % 1000003)))) (fun u => [(o, .inr (4, [.ref d, .ref st, .ref us, .ref pe, .ref it, .int (nI sz)])), (it, .inl (cI, 256, .inl gi))])) :
    ∀ (k : Nat) (i : Nat), i ≤ sz → sz - i < k → V (gG D cI cJ cT) X (rmD 0) cX4_checkSum 4 RX4 [(o, .inr (4, [.ref d, .ref st, .ref us, .ref pe, .ref it, .int (nI sz)])), (it, .inl (cI, 256, .inl gi))] 0 0 [(0, .ref o), (1, .long (lN (csN F i))), (3, .int (nI i))] 4 [] := by
  intro k
  induction k with
  | zero => intro i hi hk; omega
  | succ k ih =>
    intro i hi hk
    refine v_iload_n 2 dX4_checkSum_4 rfl rfl ?_
    refine v_aload_n 0 dX4_checkSum_5 rfl rfl ?_
    refine v_get f_Rows_24 0 rfl rfl dX4_checkSum_6 ?_
    refine v_icmp_ge (tgt := 33) dX4_checkSum_9 (by decide) (fun b9 => ?_) (fun b9 => ?_)
    · have b9 : sz ≤ i := (nI_leI (by omega) (by omega)).mp b9
      refine v_lload_n 1 dX4_checkSum_33 rfl rfl ?_
      have hcs := csN_le (F := F) sz hsz hB
      have hiz : i = sz := by omega
      subst hiz
      refine v_ldc2 (v := lN 1000003) k_c_Rows_32 dX4_checkSum_34 ?_
      refine v_lrem dX4_checkSum_37 (by decide) ?_
      refine v_topl (y := lN (csN F i % 1000003)) (pk_lRem (by omega) (by decide) (by decide)) ?_
      exact v_lret hE dX4_checkSum_38 () (hq _ trivial) rfl rfl
    · have b9 : ¬ (sz ≤ i) := fun q => b9 ((nI_leI (by omega) (by omega)).mpr q)
      refine v_lload_n 1 dX4_checkSum_12 rfl rfl ?_
      refine v_iload_n 2 dX4_checkSum_13 rfl rfl ?_
      refine v_i2l (v := lN i) dX4_checkSum_14 (nI_l (by omega)) ?_
      refine v_lconst (v := lN 1) dX4_checkSum_15 (by decide) ?_
      refine v_ladd dX4_checkSum_16 ?_
      refine v_topl (y := lN (i + 1)) (lN_add _ _) ?_
      refine v_aload_n 0 dX4_checkSum_17 rfl rfl ?_
      refine v_get f_Rows_21 0 rfl rfl dX4_checkSum_18 ?_
      refine v_iload_n 2 dX4_checkSum_21 rfl rfl ?_
      refine v_iald 0 1 rfl rfl (by omega) (by omega) dX4_checkSum_22 ?_
      refine v_topi (y := nI (F i)) (hF i (by omega)) ?_
      have hFi := hB i (by omega)
      refine v_i2l (v := lN (F i)) dX4_checkSum_23 (nI_l (by omega)) ?_
      refine v_lmul dX4_checkSum_24 ?_
      refine v_topl (y := lN ((i + 1) * F i)) (lN_mul _ _) ?_
      refine v_ladd dX4_checkSum_25 ?_
      refine v_topl (y := lN (csN F (i + 1))) (lN_add _ _) ?_
      refine v_lstore_n (lv' := [(1, .long (lN (csN F (i + 1)))), (0, .ref o), (3, .int (nI i))]) dX4_checkSum_26 rfl (by decide) rfl ?_
      refine v_iinc (lv' := [(3, .int (nI (i + 1))), (1, .long (lN (csN F (i + 1)))), (0, .ref o)]) (v := nI (i + 1)) 2 dX4_checkSum_27 rfl (nI_1 i) (by decide) rfl ?_
      refine v_goto (tgt := 4) dX4_checkSum_30 (by decide) ?_
      refine v_lv [2, 1, 0] rfl ?_
      exact ih (i + 1) (by omega) (by omega)
set_option maxRecDepth 100000 in
set_option maxHeartbeats 4000000 in
theorem kX4_checkSum {D : va_G} {cI cJ cT : ClassId} (l : Launch) {o d st us pe it sz : Nat} {gi : Nat → Int32} {F : Nat → Nat} (hsz : sz ≤ 256) (hF : ∀ x, x < sz → gi x = nI (F x)) (hB : ∀ x, x < sz → F x < 65536) : Fn (S := Unit) (gG D cI cJ cT) l yX4_checkSum (.code yX4_checkSum cX4_checkSum 4 (some .long)) (rmD 0) [.ref o] [(o, .inr (4, [.ref d, .ref st, .ref us, .ref pe, .ref it, .int (nI sz)])), (it, .inl (cI, 256, .inl gi))] (fun _ => True) (fun u => some (.long (lN (csN F sz % 1000003)))) (fun u => [(o, .inr (4, [.ref d, .ref st, .ref us, .ref pe, .ref it, .int (nI sz)])), (it, .inl (cI, 256, .inl gi))]) := by
  refine Fn.intro (by decide) (Nat.le_of_ble_eq_true rfl) ?_
  intro X hX hE hin
  subst hX
  show V (gG D cI cJ cT) X _ cX4_checkSum 4 RX4 _ 0 0 [(0, .ref o)] 0 []
  refine v_lconst (v := lN 0) dX4_checkSum_0 (by decide) ?_
  refine v_lstore_n (lv' := [(1, .long (lN 0)), (0, .ref o)]) dX4_checkSum_1 rfl (by decide) rfl ?_
  refine v_iconst (v := nI 0) dX4_checkSum_2 (by decide) ?_
  refine v_istore_n (lv' := [(3, .int (nI 0)), (1, .long (lN 0)), (0, .ref o)]) dX4_checkSum_3 rfl (by decide) rfl ?_
  refine v_lv [2, 1, 0] rfl ?_
  exact kX4_checkSum_loop hsz hF hB (fun u _ => trivial) hE (sz + 1) 0 (by omega) (by omega)
set_option maxRecDepth 100000 in
set_option maxHeartbeats 4000000 in
theorem kX4_shuffle_loop2 {D : va_G} {cI cJ cT : ClassId} {X : vX} {o d w n : Nat} {f : Nat → Int32} {fr e : Nat} {st us pe it : Nat} {n0 sz : Nat} (he : e ≤ 32 * n) (hn : n ≤ 512) (hn0 : n0 ≤ 256) {W0 : va_W} {post : (Nat → Int32) × Nat × Bool → Prop} (hE : vE (gG D cI cJ cT) X (some .int) W0 post (fun u => some (.int (nI n0))) (fun u => [(o, .inr (4, [.ref d, .ref st, .ref us, .ref pe, .ref it, .int (nI n0)])), (d, .inr (0, [.ref w, .int (nI fr), .int (nI u.2.1), .int (nI e), .int (dI u.2.2)])), (w, .inl (cI, n, .inl f)), (it, .inl (cI, 256, .inl u.1))])) :
    ∀ (k : Nat) (i : Nat) (gi : Nat → Int32) (F : Nat → Nat) (p : Nat) (dr : Bool), i < k → i < n0 → (∀ x, x < n0 → gi x = nI (F x)) → p ≤ e → (dr = true → p = e) → (∀ u, Rg (sShuL (bitW f) e i F p) e p dr (fun F => ∀ x, x < n0 → u.1 x = nI (F x)) u.2.1 u.2.2 → post u) → V (gG D cI cJ cT) X (rmD 2) cX4_shuffle 5 RX4 [(o, .inr (4, [.ref d, .ref st, .ref us, .ref pe, .ref it, .int (nI sz)])), (d, .inr (0, [.ref w, .int (nI fr), .int (nI p), .int (nI e), .int (dI dr)])), (w, .inl (cI, n, .inl f)), (it, .inl (cI, 256, .inl gi))] 0 0 [(0, .ref o), (1, .int (nI n0)), (2, .int (nI i))] 24 [] := by
  intro k
  induction k with
  | zero => intro i gi F p dr hk hi hF hp hdr hq; omega
  | succ k ih =>
    intro i gi F p dr hk hi hF hp hdr hq
    refine v_iload_n 2 dX4_shuffle_24 rfl rfl ?_
    refine v_iconst (v := nI 1) dX4_shuffle_25 (by decide) ?_
    refine v_icmp_lt (tgt := 86) dX4_shuffle_26 (by decide) (fun b26 => ?_) (fun b26 => ?_)
    · have b26 : i < 1 := (nI_ltI (by omega) (by decide)).mp b26
      refine v_aload_n 0 dX4_shuffle_86 rfl rfl ?_
      refine v_iload_n 1 dX4_shuffle_87 rfl rfl ?_
      refine v_put (ws' := [(o, .inr (4, [.ref d, .ref st, .ref us, .ref pe, .ref it, .int (nI n0)])), (d, .inr (0, [.ref w, .int (nI fr), .int (nI p), .int (nI e), .int (dI dr)])), (w, .inl (cI, n, .inl f)), (it, .inl (cI, 256, .inl gi))]) fw_Rows_24 0 rfl (rfl) (rfl) (Nat.le_of_ble_eq_true rfl) dX4_shuffle_88 rfl ?_
      refine v_aload_n 0 dX4_shuffle_91 rfl rfl ?_
      refine v_get f_Rows_24 0 rfl rfl dX4_shuffle_92 ?_
      exact v_iret hE dX4_shuffle_95 (gi, p, dr) (hq _ (Rg_here hp hdr (by rw [show i = 0 by omega]; rfl) hF)) rfl rfl
    · have b26 : ¬ (i < 1) := fun q => b26 ((nI_ltI (by omega) (by decide)).mpr q)
      refine v_aload_n 0 dX4_shuffle_29 rfl rfl ?_
      refine v_get f_Rows_28 0 rfl rfl dX4_shuffle_30 ?_
      refine v_get f_Rows_34 1 rfl rfl dX4_shuffle_33 ?_
      refine v_if_ne (tgt := 86) dX4_shuffle_36 (by decide) (fun b36 => ?_) (fun b36 => ?_)
      · have b36 : ¬ (dr = false) := fun q => b36 ((dI_0 dr).mpr q)
        refine v_aload_n 0 dX4_shuffle_86 rfl rfl ?_
        refine v_iload_n 1 dX4_shuffle_87 rfl rfl ?_
        refine v_put (ws' := [(o, .inr (4, [.ref d, .ref st, .ref us, .ref pe, .ref it, .int (nI n0)])), (d, .inr (0, [.ref w, .int (nI fr), .int (nI p), .int (nI e), .int (dI dr)])), (w, .inl (cI, n, .inl f)), (it, .inl (cI, 256, .inl gi))]) fw_Rows_24 0 rfl (rfl) (rfl) (Nat.le_of_ble_eq_true rfl) dX4_shuffle_88 rfl ?_
        refine v_aload_n 0 dX4_shuffle_91 rfl rfl ?_
        refine v_get f_Rows_24 0 rfl rfl dX4_shuffle_92 ?_
        exact v_iret hE dX4_shuffle_95 (gi, p, dr) (hq _ (Rg_over (by simpa using b36) (hdr (by simpa using b36)))) rfl rfl
      · have b36 : dr = false := (dI_0 dr).mp b36
        refine v_aload_n 0 dX4_shuffle_39 rfl rfl ?_
        refine v_get f_Rows_28 0 rfl rfl dX4_shuffle_40 ?_
        refine v_iload_n 2 dX4_shuffle_43 rfl rfl ?_
        refine v_iconst (v := 1) dX4_shuffle_44 (by decide) ?_
        refine v_iadd dX4_shuffle_45 ?_
        refine v_topi (y := nI (i + 1)) (nI_1 i) ?_
        refine v_i2l (v := lN (i + 1)) dX4_shuffle_46 (nI_l (by omega)) ?_
        refine v_callV (as := [.long (lN (i + 1))]) (rest := []) (ws' := fun u => [(o, .inr (4, [.ref d, .ref st, .ref us, .ref pe, .ref it, .int (nI sz)])), (d, .inr (0, [.ref w, .int (nI fr), .int (nI u.2.1), .int (nI e), .int (dI u.2.2)])), (w, .inl (cI, n, .inl f)), (it, .inl (cI, 256, .inl gi))]) m_Rows_40 (kX0_uniform X.l (d := d) (w := w) (n := n) (f := f) (fr := fr) (p := p) (e := e) (dr := dr) (nn := (i + 1)) (by omega) he hn hdr (by omega) (by omega)) k_code_X0_uniform [1, 2] 1 rfl rfl rfl rfl dX4_shuffle_47 (Nat.le_of_ble_eq_true rfl) ⟨rfl, rfl, by decide, by decide⟩ ⟨Nat.zero_le _, Nat.zero_le _⟩ rfl rfl (fun _ => rfl) (fun _ => rfl) ?_
        intro u47 c47
        obtain ⟨r1, p1, d1⟩ := u47
        try dsimp only at c47
        show V (gG D cI cJ cT) X (rmD 2) cX4_shuffle 5 RX4 [(o, .inr (4, [.ref d, .ref st, .ref us, .ref pe, .ref it, .int (nI sz)])), (d, .inr (0, [.ref w, .int (nI fr), .int (nI p1), .int (nI e), .int (dI d1)])), (w, .inl (cI, n, .inl f)), (it, .inl (cI, 256, .inl gi))] 0 0 [(0, .ref o), (1, .int (nI n0)), (2, .int (nI i))] 50 [.long (lN r1)]
        have hr1 : r1 < i + 1 := c47.2
        refine v_l2i (v := nI r1) dX4_shuffle_50 (lN_i r1) ?_
        refine v_istore_n (lv' := [(3, .int (nI r1)), (0, .ref o), (1, .int (nI n0)), (2, .int (nI i))]) dX4_shuffle_51 rfl (by decide) rfl ?_
        refine v_aload_n 1 dX4_shuffle_52 rfl rfl ?_
        refine v_get f_Rows_21 0 rfl rfl dX4_shuffle_53 ?_
        refine v_iload_n 3 dX4_shuffle_56 rfl rfl ?_
        refine v_iald 0 3 rfl rfl (by omega) (by omega) dX4_shuffle_57 ?_
        refine v_istore (lv' := [(4, .int (gi i)), (3, .int (nI r1)), (0, .ref o), (1, .int (nI n0)), (2, .int (nI i))]) dX4_shuffle_58 (by decide) rfl ?_
        refine v_aload_n 2 dX4_shuffle_60 rfl rfl ?_
        refine v_get f_Rows_21 0 rfl rfl dX4_shuffle_61 ?_
        refine v_iload_n 4 dX4_shuffle_64 rfl rfl ?_
        refine v_aload_n 2 dX4_shuffle_65 rfl rfl ?_
        refine v_get f_Rows_21 0 rfl rfl dX4_shuffle_66 ?_
        refine v_iload_n 1 dX4_shuffle_69 rfl rfl ?_
        refine v_iald 0 3 rfl rfl (by omega) (by omega) dX4_shuffle_70 ?_
        refine v_iast (ws' := [(o, .inr (4, [.ref d, .ref st, .ref us, .ref pe, .ref it, .int (nI sz)])), (d, .inr (0, [.ref w, .int (nI fr), .int (nI p1), .int (nI e), .int (dI d1)])), (w, .inl (cI, n, .inl f)), (it, .inl (cI, 256, .inl (upd gi i (gi r1))))]) 0 3 rfl rfl (by omega) (by omega) dX4_shuffle_71 rfl ?_
        refine v_aload_n 2 dX4_shuffle_72 rfl rfl ?_
        refine v_get f_Rows_21 0 rfl rfl dX4_shuffle_73 ?_
        refine v_iload_n 1 dX4_shuffle_76 rfl rfl ?_
        refine v_iload 0 dX4_shuffle_77 rfl ?_
        refine v_iast (ws' := [(o, .inr (4, [.ref d, .ref st, .ref us, .ref pe, .ref it, .int (nI sz)])), (d, .inr (0, [.ref w, .int (nI fr), .int (nI p1), .int (nI e), .int (dI d1)])), (w, .inl (cI, n, .inl f)), (it, .inl (cI, 256, .inl (upd (upd gi i (gi r1)) r1 (gi i))))]) 0 3 rfl rfl (by omega) (by omega) dX4_shuffle_79 rfl ?_
        refine v_iinc (lv' := [(2, .int (nI (i - 1))), (4, .int (gi i)), (3, .int (nI r1)), (0, .ref o), (1, .int (nI n0))]) (v := nI (i - 1)) 4 dX4_shuffle_80 rfl (sb_m1 (by omega)) (by decide) rfl ?_
        refine v_goto (tgt := 24) dX4_shuffle_83 (by decide) ?_
        refine v_lv [3, 4, 0] rfl ?_
        exact ih (i - 1) _ (fU (fU F i (F r1)) r1 (F i)) p1 d1 (by omega) (by omega) (swap_ok hF (by omega) (by omega)) (Rl_p c47.1).2.1 (Rl_p c47.1).2.2 (fun u hu => hq u (sShu_go (by omega) c47.1 hu))
theorem init_ok {gi : Nat → Int32} {i : Nat} (h : ∀ x, x < i → gi x = nI x) : ∀ x, x < i + 1 → upd gi i (nI i) x = nI x := by
  intro x hx
  unfold upd
  by_cases h1 : x = i
  · simp [h1]
  · simp [h1, h x (by omega)]
set_option maxRecDepth 100000 in
set_option maxHeartbeats 4000000 in
theorem kX4_shuffle_loop1 {D : va_G} {cI cJ cT : ClassId} {X : vX} {o d w n : Nat} {f : Nat → Int32} {fr e : Nat} {st us pe it : Nat} {n0 sz p : Nat} {dr : Bool} (he : e ≤ 32 * n) (hn : n ≤ 512) (hn0 : n0 ≤ 256) (hp : p ≤ e) (hdr : dr = true → p = e) {W0 : va_W} {post : (Nat → Int32) × Nat × Bool → Prop} (hE : vE (gG D cI cJ cT) X (some .int) W0 post (fun u => some (.int (nI n0))) (fun u => [(o, .inr (4, [.ref d, .ref st, .ref us, .ref pe, .ref it, .int (nI n0)])), (d, .inr (0, [.ref w, .int (nI fr), .int (nI u.2.1), .int (nI e), .int (dI u.2.2)])), (w, .inl (cI, n, .inl f)), (it, .inl (cI, 256, .inl u.1))])) (hq : ∀ u, Rg (sShu (bitW f) e n0 p) e p dr (fun F => ∀ x, x < n0 → u.1 x = nI (F x)) u.2.1 u.2.2 → post u) :
    ∀ (k i : Nat) (gi : Nat → Int32), n0 - i < k → i ≤ n0 → (∀ x, x < i → gi x = nI x) → V (gG D cI cJ cT) X (rmD 2) cX4_shuffle 5 RX4 [(o, .inr (4, [.ref d, .ref st, .ref us, .ref pe, .ref it, .int (nI sz)])), (d, .inr (0, [.ref w, .int (nI fr), .int (nI p), .int (nI e), .int (dI dr)])), (w, .inl (cI, n, .inl f)), (it, .inl (cI, 256, .inl gi))] 0 0 [(0, .ref o), (1, .int (nI n0)), (2, .int (nI i))] 2 [] := by
  intro k
  induction k with
  | zero => intro i gi h1; omega
  | succ k ih =>
    intro i gi hk hi hI
    refine v_iload_n 2 dX4_shuffle_2 rfl rfl ?_
    refine v_iload_n 1 dX4_shuffle_3 rfl rfl ?_
    refine v_icmp_ge (tgt := 20) dX4_shuffle_4 (by decide) (fun b4 => ?_) (fun b4 => ?_)
    · have b4 : n0 ≤ i := (nI_leI (by omega) (by omega)).mp b4
      rcases Nat.eq_zero_or_pos n0 with hz | hz
      · subst hz
        refine v_iload_n 1 dX4_shuffle_20 rfl rfl ?_
        refine v_iconst (v := nI 1) dX4_shuffle_21 (by decide) ?_
        refine v_isub dX4_shuffle_22 ?_
        refine v_istore_n (lv' := [(2, .int ((nI 0) - (nI 1))), (0, .ref o), (1, .int (nI 0))]) dX4_shuffle_23 rfl (by decide) rfl ?_
        refine v_iload_n 0 dX4_shuffle_24 rfl rfl ?_
        refine v_iconst (v := nI 1) dX4_shuffle_25 (by decide) ?_
        refine v_icmp_lt (tgt := 86) dX4_shuffle_26 (by decide) (fun b26 => ?_) (fun b26 => absurd (by decide) b26)
        refine v_aload_n 1 dX4_shuffle_86 rfl rfl ?_
        refine v_iload_n 2 dX4_shuffle_87 rfl rfl ?_
        refine v_put (ws' := [(o, .inr (4, [.ref d, .ref st, .ref us, .ref pe, .ref it, .int (nI 0)])), (d, .inr (0, [.ref w, .int (nI fr), .int (nI p), .int (nI e), .int (dI dr)])), (w, .inl (cI, n, .inl f)), (it, .inl (cI, 256, .inl gi))]) fw_Rows_24 0 rfl (rfl) (rfl) (Nat.le_of_ble_eq_true rfl) dX4_shuffle_88 rfl ?_
        refine v_aload_n 1 dX4_shuffle_91 rfl rfl ?_
        refine v_get f_Rows_24 0 rfl rfl dX4_shuffle_92 ?_
        exact v_iret hE dX4_shuffle_95 (gi, p, dr) (hq _ (Rg_here hp hdr rfl (fun x hx => absurd hx (Nat.not_lt_zero x)))) rfl rfl
      · refine v_iload_n 1 dX4_shuffle_20 rfl rfl ?_
        refine v_iconst (v := nI 1) dX4_shuffle_21 (by decide) ?_
        refine v_isub dX4_shuffle_22 ?_
        refine v_topi (y := nI (n0 - 1)) (pk_sub hz) ?_
        refine v_istore_n (lv' := [(2, .int (nI (n0 - 1))), (0, .ref o), (1, .int (nI n0))]) dX4_shuffle_23 rfl (by decide) rfl ?_
        refine v_lv [1, 2, 0] rfl ?_
        exact kX4_shuffle_loop2 he hn hn0 hE (n0 + 1) (n0 - 1) gi (fun x => x) p dr (by omega) (by omega) (fun x hx => hI x (by omega)) hp hdr hq
    · have b4 : ¬ (n0 ≤ i) := fun q => b4 ((nI_leI (by omega) (by omega)).mpr q)
      refine v_aload_n 0 dX4_shuffle_7 rfl rfl ?_
      refine v_get f_Rows_21 0 rfl rfl dX4_shuffle_8 ?_
      refine v_iload_n 2 dX4_shuffle_11 rfl rfl ?_
      refine v_iload_n 2 dX4_shuffle_12 rfl rfl ?_
      refine v_iast (ws' := [(o, .inr (4, [.ref d, .ref st, .ref us, .ref pe, .ref it, .int (nI sz)])), (d, .inr (0, [.ref w, .int (nI fr), .int (nI p), .int (nI e), .int (dI dr)])), (w, .inl (cI, n, .inl f)), (it, .inl (cI, 256, .inl (upd gi i (nI i))))]) 0 3 rfl rfl (by omega) (by omega) dX4_shuffle_13 rfl ?_
      refine v_iinc (lv' := [(2, .int (nI (i + 1))), (0, .ref o), (1, .int (nI n0))]) (v := nI (i + 1)) 2 dX4_shuffle_14 rfl (nI_1 i) (by decide) rfl ?_
      refine v_goto (tgt := 2) dX4_shuffle_17 (by decide) ?_
      refine v_lv [1, 2, 0] rfl ?_
      exact ih (i + 1) _ (by omega) (by omega) (fun x hx => init_ok hI x hx)
set_option maxRecDepth 100000 in
set_option maxHeartbeats 4000000 in
theorem kX4_shuffle {D : va_G} {cI cJ cT : ClassId} (l : Launch) {o d w n : Nat} {f : Nat → Int32} {fr p e : Nat} {dr : Bool} {st us pe it : Nat} {n0 sz : Nat} {gi : Nat → Int32} (hp : p ≤ e) (he : e ≤ 32 * n) (hn : n ≤ 512) (hdr : dr = true → p = e) (hn0 : n0 ≤ 256) : Fn (S := (Nat → Int32) × Nat × Bool) (gG D cI cJ cT) l yX4_shuffle (.code yX4_shuffle cX4_shuffle 5 (some .int)) (rmD 2) [.ref o, .int (nI n0)] [(o, .inr (4, [.ref d, .ref st, .ref us, .ref pe, .ref it, .int (nI sz)])), (d, .inr (0, [.ref w, .int (nI fr), .int (nI p), .int (nI e), .int (dI dr)])), (w, .inl (cI, n, .inl f)), (it, .inl (cI, 256, .inl gi))] (fun u => Rg (sShu (bitW f) e n0 p) e p dr (fun F => ∀ x, x < n0 → u.1 x = nI (F x)) u.2.1 u.2.2) (fun u => some (.int (nI n0))) (fun u => [(o, .inr (4, [.ref d, .ref st, .ref us, .ref pe, .ref it, .int (nI n0)])), (d, .inr (0, [.ref w, .int (nI fr), .int (nI u.2.1), .int (nI e), .int (dI u.2.2)])), (w, .inl (cI, n, .inl f)), (it, .inl (cI, 256, .inl u.1))]) := by
  refine Fn.intro (by decide) (Nat.le_of_ble_eq_true rfl) ?_
  intro X hX hE hin
  subst hX
  show V (gG D cI cJ cT) X _ cX4_shuffle 5 RX4 _ 0 0 [(0, .ref o), (1, .int (nI n0))] 0 []
  refine v_iconst (v := nI 0) dX4_shuffle_0 (by decide) ?_
  refine v_istore_n (lv' := [(2, .int (nI 0)), (0, .ref o), (1, .int (nI n0))]) dX4_shuffle_1 rfl (by decide) rfl ?_
  refine v_lv [1, 2, 0] rfl ?_
  exact kX4_shuffle_loop1 he hn hn0 hp hdr hE (fun u hu => hu) (n0 + 1) 0 gi (by omega) (by omega) (fun x hx => absurd hx (Nat.not_lt_zero x))
