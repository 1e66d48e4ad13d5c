set_option maxRecDepth 100000 in
set_option maxHeartbeats 4000000 in
theorem kX5_isReadyFor {D : va_G} {cI cJ cT : ClassId} (l : Launch) {tq sa oo lq d o tb wq sq pq rq : Nat} {kd a b c : Int32} {tf : Nat → Option Nat} {z : Nat} {mI : Int32} {tp sm : Nat} (hz : kd = 0 → inR a 8) (hx : ∀ q, q < 8 → a = nI q → q = z) (htf : tf z = some tb) : Fn (S := Unit) (gG D cI cJ cT) l yX5_isReadyFor (.code yX5_isReadyFor cX5_isReadyFor 2 (some .boolean)) (rmD 0) [.ref sa, .ref oo] [(sa, .inr (5, [.ref tq, .ref lq, .ref d, .ref o])), (oo, .inr (3, [.int kd, .int a, .int b, .int c])), (tq, .inl (cT, 8, .inr (.inr (.inr (.inr tf))))), (tb, .inr (6, [.ref wq, .ref sq, .ref pq, .ref rq, .int mI, .int (nI tp), .long (lN sm)]))] (fun _ => True) (fun u => some (.int (dI (rdy kd mI)))) (fun u => [(sa, .inr (5, [.ref tq, .ref lq, .ref d, .ref o])), (oo, .inr (3, [.int kd, .int a, .int b, .int c])), (tq, .inl (cT, 8, .inr (.inr (.inr (.inr tf))))), (tb, .inr (6, [.ref wq, .ref sq, .ref pq, .ref rq, .int mI, .int (nI tp), .long (lN sm)]))]) := by
  refine Fn.intro (by decide) (Nat.le_of_ble_eq_true rfl) ?_
  intro X hX hE hin
  subst hX
  show V (gG D cI cJ cT) X _ cX5_isReadyFor 2 RX5 _ 0 0 [(0, .ref sa), (1, .ref oo)] 0 []
  refine v_aload_n 1 dX5_isReadyFor_0 rfl rfl ?_
  refine v_get f_Sampler_27 1 rfl rfl dX5_isReadyFor_1 ?_
  refine v_if_ne (tgt := 23) dX5_isReadyFor_4 (by decide) (fun b4 => ?_) (fun b4 => ?_)
  · refine v_iconst (v := 1) dX5_isReadyFor_23 (by decide) ?_
    refine v_goto (tgt := 28) dX5_isReadyFor_24 (by decide) ?_
    exact v_zret hE rfl dX5_isReadyFor_28 () trivial (by simp [rdy, dI, *]) rfl
  · obtain ⟨y, hy, ey⟩ := hz b4
    subst ey
    have exy := hx y hy rfl
    rw [← exy] at htf
    refine v_aload_n 0 dX5_isReadyFor_7 rfl rfl ?_
    refine v_get f_Sampler_9 0 rfl rfl dX5_isReadyFor_8 ?_
    refine v_aload_n 1 dX5_isReadyFor_11 rfl rfl ?_
    refine v_get f_Sampler_33 1 rfl rfl dX5_isReadyFor_12 ?_
    refine v_aald 2 2 rfl rfl (by omega) (by omega) dX5_isReadyFor_15 ?_
    refine v_top (y := .ref tb) (by rw [htf]; rfl) ?_
    refine v_get f_Sampler_36 3 rfl rfl dX5_isReadyFor_16 ?_
    refine v_iconst (v := (-1)) dX5_isReadyFor_19 (by decide) ?_
    refine v_icmp_eq (tgt := 27) dX5_isReadyFor_20 (by decide) (fun b20 => ?_) (fun b20 => ?_)
    · refine v_iconst (v := 0) dX5_isReadyFor_27 (by decide) ?_
      exact v_zret hE rfl dX5_isReadyFor_28 () trivial (by simp [rdy, dI, *]) rfl
    · refine v_iconst (v := 1) dX5_isReadyFor_23 (by decide) ?_
      refine v_goto (tgt := 28) dX5_isReadyFor_24 (by decide) ?_
      exact v_zret hE rfl dX5_isReadyFor_28 () trivial (by simp [rdy, dI, *]) rfl
def lgE (g : Nat → Int64) (nx : Nat) (kd a b c : Int32) (pl bi : Nat) (an su : Int64) : Nat → Int64 := vp_updL (vp_updL (vp_updL (vp_updL (vp_updL (vp_updL (vp_updL (vp_updL (g) (nx * 8 + 0) kd.toInt64) (nx * 8 + 1) a.toInt64) (nx * 8 + 2) b.toInt64) (nx * 8 + 3) c.toInt64) (nx * 8 + 4) (lN pl)) (nx * 8 + 5) (lN bi)) (nx * 8 + 6) an) (nx * 8 + 7) (su)
set_option maxRecDepth 100000 in
set_option maxHeartbeats 4000000 in
theorem kX8_keep {D : va_G} {cI cJ cT : ClassId} (l : Launch) {x ta tq sa oo lo sg ia w lq d o lc st us pe it : Nat} {kd a b c : Int32} {ic lb : Int32} {sz pl nx ls dw fr p e szr : Nat} {dr : Bool} {g : Nat → Int64} {gt f gi : Nat → Int32} {F : Nat → Nat} {an : Int64} (hfp : fr ≤ p) (hp : p ≤ 16384) (hpl : pl ≤ 16384) (hnx : nx < 100) (hls : ls ≤ 100) (hszr : szr ≤ 256) (hF : ∀ x, x < szr → gi x = nI (F x)) (hB : ∀ x, x < szr → F x < 65536) : Fn (S := Int32 × (Nat → Int32)) (gG D cI cJ cT) l yX8_keep (.code yX8_keep cX8_keep 3 none) (rmD 2) [.ref x, .long an] [(x, .inr (8, [.ref ta, .ref tq, .ref sa, .ref oo, .ref lo, .ref sg, .ref ia, .int ic, .int lb])), (ta, .inr (7, [.ref w, .int (nI sz), .int (nI pl)])), (oo, .inr (3, [.int kd, .int a, .int b, .int c])), (lo, .inr (2, [.ref lc, .int (nI nx), .int (nI ls), .int (nI dw)])), (lc, .inl (cJ, 800, .inr (.inl g))), (ia, .inl (cI, 256, .inl gt)), (sa, .inr (5, [.ref tq, .ref lq, .ref d, .ref o])), (d, .inr (0, [.ref w, .int (nI fr), .int (nI p), .int (nI e), .int (dI dr)])), (w, .inl (cI, 512, .inl f)), (o, .inr (4, [.ref d, .ref st, .ref us, .ref pe, .ref it, .int (nI szr)])), (it, .inl (cI, 256, .inl gi))] (fun u => (kd < nI 9 → u.1 = ic ∧ u.2 = gt) ∧ (¬ kd < nI 9 → u.1 = nI szr ∧ ∀ y, y < szr → u.2 y = gi y)) (fun u => none) (fun u => [(x, .inr (8, [.ref ta, .ref tq, .ref sa, .ref oo, .ref lo, .ref sg, .ref ia, .int u.1, .int (nI (p - fr))])), (ta, .inr (7, [.ref w, .int (nI sz), .int (nI (pl + (p - fr)))])), (oo, .inr (3, [.int kd, .int a, .int b, .int c])), (lo, .inr (2, [.ref lc, .int (nI ((nx + 1) % 100)), .int (nI (min (ls + 1) 100)), .int (nI (dw + 1))])), (lc, .inl (cJ, 800, .inr (.inl (lgE g nx kd a b c pl (p - fr) an (lN (csN F szr % 1000003)))))), (ia, .inl (cI, 256, .inl u.2)), (sa, .inr (5, [.ref tq, .ref lq, .ref d, .ref o])), (d, .inr (0, [.ref w, .int (nI fr), .int (nI p), .int (nI e), .int (dI dr)])), (w, .inl (cI, 512, .inl f)), (o, .inr (4, [.ref d, .ref st, .ref us, .ref pe, .ref it, .int (nI szr)])), (it, .inl (cI, 256, .inl gi))]) := by
  refine Fn.intro (by decide) (Nat.le_of_ble_eq_true rfl) ?_
  intro X hX hE hin
  subst hX
  show V (gG D cI cJ cT) X _ cX8_keep 3 RX8 _ 0 0 [(0, .ref x), (1, .long an)] 0 []
  refine v_aload_n 0 dX8_keep_0 rfl rfl ?_
  refine v_aload_n 0 dX8_keep_1 rfl rfl ?_
  refine v_get f_SampleDesk_39 0 rfl rfl dX8_keep_2 ?_
  refine v_get f_SampleDesk_137 6 rfl rfl dX8_keep_5 ?_
  refine v_callV (as := []) (rest := [.ref x]) (ws' := fun u => [(x, .inr (8, [.ref ta, .ref tq, .ref sa, .ref oo, .ref lo, .ref sg, .ref ia, .int ic, .int lb])), (ta, .inr (7, [.ref w, .int (nI sz), .int (nI pl)])), (oo, .inr (3, [.int kd, .int a, .int b, .int c])), (lo, .inr (2, [.ref lc, .int (nI nx), .int (nI ls), .int (nI dw)])), (lc, .inl (cJ, 800, .inr (.inl g))), (ia, .inl (cI, 256, .inl gt)), (sa, .inr (5, [.ref tq, .ref lq, .ref d, .ref o])), (d, .inr (0, [.ref w, .int (nI fr), .int (nI p), .int (nI e), .int (dI dr)])), (w, .inl (cI, 512, .inl f)), (o, .inr (4, [.ref d, .ref st, .ref us, .ref pe, .ref it, .int (nI szr)])), (it, .inl (cI, 256, .inl gi))]) m_SampleDesk_175 (kX0_bitsRead X.l (d := d) (w := w) (n := 512) (f := f) (fr := fr) (p := p) (e := e) (dr := dr) hfp) k_code_X0_bitsRead [7, 8] 7 rfl rfl rfl rfl dX8_keep_8 (Nat.le_of_ble_eq_true rfl) ⟨rfl, rfl, by decide, by decide⟩ ⟨Nat.zero_le _, Nat.zero_le _⟩ rfl rfl (fun _ => rfl) (v_mgU rfl (fun _ => rfl)) ?_
  intro uu c8
  try dsimp only at c8
  show V (gG D cI cJ cT) X (rmD 2) cX8_keep 3 RX8 [(x, .inr (8, [.ref ta, .ref tq, .ref sa, .ref oo, .ref lo, .ref sg, .ref ia, .int ic, .int lb])), (ta, .inr (7, [.ref w, .int (nI sz), .int (nI pl)])), (oo, .inr (3, [.int kd, .int a, .int b, .int c])), (lo, .inr (2, [.ref lc, .int (nI nx), .int (nI ls), .int (nI dw)])), (lc, .inl (cJ, 800, .inr (.inl g))), (ia, .inl (cI, 256, .inl gt)), (sa, .inr (5, [.ref tq, .ref lq, .ref d, .ref o])), (d, .inr (0, [.ref w, .int (nI fr), .int (nI p), .int (nI e), .int (dI dr)])), (w, .inl (cI, 512, .inl f)), (o, .inr (4, [.ref d, .ref st, .ref us, .ref pe, .ref it, .int (nI szr)])), (it, .inl (cI, 256, .inl gi))] 0 0 [(0, .ref x), (1, .long an)] 11 [.int (nI (p - fr)), .ref x]
  refine v_put (ws' := [(x, .inr (8, [.ref ta, .ref tq, .ref sa, .ref oo, .ref lo, .ref sg, .ref ia, .int ic, .int (nI (p - fr))])), (ta, .inr (7, [.ref w, .int (nI sz), .int (nI pl)])), (oo, .inr (3, [.int kd, .int a, .int b, .int c])), (lo, .inr (2, [.ref lc, .int (nI nx), .int (nI ls), .int (nI dw)])), (lc, .inl (cJ, 800, .inr (.inl g))), (ia, .inl (cI, 256, .inl gt)), (sa, .inr (5, [.ref tq, .ref lq, .ref d, .ref o])), (d, .inr (0, [.ref w, .int (nI fr), .int (nI p), .int (nI e), .int (dI dr)])), (w, .inl (cI, 512, .inl f)), (o, .inr (4, [.ref d, .ref st, .ref us, .ref pe, .ref it, .int (nI szr)])), (it, .inl (cI, 256, .inl gi))]) fw_SampleDesk_68 0 rfl (rfl) (rfl) (Nat.le_of_ble_eq_true rfl) dX8_keep_11 rfl ?_
  refine v_aload_n 0 dX8_keep_14 rfl rfl ?_
  refine v_get f_SampleDesk_53 0 rfl rfl dX8_keep_15 ?_
  refine v_aload_n 0 dX8_keep_18 rfl rfl ?_
  refine v_get f_SampleDesk_46 0 rfl rfl dX8_keep_19 ?_
  refine v_aload_n 0 dX8_keep_22 rfl rfl ?_
  refine v_get f_SampleDesk_18 0 rfl rfl dX8_keep_23 ?_
  refine v_get f_SampleDesk_91 1 rfl rfl dX8_keep_26 ?_
  refine v_aload_n 0 dX8_keep_29 rfl rfl ?_
  refine v_get f_SampleDesk_68 0 rfl rfl dX8_keep_30 ?_
  refine v_lload_n 1 dX8_keep_33 rfl rfl ?_
  refine v_aload_n 0 dX8_keep_34 rfl rfl ?_
  refine v_get f_SampleDesk_39 0 rfl rfl dX8_keep_35 ?_
  refine v_get f_SampleDesk_179 6 rfl rfl dX8_keep_38 ?_
  refine v_callV (as := []) (rest := [.long an, .int (nI (p - fr)), .int (nI pl), .ref oo, .ref lo]) (ws' := fun u => [(x, .inr (8, [.ref ta, .ref tq, .ref sa, .ref oo, .ref lo, .ref sg, .ref ia, .int ic, .int (nI (p - fr))])), (ta, .inr (7, [.ref w, .int (nI sz), .int (nI pl)])), (oo, .inr (3, [.int kd, .int a, .int b, .int c])), (lo, .inr (2, [.ref lc, .int (nI nx), .int (nI ls), .int (nI dw)])), (lc, .inl (cJ, 800, .inr (.inl g))), (ia, .inl (cI, 256, .inl gt)), (sa, .inr (5, [.ref tq, .ref lq, .ref d, .ref o])), (d, .inr (0, [.ref w, .int (nI fr), .int (nI p), .int (nI e), .int (dI dr)])), (w, .inl (cI, 512, .inl f)), (o, .inr (4, [.ref d, .ref st, .ref us, .ref pe, .ref it, .int (nI szr)])), (it, .inl (cI, 256, .inl gi))]) m_SampleDesk_183 (kX4_checkSum X.l (o := o) (d := d) (st := st) (us := us) (pe := pe) (it := it) (sz := szr) (gi := gi) (F := F) hszr hF hB) k_code_X4_checkSum [9, 10] 9 rfl rfl rfl rfl dX8_keep_41 (Nat.le_of_ble_eq_true rfl) ⟨rfl, rfl, by decide, by decide⟩ ⟨Nat.zero_le _, Nat.zero_le _⟩ rfl rfl (fun _ => rfl) (v_mgU rfl (fun _ => rfl)) ?_
  intro uu c41
  try dsimp only at c41
  show V (gG D cI cJ cT) X (rmD 2) cX8_keep 3 RX8 [(x, .inr (8, [.ref ta, .ref tq, .ref sa, .ref oo, .ref lo, .ref sg, .ref ia, .int ic, .int (nI (p - fr))])), (ta, .inr (7, [.ref w, .int (nI sz), .int (nI pl)])), (oo, .inr (3, [.int kd, .int a, .int b, .int c])), (lo, .inr (2, [.ref lc, .int (nI nx), .int (nI ls), .int (nI dw)])), (lc, .inl (cJ, 800, .inr (.inl g))), (ia, .inl (cI, 256, .inl gt)), (sa, .inr (5, [.ref tq, .ref lq, .ref d, .ref o])), (d, .inr (0, [.ref w, .int (nI fr), .int (nI p), .int (nI e), .int (dI dr)])), (w, .inl (cI, 512, .inl f)), (o, .inr (4, [.ref d, .ref st, .ref us, .ref pe, .ref it, .int (nI szr)])), (it, .inl (cI, 256, .inl gi))] 0 0 [(0, .ref x), (1, .long an)] 44 [.long (lN (csN F szr % 1000003)), .long an, .int (nI (p - fr)), .int (nI pl), .ref oo, .ref lo]
  refine v_callV (as := [.ref oo, .int (nI pl), .int (nI (p - fr)), .long an, .long (lN (csN F szr % 1000003))]) (rest := []) (ws' := fun u => [(x, .inr (8, [.ref ta, .ref tq, .ref sa, .ref oo, .ref lo, .ref sg, .ref ia, .int ic, .int (nI (p - fr))])), (ta, .inr (7, [.ref w, .int (nI sz), .int (nI pl)])), (oo, .inr (3, [.int kd, .int a, .int b, .int c])), (lo, .inr (2, [.ref lc, .int (nI ((nx + 1) % 100)), .int (nI (min (ls + 1) 100)), .int (nI (dw + 1))])), (lc, .inl (cJ, 800, .inr (.inl (lgE g nx kd a b c pl (p - fr) an (lN (csN F szr % 1000003)))))), (ia, .inl (cI, 256, .inl gt)), (sa, .inr (5, [.ref tq, .ref lq, .ref d, .ref o])), (d, .inr (0, [.ref w, .int (nI fr), .int (nI p), .int (nI e), .int (dI dr)])), (w, .inl (cI, 512, .inl f)), (o, .inr (4, [.ref d, .ref st, .ref us, .ref pe, .ref it, .int (nI szr)])), (it, .inl (cI, 256, .inl gi))]) m_SampleDesk_189 (kX2_add X.l (lo := lo) (lc := lc) (oo := oo) (nx := nx) (ls := ls) (dw := dw) (pl := pl) (bi := p - fr) (g := g) (kd := kd) (a := a) (b := b) (c := c) (an := an) (su := lN (csN F szr % 1000003)) hnx hls (by omega) (by omega)) k_code_X2_add [3, 4, 2] 3 rfl rfl rfl rfl dX8_keep_44 (Nat.le_of_ble_eq_true rfl) ⟨rfl, rfl, by decide, by decide⟩ ⟨Nat.zero_le _, Nat.zero_le _⟩ rfl rfl (fun _ => rfl) (v_mgU rfl (fun _ => rfl)) ?_
  intro uu c44
  try dsimp only at c44
  show V (gG D cI cJ cT) X (rmD 2) cX8_keep 3 RX8 [(x, .inr (8, [.ref ta, .ref tq, .ref sa, .ref oo, .ref lo, .ref sg, .ref ia, .int ic, .int (nI (p - fr))])), (ta, .inr (7, [.ref w, .int (nI sz), .int (nI pl)])), (oo, .inr (3, [.int kd, .int a, .int b, .int c])), (lo, .inr (2, [.ref lc, .int (nI ((nx + 1) % 100)), .int (nI (min (ls + 1) 100)), .int (nI (dw + 1))])), (lc, .inl (cJ, 800, .inr (.inl (lgE g nx kd a b c pl (p - fr) an (lN (csN F szr % 1000003)))))), (ia, .inl (cI, 256, .inl gt)), (sa, .inr (5, [.ref tq, .ref lq, .ref d, .ref o])), (d, .inr (0, [.ref w, .int (nI fr), .int (nI p), .int (nI e), .int (dI dr)])), (w, .inl (cI, 512, .inl f)), (o, .inr (4, [.ref d, .ref st, .ref us, .ref pe, .ref it, .int (nI szr)])), (it, .inl (cI, 256, .inl gi))] 0 0 [(0, .ref x), (1, .long an)] 47 []
  refine v_aload_n 0 dX8_keep_47 rfl rfl ?_
  refine v_get f_SampleDesk_18 0 rfl rfl dX8_keep_48 ?_
  refine v_dup dX8_keep_51 rfl ?_
  refine v_get f_SampleDesk_91 1 rfl rfl dX8_keep_52 ?_
  refine v_aload_n 0 dX8_keep_55 rfl rfl ?_
  refine v_get f_SampleDesk_68 0 rfl rfl dX8_keep_56 ?_
  refine v_iadd dX8_keep_59 ?_
  refine v_topi (y := nI (pl + (p - fr))) (nI_add _ _) ?_
  refine v_put (ws' := [(x, .inr (8, [.ref ta, .ref tq, .ref sa, .ref oo, .ref lo, .ref sg, .ref ia, .int ic, .int (nI (p - fr))])), (ta, .inr (7, [.ref w, .int (nI sz), .int (nI (pl + (p - fr)))])), (oo, .inr (3, [.int kd, .int a, .int b, .int c])), (lo, .inr (2, [.ref lc, .int (nI ((nx + 1) % 100)), .int (nI (min (ls + 1) 100)), .int (nI (dw + 1))])), (lc, .inl (cJ, 800, .inr (.inl (lgE g nx kd a b c pl (p - fr) an (lN (csN F szr % 1000003)))))), (ia, .inl (cI, 256, .inl gt)), (sa, .inr (5, [.ref tq, .ref lq, .ref d, .ref o])), (d, .inr (0, [.ref w, .int (nI fr), .int (nI p), .int (nI e), .int (dI dr)])), (w, .inl (cI, 512, .inl f)), (o, .inr (4, [.ref d, .ref st, .ref us, .ref pe, .ref it, .int (nI szr)])), (it, .inl (cI, 256, .inl gi))]) fw_SampleDesk_91 1 rfl (rfl) (rfl) (Nat.le_of_ble_eq_true rfl) dX8_keep_60 rfl ?_
  refine v_aload_n 0 dX8_keep_63 rfl rfl ?_
  refine v_get f_SampleDesk_46 0 rfl rfl dX8_keep_64 ?_
  refine v_get f_SampleDesk_193 2 rfl rfl dX8_keep_67 ?_
  refine v_bipush (v := nI 9) dX8_keep_70 (by decide) ?_
  refine v_icmp_lt (tgt := 112) dX8_keep_72 (by decide) (fun b72 => ?_) (fun b72 => ?_)
  · exact v_vret hE dX8_keep_112 (ic, gt) ⟨fun _ => ⟨rfl, rfl⟩, fun q => absurd b72 q⟩ rfl rfl
  · refine v_aload_n 0 dX8_keep_75 rfl rfl ?_
    refine v_aload_n 0 dX8_keep_76 rfl rfl ?_
    refine v_get f_SampleDesk_39 0 rfl rfl dX8_keep_77 ?_
    refine v_get f_SampleDesk_179 6 rfl rfl dX8_keep_80 ?_
    refine v_get f_SampleDesk_196 9 rfl rfl dX8_keep_83 ?_
    refine v_put (ws' := [(x, .inr (8, [.ref ta, .ref tq, .ref sa, .ref oo, .ref lo, .ref sg, .ref ia, .int (nI szr), .int (nI (p - fr))])), (ta, .inr (7, [.ref w, .int (nI sz), .int (nI (pl + (p - fr)))])), (oo, .inr (3, [.int kd, .int a, .int b, .int c])), (lo, .inr (2, [.ref lc, .int (nI ((nx + 1) % 100)), .int (nI (min (ls + 1) 100)), .int (nI (dw + 1))])), (lc, .inl (cJ, 800, .inr (.inl (lgE g nx kd a b c pl (p - fr) an (lN (csN F szr % 1000003)))))), (ia, .inl (cI, 256, .inl gt)), (sa, .inr (5, [.ref tq, .ref lq, .ref d, .ref o])), (d, .inr (0, [.ref w, .int (nI fr), .int (nI p), .int (nI e), .int (dI dr)])), (w, .inl (cI, 512, .inl f)), (o, .inr (4, [.ref d, .ref st, .ref us, .ref pe, .ref it, .int (nI szr)])), (it, .inl (cI, 256, .inl gi))]) fw_SampleDesk_64 0 rfl (rfl) (rfl) (Nat.le_of_ble_eq_true rfl) dX8_keep_86 rfl ?_
    refine v_aload_n 0 dX8_keep_89 rfl rfl ?_
    refine v_get f_SampleDesk_39 0 rfl rfl dX8_keep_90 ?_
    refine v_get f_SampleDesk_179 6 rfl rfl dX8_keep_93 ?_
    refine v_get f_SampleDesk_197 9 rfl rfl dX8_keep_96 ?_
    refine v_iconst (v := nI 0) dX8_keep_99 (by decide) ?_
    refine v_aload_n 0 dX8_keep_100 rfl rfl ?_
    refine v_get f_SampleDesk_61 0 rfl rfl dX8_keep_101 ?_
    refine v_iconst (v := nI 0) dX8_keep_104 (by decide) ?_
    refine v_aload_n 0 dX8_keep_105 rfl rfl ?_
    refine v_get f_SampleDesk_64 0 rfl rfl dX8_keep_106 ?_
    refine v_copyi (ws' := [(x, .inr (8, [.ref ta, .ref tq, .ref sa, .ref oo, .ref lo, .ref sg, .ref ia, .int (nI szr), .int (nI (p - fr))])), (ta, .inr (7, [.ref w, .int (nI sz), .int (nI (pl + (p - fr)))])), (oo, .inr (3, [.int kd, .int a, .int b, .int c])), (lo, .inr (2, [.ref lc, .int (nI ((nx + 1) % 100)), .int (nI (min (ls + 1) 100)), .int (nI (dw + 1))])), (lc, .inl (cJ, 800, .inr (.inl (lgE g nx kd a b c pl (p - fr) an (lN (csN F szr % 1000003)))))), (ia, .inl (cI, 256, .inl (va_cpy gi gt 0 0 szr))), (sa, .inr (5, [.ref tq, .ref lq, .ref d, .ref o])), (d, .inr (0, [.ref w, .int (nI fr), .int (nI p), .int (nI e), .int (dI dr)])), (w, .inl (cI, 512, .inl f)), (o, .inr (4, [.ref d, .ref st, .ref us, .ref pe, .ref it, .int (nI szr)])), (it, .inl (cI, 256, .inl gi))]) k_m_SampleDesk_198 0 10 5 rfl rfl rfl ⟨by decide, by decide, by omega⟩ (by omega) (by omega) (by decide) (by decide) dX8_keep_109 rfl ?_
    exact v_vret hE dX8_keep_112 (nI szr, va_cpy gi gt 0 0 szr) ⟨fun q => absurd q b72, fun _ => ⟨rfl, fun y hy => sb_cpy0 hy⟩⟩ rfl rfl
def canC (kd a b c len : Int32) : Prop := ¬ nI 8 < kd ∧ okD kd a b c = true ∧ inR len 13
set_option maxRecDepth 100000 in
set_option maxHeartbeats 4000000 in
theorem kX8_requireCountable {D : va_G} {cI cJ cT : ClassId} (l : Launch) {x ta tq sa oo lo sg ia lq d o tb wq sq pq rq : Nat} (hst : l.stackTraces = false) {kd a b c : Int32} {ic lb : Int32} {tf : Nat → Option Nat} {z : Nat} {mI len : Int32} {tp sm : Nat} (hx : ∀ q, q < 8 → a = nI q → q = z) (htf : tf z = some tb) : FnX (S := Unit) (SX := Unit) (gG D cI cJ cT) l yX8_requireCountable (.code yX8_requireCountable cX8_requireCountable 2 none) (rmX 6) [.ref x, .int len] [(x, .inr (8, [.ref ta, .ref tq, .ref sa, .ref oo, .ref lo, .ref sg, .ref ia, .int ic, .int lb])), (sa, .inr (5, [.ref tq, .ref lq, .ref d, .ref o])), (oo, .inr (3, [.int kd, .int a, .int b, .int c])), (tq, .inl (cT, 8, .inr (.inr (.inr (.inr tf))))), (tb, .inr (6, [.ref wq, .ref sq, .ref pq, .ref rq, .int mI, .int (nI tp), .long (lN sm)]))] (fun _ => canC kd a b c len ∧ rdy kd mI = true) (fun u => none) (fun u => [(x, .inr (8, [.ref ta, .ref tq, .ref sa, .ref oo, .ref lo, .ref sg, .ref ia, .int ic, .int lb])), (sa, .inr (5, [.ref tq, .ref lq, .ref d, .ref o])), (oo, .inr (3, [.int kd, .int a, .int b, .int c])), (tq, .inl (cT, 8, .inr (.inr (.inr (.inr tf))))), (tb, .inr (6, [.ref wq, .ref sq, .ref pq, .ref rq, .int mI, .int (nI tp), .long (lN sm)]))]) (fun E _ => (E = "java/lang/IllegalArgumentException" ∧ ¬ canC kd a b c len) ∨ (E = "java/lang/IllegalStateException" ∧ canC kd a b c len ∧ rdy kd mI = false)) (fun u => [(x, .inr (8, [.ref ta, .ref tq, .ref sa, .ref oo, .ref lo, .ref sg, .ref ia, .int ic, .int lb])), (sa, .inr (5, [.ref tq, .ref lq, .ref d, .ref o])), (oo, .inr (3, [.int kd, .int a, .int b, .int c])), (tq, .inl (cT, 8, .inr (.inr (.inr (.inr tf))))), (tb, .inr (6, [.ref wq, .ref sq, .ref pq, .ref rq, .int mI, .int (nI tp), .long (lN sm)]))]) := by
  refine FnX.intro (by decide) (Nat.le_of_ble_eq_true rfl) hst ?_
  intro X hX hE htab
  subst hX
  show V (gG D cI cJ cT) X _ cX8_requireCountable 2 RX8 _ 0 0 [(0, .ref x), (1, .int len)] 0 []
  refine v_aload_n 0 dX8_requireCountable_0 rfl rfl ?_
  refine v_get f_SampleDesk_46 0 rfl rfl dX8_requireCountable_1 ?_
  refine v_get f_SampleDesk_193 2 rfl rfl dX8_requireCountable_4 ?_
  refine v_bipush (v := nI 8) dX8_requireCountable_7 (by decide) ?_
  refine v_icmp_gt (tgt := 32) dX8_requireCountable_9 (by decide) (fun b9 => ?_) (fun b9 => ?_)
  · exact v_throw hE.r htab th_IAE dX8_requireCountable_32 dX8_requireCountable_35 dX8_requireCountable_36 dX8_requireCountable_39 ⟨by decide, by decide, by decide, by decide⟩ () (Or.inl ⟨rfl, fun q => q.1 b9⟩) rfl
  · refine v_aload_n 0 dX8_requireCountable_12 rfl rfl ?_
    refine v_get f_SampleDesk_46 0 rfl rfl dX8_requireCountable_13 ?_
    refine v_callV (as := []) (rest := []) (ws' := fun u => [(x, .inr (8, [.ref ta, .ref tq, .ref sa, .ref oo, .ref lo, .ref sg, .ref ia, .int ic, .int lb])), (sa, .inr (5, [.ref tq, .ref lq, .ref d, .ref o])), (oo, .inr (3, [.int kd, .int a, .int b, .int c])), (tq, .inl (cT, 8, .inr (.inr (.inr (.inr tf))))), (tb, .inr (6, [.ref wq, .ref sq, .ref pq, .ref rq, .int mI, .int (nI tp), .long (lN sm)]))]) m_SampleDesk_129 (kX3_isAllowed X.l (oo := oo) (kd := kd) (a := a) (b := b) (c := c)) k_code_X3_isAllowed [2] 2 rfl rfl rfl rfl dX8_requireCountable_16 (Nat.le_of_ble_eq_true rfl) ⟨rfl, rfl, by decide, by decide⟩ ⟨Nat.zero_le _, Nat.zero_le _⟩ rfl rfl (fun _ => rfl) (v_mgU rfl (fun _ => rfl)) ?_
    intro uu c16
    try dsimp only at c16
    show V (gG D cI cJ cT) X (rmX 6) cX8_requireCountable 2 RX8 [(x, .inr (8, [.ref ta, .ref tq, .ref sa, .ref oo, .ref lo, .ref sg, .ref ia, .int ic, .int lb])), (sa, .inr (5, [.ref tq, .ref lq, .ref d, .ref o])), (oo, .inr (3, [.int kd, .int a, .int b, .int c])), (tq, .inl (cT, 8, .inr (.inr (.inr (.inr tf))))), (tb, .inr (6, [.ref wq, .ref sq, .ref pq, .ref rq, .int mI, .int (nI tp), .long (lN sm)]))] 0 0 [(0, .ref x), (1, .int len)] 19 [.int (dI (okD kd a b c))]
    refine v_if_eq (tgt := 32) dX8_requireCountable_19 (by decide) (fun b19 => ?_) (fun b19 => ?_)
    · have b19 : (okD kd a b c) = false := (dI_0 _).mp b19
      exact v_throw hE.r htab th_IAE dX8_requireCountable_32 dX8_requireCountable_35 dX8_requireCountable_36 dX8_requireCountable_39 ⟨by decide, by decide, by decide, by decide⟩ () (Or.inl ⟨rfl, fun q => absurd (b19.symm.trans q.2.1) (by decide)⟩) rfl
    · have b19 : ¬ ((okD kd a b c) = false) := fun q => b19 ((dI_0 _).mpr q)
      refine v_iload_n 1 dX8_requireCountable_22 rfl rfl ?_
      refine v_if_lt (tgt := 32) dX8_requireCountable_23 (by decide) (fun b23 => ?_) (fun b23 => ?_)
      · exact v_throw hE.r htab th_IAE dX8_requireCountable_32 dX8_requireCountable_35 dX8_requireCountable_36 dX8_requireCountable_39 ⟨by decide, by decide, by decide, by decide⟩ () (Or.inl ⟨rfl, fun q => inR_neg (by omega) b23 q.2.2⟩) rfl
      · obtain ⟨v, hv, ev⟩ := nI_of b23
        subst ev
        refine v_iload_n 1 dX8_requireCountable_26 rfl rfl ?_
        refine v_bipush (v := nI 12) dX8_requireCountable_27 (by decide) ?_
        refine v_icmp_le (tgt := 40) dX8_requireCountable_29 (by decide) (fun b29 => ?_) (fun b29 => ?_)
        · have b29 : v ≤ 12 := (nI_leI hv (by decide)).mp b29
          have hok : okD kd a b c = true := by simpa using b19
          have hcan : canC kd a b c (nI v) := ⟨b9, hok, v, by omega, rfl⟩
          refine v_aload_n 0 dX8_requireCountable_40 rfl rfl ?_
          refine v_get f_SampleDesk_39 0 rfl rfl dX8_requireCountable_41 ?_
          refine v_aload_n 0 dX8_requireCountable_44 rfl rfl ?_
          refine v_get f_SampleDesk_46 0 rfl rfl dX8_requireCountable_45 ?_
          refine v_callV (as := [.ref oo]) (rest := []) (ws' := fun u => [(x, .inr (8, [.ref ta, .ref tq, .ref sa, .ref oo, .ref lo, .ref sg, .ref ia, .int ic, .int lb])), (sa, .inr (5, [.ref tq, .ref lq, .ref d, .ref o])), (oo, .inr (3, [.int kd, .int a, .int b, .int c])), (tq, .inl (cT, 8, .inr (.inr (.inr (.inr tf))))), (tb, .inr (6, [.ref wq, .ref sq, .ref pq, .ref rq, .int mI, .int (nI tp), .long (lN sm)]))]) m_SampleDesk_133 (kX5_isReadyFor X.l (sa := sa) (oo := oo) (tq := tq) (tb := tb) (lq := lq) (d := d) (o := o) (wq := wq) (sq := sq) (pq := pq) (rq := rq) (kd := kd) (a := a) (b := b) (c := c) (tf := tf) (z := z) (mI := mI) (tp := tp) (sm := sm) (okD_x hok).2.2.2 hx htf) k_code_X5_isReadyFor [1, 2, 3, 4] 1 rfl rfl rfl rfl dX8_requireCountable_48 (Nat.le_of_ble_eq_true rfl) ⟨rfl, rfl, by decide, by decide⟩ ⟨Nat.zero_le _, Nat.zero_le _⟩ rfl rfl (fun _ => rfl) (v_mgU rfl (fun _ => rfl)) ?_
          intro uu c48
          try dsimp only at c48
          show V (gG D cI cJ cT) X (rmX 6) cX8_requireCountable 2 RX8 [(x, .inr (8, [.ref ta, .ref tq, .ref sa, .ref oo, .ref lo, .ref sg, .ref ia, .int ic, .int lb])), (sa, .inr (5, [.ref tq, .ref lq, .ref d, .ref o])), (oo, .inr (3, [.int kd, .int a, .int b, .int c])), (tq, .inl (cT, 8, .inr (.inr (.inr (.inr tf))))), (tb, .inr (6, [.ref wq, .ref sq, .ref pq, .ref rq, .int mI, .int (nI tp), .long (lN sm)]))] 0 0 [(0, .ref x), (1, .int (nI v))] 51 [.int (dI (rdy kd mI))]
          refine v_if_ne (tgt := 62) dX8_requireCountable_51 (by decide) (fun b51 => ?_) (fun b51 => ?_)
          · have b51 : ¬ ((rdy kd mI) = false) := fun q => b51 ((dI_0 _).mpr q)
            exact v_vretX hE (Nat.zero_le _) (Nat.zero_le _) dX8_requireCountable_62 () ⟨hcan, by simpa using b51⟩ rfl rfl
          · have b51 : (rdy kd mI) = false := (dI_0 _).mp b51
            exact v_throw hE.r htab th_ISE dX8_requireCountable_54 dX8_requireCountable_57 dX8_requireCountable_58 dX8_requireCountable_61 ⟨by decide, by decide, by decide, by decide⟩ () (Or.inr ⟨rfl, hcan, b51⟩) rfl
        · have b29 : ¬ (v ≤ 12) := fun q => b29 ((nI_leI hv (by decide)).mpr q)
          exact v_throw hE.r htab th_IAE dX8_requireCountable_32 dX8_requireCountable_35 dX8_requireCountable_36 dX8_requireCountable_39 ⟨by decide, by decide, by decide, by decide⟩ () (Or.inl ⟨rfl, fun q => absurd ((inR_nI hv (by omega)).mp q.2.2) (by omega)⟩) rfl
theorem TabSt_ok {M : Nat} {mI : Int32} {tp sm : Nat} {W : Nat → Nat} {gp : Nat → Int32} {gr g : Nat → Int64} {kd : Int32} (h : TabSt M mI tp sm W gp gr) (hM : kd = nI 0 → 0 < M) (hg : M = 2 → g = gr) (hk : kd = nI 0) : TabOk mI tp sm W (M - 1) gp g := by
  obtain ⟨a1, a2, a3, a4, a5, a6⟩ := h.2.2.2 (hM hk)
  have hM0 := hM hk
  have hM2 := h.1
  refine ⟨a1, a2, a3, a4, a5, fun h1 => ?_⟩
  rw [hg (by omega)]
  exact a6 h1
set_option maxRecDepth 100000 in
set_option maxHeartbeats 4000000 in
theorem kX8_tally_loop {D : va_G} {cI cJ cT : ClassId} {X : vX} {x ta tq sa oo lo sg ia lq d o st us pe it tb wq sq pq rq : Nat} {kd a b c : Int32} {ic lb : Int32} {tf : Nat → Option Nat} {M : Nat} {mI : Int32} {tp sm : Nat} {gw gp : Nat → Int32} {gr0 : Nat → Int64} {W : Nat → Nat} {len R0 : Nat} {dec : Bool} {out : Int32} {A : Nat → Option (sR × Nat)} (hlen : len ≤ 12) (hpw : 2 ^ len ≤ 4096) (hok : okD kd a b c = true) (hW : ∀ x, x < 64 → gw x = nI (W x)) (hWb : ∀ x, x < 64 → W x < 2 ^ 31) (hta : ∀ gr, (M = 2 → gr = gr0) → kd = nI 0 → tf a.toNatClampNeg = some tb ∧ TabOk mI tp sm W (M - 1) gp gr) (hA : ∀ s, A s = sAnsI (bS len s) len kd a b c W (M - 1) 0) {W0 : va_W} {post : Nat × Int32 × Int32 × Int32 × Int32 × Int32 × (Nat → Int32) × (Nat → Int32) × (Nat → Int32) × (Nat → Int32) × (Nat → Int64) × (Nat → Int32) → Prop} (hq : ∀ u : Nat × Int32 × Int32 × Int32 × Int32 × Int32 × (Nat → Int32) × (Nat → Int32) × (Nat → Int32) × (Nat → Int32) × (Nat → Int64) × (Nat → Int32), (M = 2 → u.2.2.2.2.2.2.2.2.2.2.1 = gr0) → post u) (hE : vE (gG D cI cJ cT) X (some .int) W0 post (fun u => some (.int (nI R0))) (fun u => [(x, .inr (8, [.ref ta, .ref tq, .ref sa, .ref oo, .ref lo, .ref sg, .ref ia, .int ic, .int lb])), (sg, .inl (cI, 1, .inl u.2.2.2.2.2.2.2.2.2.2.2)), (sa, .inr (5, [.ref tq, .ref lq, .ref d, .ref o])), (oo, .inr (3, [.int kd, .int a, .int b, .int c])), (d, .inr (0, [.ref u.1, .int u.2.1, .int u.2.2.1, .int u.2.2.2.1, .int u.2.2.2.2.1])), (lq, .inr (1, [.ref d])), (o, .inr (4, [.ref d, .ref st, .ref us, .ref pe, .ref it, .int u.2.2.2.2.2.1])), (st, .inl (cI, 256, .inl u.2.2.2.2.2.2.1)), (us, .inl (cI, 128, .inl u.2.2.2.2.2.2.2.1)), (pe, .inl (cI, 128, .inl u.2.2.2.2.2.2.2.2.1)), (it, .inl (cI, 256, .inl u.2.2.2.2.2.2.2.2.2.1)), (tq, .inl (cT, 8, .inr (.inr (.inr (.inr tf))))), (tb, .inr (6, [.ref wq, .ref sq, .ref pq, .ref rq, .int mI, .int (nI tp), .long (lN sm)])), (wq, .inl (cI, 64, .inl gw)), (pq, .inl (cI, 64, .inl gp)), (rq, .inl (cJ, 64, .inr (.inl u.2.2.2.2.2.2.2.2.2.2.1)))])) :
    ∀ (k : Nat) (s : Nat) (found : Nat) (al : Nat) (w9 : Nat) (v1 : Int32) (v2 : Int32) (v3 : Int32) (v4 : Int32) (s0 : Int32) (gs : Nat → Int32) (gu : Nat → Int32) (gpe : Nat → Int32) (gi : Nat → Int32) (gr : Nat → Int64) (gg : Nat → Int32), 2 ^ len - s < k → s ≤ 8192 → found ≤ s → al ≤ 8192 → (M = 2 → gr = gr0) → talL A len dec out.toInt64 k s found = R0 → V (gG D cI cJ cT) X (rmD 6) cX8_tally 11 RX8 [(x, .inr (8, [.ref ta, .ref tq, .ref sa, .ref oo, .ref lo, .ref sg, .ref ia, .int ic, .int lb])), (sg, .inl (cI, 1, .inl gg)), (sa, .inr (5, [.ref tq, .ref lq, .ref d, .ref o])), (oo, .inr (3, [.int kd, .int a, .int b, .int c])), (d, .inr (0, [.ref w9, .int v1, .int v2, .int v3, .int v4])), (lq, .inr (1, [.ref d])), (o, .inr (4, [.ref d, .ref st, .ref us, .ref pe, .ref it, .int s0])), (st, .inl (cI, 256, .inl gs)), (us, .inl (cI, 128, .inl gu)), (pe, .inl (cI, 128, .inl gpe)), (it, .inl (cI, 256, .inl gi)), (tq, .inl (cT, 8, .inr (.inr (.inr (.inr tf))))), (tb, .inr (6, [.ref wq, .ref sq, .ref pq, .ref rq, .int mI, .int (nI tp), .long (lN sm)])), (wq, .inl (cI, 64, .inl gw)), (pq, .inl (cI, 64, .inl gp)), (rq, .inl (cJ, 64, .inr (.inl gr)))] 0 0 [(0, .ref x), (1, .int (nI len)), (2, .int (dI dec)), (3, .int out), (4, .int (nI (2 ^ len))), (5, .int (nI found)), (6, .int (nI al)), (7, .int (nI s))] 14 [] := by
  intro k
  induction k with
  | zero => intro s found al w9 v1 v2 v3 v4 s0 gs gu gpe gi gr gg hk hs hfo hal hgr hT; omega
  | succ k ih =>
    intro s found al w9 v1 v2 v3 v4 s0 gs gu gpe gi gr gg hk hs hfo hal hgr hT
    refine v_iload 7 dX8_tally_14 rfl ?_
    refine v_iload 4 dX8_tally_16 rfl ?_
    refine v_icmp_ge (tgt := 145) dX8_tally_18 (by decide) (fun b18 => ?_) (fun b18 => ?_)
    · have b18 : 2 ^ len ≤ s := (nI_leI (by omega) (by omega)).mp b18
      refine v_iload 5 dX8_tally_145 rfl ?_
      exact v_iret hE dX8_tally_147 (w9, v1, v2, v3, v4, s0, gs, gu, gpe, gi, gr, gg) (hq _ hgr) (by rw [← hT]; simp only [talL]; rw [if_neg (by omega)]) rfl
    · have b18 : ¬ (2 ^ len ≤ s) := fun q => b18 ((nI_leI (by omega) (by omega)).mpr q)
      refine v_aload_n 0 dX8_tally_21 rfl rfl ?_
      refine v_get f_SampleDesk_57 0 rfl rfl dX8_tally_22 ?_
      refine v_iconst (v := nI 0) dX8_tally_25 (by decide) ?_
      refine v_iload 7 dX8_tally_26 rfl ?_
      refine v_bipush (v := nI 32) dX8_tally_28 (by decide) ?_
      refine v_iload_n 1 dX8_tally_30 rfl rfl ?_
      refine v_isub dX8_tally_31 ?_
      refine v_topi (y := nI (32 - len)) (pk_sub (by omega)) ?_
      refine v_ishl dX8_tally_32 ?_
      refine v_iast (ws' := [(x, .inr (8, [.ref ta, .ref tq, .ref sa, .ref oo, .ref lo, .ref sg, .ref ia, .int ic, .int lb])), (sg, .inl (cI, 1, .inl (upd gg 0 ((nI s) <<< ((nI (32 - len)) &&& 31))))), (sa, .inr (5, [.ref tq, .ref lq, .ref d, .ref o])), (oo, .inr (3, [.int kd, .int a, .int b, .int c])), (d, .inr (0, [.ref w9, .int v1, .int v2, .int v3, .int v4])), (lq, .inr (1, [.ref d])), (o, .inr (4, [.ref d, .ref st, .ref us, .ref pe, .ref it, .int s0])), (st, .inl (cI, 256, .inl gs)), (us, .inl (cI, 128, .inl gu)), (pe, .inl (cI, 128, .inl gpe)), (it, .inl (cI, 256, .inl gi)), (tq, .inl (cT, 8, .inr (.inr (.inr (.inr tf))))), (tb, .inr (6, [.ref wq, .ref sq, .ref pq, .ref rq, .int mI, .int (nI tp), .long (lN sm)])), (wq, .inl (cI, 64, .inl gw)), (pq, .inl (cI, 64, .inl gp)), (rq, .inl (cJ, 64, .inr (.inl gr)))]) 0 1 rfl rfl (by omega) (by omega) dX8_tally_33 rfl ?_
      refine v_arI (ws' := [(x, .inr (8, [.ref ta, .ref tq, .ref sa, .ref oo, .ref lo, .ref sg, .ref ia, .int ic, .int lb])), (sg, .inl (cI, 1, .inl (fun _ => nI s <<< (nI (32 - len) &&& 31)))), (sa, .inr (5, [.ref tq, .ref lq, .ref d, .ref o])), (oo, .inr (3, [.int kd, .int a, .int b, .int c])), (d, .inr (0, [.ref w9, .int v1, .int v2, .int v3, .int v4])), (lq, .inr (1, [.ref d])), (o, .inr (4, [.ref d, .ref st, .ref us, .ref pe, .ref it, .int s0])), (st, .inl (cI, 256, .inl gs)), (us, .inl (cI, 128, .inl gu)), (pe, .inl (cI, 128, .inl gpe)), (it, .inl (cI, 256, .inl gi)), (tq, .inl (cT, 8, .inr (.inr (.inr (.inr tf))))), (tb, .inr (6, [.ref wq, .ref sq, .ref pq, .ref rq, .int mI, .int (nI tp), .long (lN sm)])), (wq, .inl (cI, 64, .inl gw)), (pq, .inl (cI, 64, .inl gp)), (rq, .inl (cJ, 64, .inr (.inl gr)))]) 1 rfl (g := fun _ => nI s <<< (nI (32 - len) &&& 31)) (fun i hi => by rw [show i = 0 by omega]; exact pk_us) rfl ?_
      refine v_aload_n 0 dX8_tally_34 rfl rfl ?_
      refine v_get f_SampleDesk_39 0 rfl rfl dX8_tally_35 ?_
      refine v_get f_SampleDesk_137 2 rfl rfl dX8_tally_38 ?_
      refine v_aload_n 0 dX8_tally_41 rfl rfl ?_
      refine v_get f_SampleDesk_57 0 rfl rfl dX8_tally_42 ?_
      refine v_iconst (v := nI 0) dX8_tally_45 (by decide) ?_
      refine v_iload_n 1 dX8_tally_46 rfl rfl ?_
      refine v_callV (as := [.ref sg, .int (nI 0), .int (nI len)]) (rest := []) (ws' := fun u => [(x, .inr (8, [.ref ta, .ref tq, .ref sa, .ref oo, .ref lo, .ref sg, .ref ia, .int ic, .int lb])), (sg, .inl (cI, 1, .inl (fun _ => nI s <<< (nI (32 - len) &&& 31)))), (sa, .inr (5, [.ref tq, .ref lq, .ref d, .ref o])), (oo, .inr (3, [.int kd, .int a, .int b, .int c])), (d, .inr (0, [.ref sg, .int (nI 0), .int (nI 0), .int (nI (min len (1 * 32))), .int (dI false)])), (lq, .inr (1, [.ref d])), (o, .inr (4, [.ref d, .ref st, .ref us, .ref pe, .ref it, .int s0])), (st, .inl (cI, 256, .inl gs)), (us, .inl (cI, 128, .inl gu)), (pe, .inl (cI, 128, .inl gpe)), (it, .inl (cI, 256, .inl gi)), (tq, .inl (cT, 8, .inr (.inr (.inr (.inr tf))))), (tb, .inr (6, [.ref wq, .ref sq, .ref pq, .ref rq, .int mI, .int (nI tp), .long (lN sm)])), (wq, .inl (cI, 64, .inl gw)), (pq, .inl (cI, 64, .inl gp)), (rq, .inl (cJ, 64, .inr (.inl gr)))]) m_SampleDesk_144 (kX0_open X.l (d := d) (w0 := w9) (w := sg) (v1 := v1) (v2 := v2) (v3 := v3) (v4 := v4) (pl := 0) (by0 := len) (n := 1) (g := fun _ => nI s <<< (nI (32 - len) &&& 31)) (by omega) (by decide)) k_code_X0_open [4, 1] 4 rfl rfl rfl rfl dX8_tally_47 (Nat.le_of_ble_eq_true rfl) ⟨rfl, rfl, by decide, by decide⟩ ⟨Nat.zero_le _, Nat.zero_le _⟩ rfl rfl (fun _ => rfl) (v_mgU rfl (fun _ => rfl)) ?_
      intro uu c47
      try dsimp only at c47
      show V (gG D cI cJ cT) X (rmD 6) cX8_tally 11 RX8 [(x, .inr (8, [.ref ta, .ref tq, .ref sa, .ref oo, .ref lo, .ref sg, .ref ia, .int ic, .int lb])), (sg, .inl (cI, 1, .inl (fun _ => nI s <<< (nI (32 - len) &&& 31)))), (sa, .inr (5, [.ref tq, .ref lq, .ref d, .ref o])), (oo, .inr (3, [.int kd, .int a, .int b, .int c])), (d, .inr (0, [.ref sg, .int (nI 0), .int (nI 0), .int (nI (min len (1 * 32))), .int (dI false)])), (lq, .inr (1, [.ref d])), (o, .inr (4, [.ref d, .ref st, .ref us, .ref pe, .ref it, .int s0])), (st, .inl (cI, 256, .inl gs)), (us, .inl (cI, 128, .inl gu)), (pe, .inl (cI, 128, .inl gpe)), (it, .inl (cI, 256, .inl gi)), (tq, .inl (cT, 8, .inr (.inr (.inr (.inr tf))))), (tb, .inr (6, [.ref wq, .ref sq, .ref pq, .ref rq, .int mI, .int (nI tp), .long (lN sm)])), (wq, .inl (cI, 64, .inl gw)), (pq, .inl (cI, 64, .inl gp)), (rq, .inl (cJ, 64, .inr (.inl gr)))] 0 0 [(0, .ref x), (1, .int (nI len)), (2, .int (dI dec)), (3, .int out), (4, .int (nI (2 ^ len))), (5, .int (nI found)), (6, .int (nI al)), (7, .int (nI s))] 50 []
      refine v_ws (ws' := [(x, .inr (8, [.ref ta, .ref tq, .ref sa, .ref oo, .ref lo, .ref sg, .ref ia, .int ic, .int lb])), (sg, .inl (cI, 1, .inl (fun _ => nI s <<< (nI (32 - len) &&& 31)))), (sa, .inr (5, [.ref tq, .ref lq, .ref d, .ref o])), (oo, .inr (3, [.int kd, .int a, .int b, .int c])), (d, .inr (0, [.ref sg, .int (nI 0), .int (nI 0), .int (nI (len)), .int (dI false)])), (lq, .inr (1, [.ref d])), (o, .inr (4, [.ref d, .ref st, .ref us, .ref pe, .ref it, .int s0])), (st, .inl (cI, 256, .inl gs)), (us, .inl (cI, 128, .inl gu)), (pe, .inl (cI, 128, .inl gpe)), (it, .inl (cI, 256, .inl gi)), (tq, .inl (cT, 8, .inr (.inr (.inr (.inr tf))))), (tb, .inr (6, [.ref wq, .ref sq, .ref pq, .ref rq, .int mI, .int (nI tp), .long (lN sm)])), (wq, .inl (cI, 64, .inl gw)), (pq, .inl (cI, 64, .inl gp)), (rq, .inl (cJ, 64, .inr (.inl gr)))]) (by rw [show min len (1 * 32) = len by omega]) ?_
      refine v_aload_n 0 dX8_tally_50 rfl rfl ?_
      refine v_get f_SampleDesk_39 0 rfl rfl dX8_tally_51 ?_
      refine v_aload_n 0 dX8_tally_54 rfl rfl ?_
      refine v_get f_SampleDesk_46 0 rfl rfl dX8_tally_55 ?_
      refine v_callV (as := [.ref oo]) (rest := []) (ws' := fun u => [(x, .inr (8, [.ref ta, .ref tq, .ref sa, .ref oo, .ref lo, .ref sg, .ref ia, .int ic, .int lb])), (sg, .inl (cI, 1, .inl (fun _ => nI s <<< (nI (32 - len) &&& 31)))), (sa, .inr (5, [.ref tq, .ref lq, .ref d, .ref o])), (oo, .inr (3, [.int kd, .int a, .int b, .int c])), (d, .inr (0, [.ref sg, .int (nI 0), .int (nI u.2.2.2.2.2.2.2.1), .int (nI len), .int (dI u.2.2.2.2.2.2.2.2)])), (lq, .inr (1, [.ref d])), (o, .inr (4, [.ref d, .ref st, .ref us, .ref pe, .ref it, .int (nI u.2.1)])), (st, .inl (cI, 256, .inl u.2.2.1)), (us, .inl (cI, 128, .inl u.2.2.2.1)), (pe, .inl (cI, 128, .inl u.2.2.2.2.1)), (it, .inl (cI, 256, .inl u.2.2.2.2.2.1)), (tq, .inl (cT, 8, .inr (.inr (.inr (.inr tf))))), (tb, .inr (6, [.ref wq, .ref sq, .ref pq, .ref rq, .int mI, .int (nI tp), .long (lN sm)])), (wq, .inl (cI, 64, .inl gw)), (pq, .inl (cI, 64, .inl gp)), (rq, .inl (cJ, 64, .inr (.inl u.2.2.2.2.2.2.1)))]) m_SampleDesk_148 (kX5_answer X.l (sa := sa) (oo := oo) (o := o) (d := d) (w := sg) (st := st) (us := us) (pe := pe) (it := it) (lq := lq) (tq := tq) (tb := tb) (wq := wq) (sq := sq) (pq := pq) (rq := rq) (n := 1) (f := fun _ => nI s <<< (nI (32 - len) &&& 31)) (fr := 0) (p := 0) (e := len) (dr := false) (gs := gs) (gu := gu) (gpe := gpe) (gi := gi) (gw := gw) (gp := gp) (gr := gr) (tf := tf) (s0 := s0) (mm := M - 1) (W := W) (kd := kd) (a := a) (b := b) (c := c) (mI := mI) (tp := tp) (sm := sm) (Nat.zero_le _) (by omega) (by decide) (fun h => nomatch h) hok hW hWb (hta gr hgr)) k_code_X5_answer [2, 3, 6, 4, 1, 7, 8, 9, 10, 5, 11, 12, 13, 14, 15] 2 rfl rfl rfl rfl dX8_tally_58 (Nat.le_of_ble_eq_true rfl) ⟨rfl, rfl, by decide, by decide⟩ ⟨Nat.zero_le _, Nat.zero_le _⟩ rfl rfl (fun _ => rfl) (v_mgU rfl (fun _ => rfl)) ?_
      intro u58 c58
      obtain ⟨an, n1, g1, g2, g3, g4, g5, p1, d1⟩ := u58
      try dsimp only at c58
      show V (gG D cI cJ cT) X (rmD 6) cX8_tally 11 RX8 [(x, .inr (8, [.ref ta, .ref tq, .ref sa, .ref oo, .ref lo, .ref sg, .ref ia, .int ic, .int lb])), (sg, .inl (cI, 1, .inl (fun _ => nI s <<< (nI (32 - len) &&& 31)))), (sa, .inr (5, [.ref tq, .ref lq, .ref d, .ref o])), (oo, .inr (3, [.int kd, .int a, .int b, .int c])), (d, .inr (0, [.ref sg, .int (nI 0), .int (nI p1), .int (nI len), .int (dI d1)])), (lq, .inr (1, [.ref d])), (o, .inr (4, [.ref d, .ref st, .ref us, .ref pe, .ref it, .int (nI n1)])), (st, .inl (cI, 256, .inl g1)), (us, .inl (cI, 128, .inl g2)), (pe, .inl (cI, 128, .inl g3)), (it, .inl (cI, 256, .inl g4)), (tq, .inl (cT, 8, .inr (.inr (.inr (.inr tf))))), (tb, .inr (6, [.ref wq, .ref sq, .ref pq, .ref rq, .int mI, .int (nI tp), .long (lN sm)])), (wq, .inl (cI, 64, .inl gw)), (pq, .inl (cI, 64, .inl gp)), (rq, .inl (cJ, 64, .inr (.inl g5)))] 0 0 [(0, .ref x), (1, .int (nI len)), (2, .int (dI dec)), (3, .int out), (4, .int (nI (2 ^ len))), (5, .int (nI found)), (6, .int (nI al)), (7, .int (nI s))] 61 [.long an]
      refine v_lstore (lv' := [(8, .long an), (0, .ref x), (1, .int (nI len)), (2, .int (dI dec)), (3, .int out), (4, .int (nI (2 ^ len))), (5, .int (nI found)), (6, .int (nI al)), (7, .int (nI s))]) dX8_tally_61 (by decide) rfl ?_
      refine v_aload_n 1 dX8_tally_63 rfl rfl ?_
      refine v_get f_SampleDesk_39 0 rfl rfl dX8_tally_64 ?_
      refine v_get f_SampleDesk_137 2 rfl rfl dX8_tally_67 ?_
      refine v_get f_SampleDesk_152 4 rfl rfl dX8_tally_70 ?_
      refine v_istore (lv' := [(10, .int (dI d1)), (8, .long an), (0, .ref x), (1, .int (nI len)), (2, .int (dI dec)), (3, .int out), (4, .int (nI (2 ^ len))), (5, .int (nI found)), (6, .int (nI al)), (7, .int (nI s))]) dX8_tally_73 (by decide) rfl ?_
      have hgr2 : M = 2 → g5 = gr := fun q => c58.2.2 (by omega)
      rcases d1 with _ | _
      · show V (gG D cI cJ cT) X (rmD 6) cX8_tally 11 RX8 [(x, .inr (8, [.ref ta, .ref tq, .ref sa, .ref oo, .ref lo, .ref sg, .ref ia, .int ic, .int lb])), (sg, .inl (cI, 1, .inl (fun _ => nI s <<< (nI (32 - len) &&& 31)))), (sa, .inr (5, [.ref tq, .ref lq, .ref d, .ref o])), (oo, .inr (3, [.int kd, .int a, .int b, .int c])), (d, .inr (0, [.ref sg, .int (nI 0), .int (nI p1), .int (nI len), .int (dI false)])), (lq, .inr (1, [.ref d])), (o, .inr (4, [.ref d, .ref st, .ref us, .ref pe, .ref it, .int (nI n1)])), (st, .inl (cI, 256, .inl g1)), (us, .inl (cI, 128, .inl g2)), (pe, .inl (cI, 128, .inl g3)), (it, .inl (cI, 256, .inl g4)), (tq, .inl (cT, 8, .inr (.inr (.inr (.inr tf))))), (tb, .inr (6, [.ref wq, .ref sq, .ref pq, .ref rq, .int mI, .int (nI tp), .long (lN sm)])), (wq, .inl (cI, 64, .inl gw)), (pq, .inl (cI, 64, .inl gp)), (rq, .inl (cJ, 64, .inr (.inl g5)))] 0 0 [(10, .int (dI false)), (8, .long an), (0, .ref x), (1, .int (nI len)), (2, .int (dI dec)), (3, .int out), (4, .int (nI (2 ^ len))), (5, .int (nI found)), (6, .int (nI al)), (7, .int (nI s))] 75 []
        obtain ⟨r, q1, q2, q3, q4⟩ := Rg_ok c58.1 rfl rfl
        have q5 : A s = some (r, p1) := (hA s).trans q1
        have hp2 : 2 ^ (len - p1) ≤ 4096 := pow_le12 (by omega)
        have hp3 : 1 ≤ 2 ^ (len - p1) := Nat.one_le_two_pow
        refine v_iload 0 dX8_tally_75 rfl ?_
        refine v_if_eq (tgt := 84) dX8_tally_77 (by decide) (fun b77 => ?_) (fun b77 => absurd (rfl) b77)
        refine v_iconst (v := nI 1) dX8_tally_84 (by decide) ?_
        refine v_iload 6 dX8_tally_85 rfl ?_
        refine v_aload_n 2 dX8_tally_87 rfl rfl ?_
        refine v_get f_SampleDesk_39 0 rfl rfl dX8_tally_88 ?_
        refine v_get f_SampleDesk_137 2 rfl rfl dX8_tally_91 ?_
        refine v_callV (as := []) (rest := [.int (nI (2 ^ len)), .int (nI 1)]) (ws' := fun u => [(x, .inr (8, [.ref ta, .ref tq, .ref sa, .ref oo, .ref lo, .ref sg, .ref ia, .int ic, .int lb])), (sg, .inl (cI, 1, .inl (fun _ => nI s <<< (nI (32 - len) &&& 31)))), (sa, .inr (5, [.ref tq, .ref lq, .ref d, .ref o])), (oo, .inr (3, [.int kd, .int a, .int b, .int c])), (d, .inr (0, [.ref sg, .int (nI 0), .int (nI p1), .int (nI len), .int (dI false)])), (lq, .inr (1, [.ref d])), (o, .inr (4, [.ref d, .ref st, .ref us, .ref pe, .ref it, .int (nI n1)])), (st, .inl (cI, 256, .inl g1)), (us, .inl (cI, 128, .inl g2)), (pe, .inl (cI, 128, .inl g3)), (it, .inl (cI, 256, .inl g4)), (tq, .inl (cT, 8, .inr (.inr (.inr (.inr tf))))), (tb, .inr (6, [.ref wq, .ref sq, .ref pq, .ref rq, .int mI, .int (nI tp), .long (lN sm)])), (wq, .inl (cI, 64, .inl gw)), (pq, .inl (cI, 64, .inl gp)), (rq, .inl (cJ, 64, .inr (.inl g5)))]) m_SampleDesk_175 (kX0_bitsRead X.l (d := d) (w := sg) (n := 1) (f := fun _ => nI s <<< (nI (32 - len) &&& 31)) (fr := 0) (p := p1) (e := len) (dr := false) (Nat.zero_le _)) k_code_X0_bitsRead [4, 1] 4 rfl rfl rfl rfl dX8_tally_94 (Nat.le_of_ble_eq_true rfl) ⟨rfl, rfl, by decide, by decide⟩ ⟨Nat.zero_le _, Nat.zero_le _⟩ rfl rfl (fun _ => rfl) (v_mgU rfl (fun _ => rfl)) ?_
        intro uu c94
        try dsimp only at c94
        show V (gG D cI cJ cT) X (rmD 6) cX8_tally 11 RX8 [(x, .inr (8, [.ref ta, .ref tq, .ref sa, .ref oo, .ref lo, .ref sg, .ref ia, .int ic, .int lb])), (sg, .inl (cI, 1, .inl (fun _ => nI s <<< (nI (32 - len) &&& 31)))), (sa, .inr (5, [.ref tq, .ref lq, .ref d, .ref o])), (oo, .inr (3, [.int kd, .int a, .int b, .int c])), (d, .inr (0, [.ref sg, .int (nI 0), .int (nI p1), .int (nI len), .int (dI false)])), (lq, .inr (1, [.ref d])), (o, .inr (4, [.ref d, .ref st, .ref us, .ref pe, .ref it, .int (nI n1)])), (st, .inl (cI, 256, .inl g1)), (us, .inl (cI, 128, .inl g2)), (pe, .inl (cI, 128, .inl g3)), (it, .inl (cI, 256, .inl g4)), (tq, .inl (cT, 8, .inr (.inr (.inr (.inr tf))))), (tb, .inr (6, [.ref wq, .ref sq, .ref pq, .ref rq, .int mI, .int (nI tp), .long (lN sm)])), (wq, .inl (cI, 64, .inl gw)), (pq, .inl (cI, 64, .inl gp)), (rq, .inl (cJ, 64, .inr (.inl g5)))] 0 0 [(10, .int (dI false)), (8, .long an), (0, .ref x), (1, .int (nI len)), (2, .int (dI dec)), (3, .int out), (4, .int (nI (2 ^ len))), (5, .int (nI found)), (6, .int (nI al)), (7, .int (nI s))] 97 [.int (nI (p1 - 0)), .int (nI (2 ^ len)), .int (nI 1)]
        refine v_topi (y := nI p1) (by rw [Nat.sub_zero]) ?_
        refine v_ishr dX8_tally_97 ?_
        refine v_topi (y := nI (2 ^ len / 2 ^ p1)) (shrN len (by omega) p1 (by omega)) ?_
        have hdv : 2 ^ len / 2 ^ p1 ≤ 4096 := Nat.le_trans (Nat.div_le_self _ _) hpw
        refine v_mmax k_m_SampleDesk_204 (by decide) (Nat.le_of_ble_eq_true rfl) (Nat.zero_le _) (Nat.zero_le _) dX8_tally_98 ?_
        refine v_topi (y := nI (max 1 ((2 ^ len / 2 ^ p1)))) (max_nI (by omega) (by omega)) ?_
        refine v_topi (y := nI (2 ^ (len - p1))) (by rw [max_pow q4]) ?_
        refine v_istore (lv' := [(6, .int (nI (2 ^ (len - p1)))), (10, .int (dI false)), (8, .long an), (0, .ref x), (1, .int (nI len)), (2, .int (dI dec)), (3, .int out), (4, .int (nI (2 ^ len))), (5, .int (nI found)), (7, .int (nI s))]) dX8_tally_101 (by decide) rfl ?_
        refine v_iload_n 5 dX8_tally_103 rfl rfl ?_
        refine v_if_eq (tgt := 123) dX8_tally_104 (by decide) (fun b104 => ?_) (fun b104 => ?_)
        · have b104 : dec = false := (dI_0 _).mp b104
          refine v_iload 1 dX8_tally_123 rfl ?_
          refine v_if_eq (tgt := 135) dX8_tally_125 (by decide) (fun b125 => ?_) (fun b125 => absurd (rfl) b125)
          refine v_iload 9 dX8_tally_135 rfl ?_
          refine v_iload 0 dX8_tally_137 rfl ?_
          refine v_iadd dX8_tally_139 ?_
          refine v_topi (y := nI (s + ((2 ^ (len - p1))))) (nI_add _ _) ?_
          refine v_istore (lv' := [(7, .int (nI (s + ((2 ^ (len - p1)))))), (6, .int (nI (2 ^ (len - p1)))), (10, .int (dI false)), (8, .long an), (0, .ref x), (1, .int (nI len)), (2, .int (dI dec)), (3, .int out), (4, .int (nI (2 ^ len))), (5, .int (nI found))]) dX8_tally_140 (by decide) rfl ?_
          refine v_goto (tgt := 14) dX8_tally_142 (by decide) ?_
          refine v_lv [4, 5, 6, 7, 8, 9, 1, 0] rfl ?_
          exact ih ((s + ((2 ^ (len - p1))))) found ((2 ^ (len - p1))) sg (nI 0) (nI p1) (nI len) (dI false) (nI n1) g1 g2 g3 g4 g5 (fun _ => nI s <<< (nI (32 - len) &&& 31)) (by omega) (by omega) (by omega) (by omega) (fun q => (hgr2 q).trans (hgr q)) (by rw [← hT]; simp only [talL]; rw [if_pos (show s < 2 ^ len by omega), q5]; simp [q2.1.symm, *])
        · have b104 : ¬ (dec = false) := fun q => b104 ((dI_0 _).mpr q)
          refine v_iload 1 dX8_tally_107 rfl ?_
          refine v_if_ne (tgt := 135) dX8_tally_109 (by decide) (fun b109 => absurd b109 (fun q => q rfl)) (fun b109 => ?_)
          refine v_lload 2 dX8_tally_112 rfl ?_
          refine v_iload_n 6 dX8_tally_114 rfl rfl ?_
          refine v_i2l (v := out.toInt64) dX8_tally_115 (rfl) ?_
          refine v_lcmp dX8_tally_116 ?_
          refine v_if_ne (tgt := 135) dX8_tally_117 (by decide) (fun b117 => ?_) (fun b117 => ?_)
          · have b117 : ¬ (an = out.toInt64) := fun q => b117 ((lg_cmp_eq _ _).mpr q)
            refine v_iload 9 dX8_tally_135 rfl ?_
            refine v_iload 0 dX8_tally_137 rfl ?_
            refine v_iadd dX8_tally_139 ?_
            refine v_topi (y := nI (s + ((2 ^ (len - p1))))) (nI_add _ _) ?_
            refine v_istore (lv' := [(7, .int (nI (s + ((2 ^ (len - p1)))))), (6, .int (nI (2 ^ (len - p1)))), (10, .int (dI false)), (8, .long an), (0, .ref x), (1, .int (nI len)), (2, .int (dI dec)), (3, .int out), (4, .int (nI (2 ^ len))), (5, .int (nI found))]) dX8_tally_140 (by decide) rfl ?_
            refine v_goto (tgt := 14) dX8_tally_142 (by decide) ?_
            refine v_lv [4, 5, 6, 7, 8, 9, 1, 0] rfl ?_
            exact ih ((s + ((2 ^ (len - p1))))) found ((2 ^ (len - p1))) sg (nI 0) (nI p1) (nI len) (dI false) (nI n1) g1 g2 g3 g4 g5 (fun _ => nI s <<< (nI (32 - len) &&& 31)) (by omega) (by omega) (by omega) (by omega) (fun q => (hgr2 q).trans (hgr q)) (by rw [← hT]; simp only [talL]; rw [if_pos (show s < 2 ^ len by omega), q5]; simp [q2.1.symm, *])
          · have b117 : an = out.toInt64 := (lg_cmp_eq _ _).mp b117
            refine v_goto (tgt := 128) dX8_tally_120 (by decide) ?_
            refine v_iload 8 dX8_tally_128 rfl ?_
            refine v_iload 0 dX8_tally_130 rfl ?_
            refine v_iadd dX8_tally_132 ?_
            refine v_topi (y := nI (found + ((2 ^ (len - p1))))) (nI_add _ _) ?_
            refine v_istore (lv' := [(5, .int (nI (found + ((2 ^ (len - p1)))))), (6, .int (nI (2 ^ (len - p1)))), (10, .int (dI false)), (8, .long an), (0, .ref x), (1, .int (nI len)), (2, .int (dI dec)), (3, .int out), (4, .int (nI (2 ^ len))), (7, .int (nI s))]) dX8_tally_133 (by decide) rfl ?_
            refine v_iload 9 dX8_tally_135 rfl ?_
            refine v_iload 1 dX8_tally_137 rfl ?_
            refine v_iadd dX8_tally_139 ?_
            refine v_topi (y := nI (s + ((2 ^ (len - p1))))) (nI_add _ _) ?_
            refine v_istore (lv' := [(7, .int (nI (s + ((2 ^ (len - p1)))))), (5, .int (nI (found + ((2 ^ (len - p1)))))), (6, .int (nI (2 ^ (len - p1)))), (10, .int (dI false)), (8, .long an), (0, .ref x), (1, .int (nI len)), (2, .int (dI dec)), (3, .int out), (4, .int (nI (2 ^ len)))]) dX8_tally_140 (by decide) rfl ?_
            refine v_goto (tgt := 14) dX8_tally_142 (by decide) ?_
            refine v_lv [5, 6, 7, 8, 9, 1, 2, 0] rfl ?_
            exact ih ((s + ((2 ^ (len - p1))))) ((found + ((2 ^ (len - p1))))) ((2 ^ (len - p1))) sg (nI 0) (nI p1) (nI len) (dI false) (nI n1) g1 g2 g3 g4 g5 (fun _ => nI s <<< (nI (32 - len) &&& 31)) (by omega) (by omega) (by omega) (by omega) (fun q => (hgr2 q).trans (hgr q)) (by rw [← hT]; simp only [talL]; rw [if_pos (show s < 2 ^ len by omega), q5]; simp [q2.1.symm, *])
      · show V (gG D cI cJ cT) X (rmD 6) cX8_tally 11 RX8 [(x, .inr (8, [.ref ta, .ref tq, .ref sa, .ref oo, .ref lo, .ref sg, .ref ia, .int ic, .int lb])), (sg, .inl (cI, 1, .inl (fun _ => nI s <<< (nI (32 - len) &&& 31)))), (sa, .inr (5, [.ref tq, .ref lq, .ref d, .ref o])), (oo, .inr (3, [.int kd, .int a, .int b, .int c])), (d, .inr (0, [.ref sg, .int (nI 0), .int (nI p1), .int (nI len), .int (dI true)])), (lq, .inr (1, [.ref d])), (o, .inr (4, [.ref d, .ref st, .ref us, .ref pe, .ref it, .int (nI n1)])), (st, .inl (cI, 256, .inl g1)), (us, .inl (cI, 128, .inl g2)), (pe, .inl (cI, 128, .inl g3)), (it, .inl (cI, 256, .inl g4)), (tq, .inl (cT, 8, .inr (.inr (.inr (.inr tf))))), (tb, .inr (6, [.ref wq, .ref sq, .ref pq, .ref rq, .int mI, .int (nI tp), .long (lN sm)])), (wq, .inl (cI, 64, .inl gw)), (pq, .inl (cI, 64, .inl gp)), (rq, .inl (cJ, 64, .inr (.inl g5)))] 0 0 [(10, .int (dI true)), (8, .long an), (0, .ref x), (1, .int (nI len)), (2, .int (dI dec)), (3, .int out), (4, .int (nI (2 ^ len))), (5, .int (nI found)), (6, .int (nI al)), (7, .int (nI s))] 75 []
        have q1 := Rg_no c58.1 rfl rfl
        have q5 : A s = none := (hA s).trans q1
        refine v_iload 0 dX8_tally_75 rfl ?_
        refine v_if_eq (tgt := 84) dX8_tally_77 (by decide) (fun b77 => absurd b77 (by decide)) (fun b77 => ?_)
        refine v_iconst (v := nI 1) dX8_tally_80 (by decide) ?_
        refine v_goto (tgt := 101) dX8_tally_81 (by decide) ?_
        refine v_istore (lv' := [(6, .int (nI 1)), (10, .int (dI true)), (8, .long an), (0, .ref x), (1, .int (nI len)), (2, .int (dI dec)), (3, .int out), (4, .int (nI (2 ^ len))), (5, .int (nI found)), (7, .int (nI s))]) dX8_tally_101 (by decide) rfl ?_
        refine v_iload_n 5 dX8_tally_103 rfl rfl ?_
        refine v_if_eq (tgt := 123) dX8_tally_104 (by decide) (fun b104 => ?_) (fun b104 => ?_)
        · have b104 : dec = false := (dI_0 _).mp b104
          refine v_iload 1 dX8_tally_123 rfl ?_
          refine v_if_eq (tgt := 135) dX8_tally_125 (by decide) (fun b125 => absurd b125 (by decide)) (fun b125 => ?_)
          refine v_iload 8 dX8_tally_128 rfl ?_
          refine v_iload 0 dX8_tally_130 rfl ?_
          refine v_iadd dX8_tally_132 ?_
          refine v_topi (y := nI (found + 1)) (nI_add _ _) ?_
          refine v_istore (lv' := [(5, .int (nI (found + 1))), (6, .int (nI 1)), (10, .int (dI true)), (8, .long an), (0, .ref x), (1, .int (nI len)), (2, .int (dI dec)), (3, .int out), (4, .int (nI (2 ^ len))), (7, .int (nI s))]) dX8_tally_133 (by decide) rfl ?_
          refine v_iload 9 dX8_tally_135 rfl ?_
          refine v_iload 1 dX8_tally_137 rfl ?_
          refine v_iadd dX8_tally_139 ?_
          refine v_topi (y := nI (s + 1)) (nI_add _ _) ?_
          refine v_istore (lv' := [(7, .int (nI (s + 1))), (5, .int (nI (found + 1))), (6, .int (nI 1)), (10, .int (dI true)), (8, .long an), (0, .ref x), (1, .int (nI len)), (2, .int (dI dec)), (3, .int out), (4, .int (nI (2 ^ len)))]) dX8_tally_140 (by decide) rfl ?_
          refine v_goto (tgt := 14) dX8_tally_142 (by decide) ?_
          refine v_lv [5, 6, 7, 8, 9, 1, 2, 0] rfl ?_
          exact ih ((s + 1)) ((found + 1)) 1 sg (nI 0) (nI p1) (nI len) (dI true) (nI n1) g1 g2 g3 g4 g5 (fun _ => nI s <<< (nI (32 - len) &&& 31)) (by omega) (by omega) (by omega) (by omega) (fun q => (hgr2 q).trans (hgr q)) (by rw [← hT]; simp only [talL]; rw [if_pos (show s < 2 ^ len by omega), q5]; simp [*])
        · have b104 : ¬ (dec = false) := fun q => b104 ((dI_0 _).mpr q)
          refine v_iload 1 dX8_tally_107 rfl ?_
          refine v_if_ne (tgt := 135) dX8_tally_109 (by decide) (fun b109 => ?_) (fun b109 => absurd b109 (by decide))
          refine v_iload 9 dX8_tally_135 rfl ?_
          refine v_iload 0 dX8_tally_137 rfl ?_
          refine v_iadd dX8_tally_139 ?_
          refine v_topi (y := nI (s + 1)) (nI_add _ _) ?_
          refine v_istore (lv' := [(7, .int (nI (s + 1))), (6, .int (nI 1)), (10, .int (dI true)), (8, .long an), (0, .ref x), (1, .int (nI len)), (2, .int (dI dec)), (3, .int out), (4, .int (nI (2 ^ len))), (5, .int (nI found))]) dX8_tally_140 (by decide) rfl ?_
          refine v_goto (tgt := 14) dX8_tally_142 (by decide) ?_
          refine v_lv [4, 5, 6, 7, 8, 9, 1, 0] rfl ?_
          exact ih ((s + 1)) found 1 sg (nI 0) (nI p1) (nI len) (dI true) (nI n1) g1 g2 g3 g4 g5 (fun _ => nI s <<< (nI (32 - len) &&& 31)) (by omega) (by omega) (by omega) (by omega) (fun q => (hgr2 q).trans (hgr q)) (by rw [← hT]; simp only [talL]; rw [if_pos (show s < 2 ^ len by omega), q5]; simp [*])
set_option maxRecDepth 100000 in
set_option maxHeartbeats 4000000 in
theorem kX8_tally {D : va_G} {cI cJ cT : ClassId} (l : Launch) {x ta tq sa oo lo sg ia lq d o st us pe it tb wq sq pq rq : Nat} {kd a b c : Int32} {ic lb : Int32} {tf : Nat → Option Nat} {M : Nat} {mI : Int32} {tp sm : Nat} {gw gp gg : Nat → Int32} {W : Nat → Nat} {len : Nat} {dec : Bool} {out : Int32} {w9 : Nat} {v1 v2 v3 v4 s0 : Int32} {gs gu gpe gi : Nat → Int32} {gr : Nat → Int64} (hlen : len ≤ 12) (hok : okD kd a b c = true) (hW : ∀ x, x < 64 → gw x = nI (W x)) (hWb : ∀ x, x < 64 → W x < 2 ^ 31) (hTS : TabSt M mI tp sm W gp gr) (hta : kd = nI 0 → tf a.toNatClampNeg = some tb) (hM0 : kd = nI 0 → 0 < M) : Fn (S := Nat × Int32 × Int32 × Int32 × Int32 × Int32 × (Nat → Int32) × (Nat → Int32) × (Nat → Int32) × (Nat → Int32) × (Nat → Int64) × (Nat → Int32)) (gG D cI cJ cT) l yX8_tally (.code yX8_tally cX8_tally 11 (some .int)) (rmD 6) [.ref x, .int (nI len), .int (dI dec), .int out] [(x, .inr (8, [.ref ta, .ref tq, .ref sa, .ref oo, .ref lo, .ref sg, .ref ia, .int ic, .int lb])), (sg, .inl (cI, 1, .inl gg)), (sa, .inr (5, [.ref tq, .ref lq, .ref d, .ref o])), (oo, .inr (3, [.int kd, .int a, .int b, .int c])), (d, .inr (0, [.ref w9, .int v1, .int v2, .int v3, .int v4])), (lq, .inr (1, [.ref d])), (o, .inr (4, [.ref d, .ref st, .ref us, .ref pe, .ref it, .int s0])), (st, .inl (cI, 256, .inl gs)), (us, .inl (cI, 128, .inl gu)), (pe, .inl (cI, 128, .inl gpe)), (it, .inl (cI, 256, .inl gi)), (tq, .inl (cT, 8, .inr (.inr (.inr (.inr tf))))), (tb, .inr (6, [.ref wq, .ref sq, .ref pq, .ref rq, .int mI, .int (nI tp), .long (lN sm)])), (wq, .inl (cI, 64, .inl gw)), (pq, .inl (cI, 64, .inl gp)), (rq, .inl (cJ, 64, .inr (.inl gr)))] (fun u => M = 2 → u.2.2.2.2.2.2.2.2.2.2.1 = gr) (fun u => some (.int (nI (sTal kd a b c W (M - 1) len dec out.toInt64)))) (fun u => [(x, .inr (8, [.ref ta, .ref tq, .ref sa, .ref oo, .ref lo, .ref sg, .ref ia, .int ic, .int lb])), (sg, .inl (cI, 1, .inl u.2.2.2.2.2.2.2.2.2.2.2)), (sa, .inr (5, [.ref tq, .ref lq, .ref d, .ref o])), (oo, .inr (3, [.int kd, .int a, .int b, .int c])), (d, .inr (0, [.ref u.1, .int u.2.1, .int u.2.2.1, .int u.2.2.2.1, .int u.2.2.2.2.1])), (lq, .inr (1, [.ref d])), (o, .inr (4, [.ref d, .ref st, .ref us, .ref pe, .ref it, .int u.2.2.2.2.2.1])), (st, .inl (cI, 256, .inl u.2.2.2.2.2.2.1)), (us, .inl (cI, 128, .inl u.2.2.2.2.2.2.2.1)), (pe, .inl (cI, 128, .inl u.2.2.2.2.2.2.2.2.1)), (it, .inl (cI, 256, .inl u.2.2.2.2.2.2.2.2.2.1)), (tq, .inl (cT, 8, .inr (.inr (.inr (.inr tf))))), (tb, .inr (6, [.ref wq, .ref sq, .ref pq, .ref rq, .int mI, .int (nI tp), .long (lN sm)])), (wq, .inl (cI, 64, .inl gw)), (pq, .inl (cI, 64, .inl gp)), (rq, .inl (cJ, 64, .inr (.inl u.2.2.2.2.2.2.2.2.2.2.1)))]) := by
  refine Fn.intro (by decide) (Nat.le_of_ble_eq_true rfl) ?_
  intro X hX hE hin
  subst hX
  show V (gG D cI cJ cT) X _ cX8_tally 11 RX8 _ 0 0 [(0, .ref x), (1, .int (nI len)), (2, .int (dI dec)), (3, .int out)] 0 []
  refine v_iconst (v := nI 1) dX8_tally_0 (by decide) ?_
  refine v_iload_n 1 dX8_tally_1 rfl rfl ?_
  refine v_ishl dX8_tally_2 ?_
  refine v_topi (y := nI (2 ^ len)) (shl1 len (by omega)) ?_
  refine v_istore (lv' := [(4, .int (nI (2 ^ len))), (0, .ref x), (1, .int (nI len)), (2, .int (dI dec)), (3, .int out)]) dX8_tally_3 (by decide) rfl ?_
  refine v_iconst (v := nI 0) dX8_tally_5 (by decide) ?_
  refine v_istore (lv' := [(5, .int (nI 0)), (4, .int (nI (2 ^ len))), (0, .ref x), (1, .int (nI len)), (2, .int (dI dec)), (3, .int out)]) dX8_tally_6 (by decide) rfl ?_
  refine v_iconst (v := nI 1) dX8_tally_8 (by decide) ?_
  refine v_istore (lv' := [(6, .int (nI 1)), (5, .int (nI 0)), (4, .int (nI (2 ^ len))), (0, .ref x), (1, .int (nI len)), (2, .int (dI dec)), (3, .int out)]) dX8_tally_9 (by decide) rfl ?_
  refine v_iconst (v := nI 0) dX8_tally_11 (by decide) ?_
  refine v_istore (lv' := [(7, .int (nI 0)), (6, .int (nI 1)), (5, .int (nI 0)), (4, .int (nI (2 ^ len))), (0, .ref x), (1, .int (nI len)), (2, .int (dI dec)), (3, .int out)]) dX8_tally_12 (by decide) rfl ?_
  refine v_lv [4, 5, 6, 7, 3, 2, 1, 0] rfl ?_
  exact kX8_tally_loop hlen (pow_le12 hlen) hok hW hWb (fun g hg hk => ⟨hta hk, TabSt_ok hTS hM0 hg hk⟩) (fun _ => rfl) (fun u h => h) hE _ 0 0 1 w9 v1 v2 v3 v4 s0 gs gu gpe gi gr gg (Nat.lt_succ_of_le (Nat.sub_le _ _)) (by omega) (by omega) (by omega) (fun _ => rfl) rfl
