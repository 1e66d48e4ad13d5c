set_option maxRecDepth 100000 in
set_option maxHeartbeats 4000000 in
theorem kX5_answer_0 {D : va_G} {cI cJ cT : ClassId} (l : Launch) {sa oo o d w st us pe it lq tq tb wq sq pq rq n : Nat} {f : Nat → Int32} {fr p e : Nat} {dr : Bool} {gs gu gpe gi gw gp : Nat → Int32} {gr : Nat → Int64} {tf : Nat → Option Nat} {s0 : Int32} {x y z mm : Nat} {W : Nat → Nat} {b1 c1 : Int32} (hp : p ≤ e) (he : e ≤ 32 * n) (hn : n ≤ 512) (hdr : dr = true → p = e) (hx : x < 8) (htf : tf x = some tb) (hmm : mm ≤ 1) (h0 : 0 < sumN W 64) (hW : ∀ x, x < 64 → gw x = nI (W x)) (hWb : ∀ x, x < 64 → W x < 2 ^ 31) (hal : mm = 1 → (∀ x, x < topN W 64 → gr x = lN ((alS W (topN W 64) (sumN W 64)).1 x)) ∧ ∀ x, x < topN W 64 → gp x = nI ((alS W (topN W 64) (sumN W 64)).2 x)) : Fn (S := Int64 × Nat × (Nat → Int32) × (Nat → Int32) × (Nat → Int32) × (Nat → Int32) × (Nat → Int64) × Nat × Bool) (gG D cI cJ cT) l yX5_answer (.code yX5_answer cX5_answer 2 (some .long)) (rmD 5) [.ref sa, .ref oo] [(sa, .inr (5, [.ref tq, .ref lq, .ref d, .ref o])), (oo, .inr (3, [.int (nI 0), .int (nI x), .int b1, .int c1])), (o, .inr (4, [.ref d, .ref st, .ref us, .ref pe, .ref it, .int s0])), (d, .inr (0, [.ref w, .int (nI fr), .int (nI p), .int (nI e), .int (dI dr)])), (w, .inl (cI, n, .inl f)), (st, .inl (cI, 256, .inl gs)), (us, .inl (cI, 128, .inl gu)), (pe, .inl (cI, 128, .inl gpe)), (it, .inl (cI, 256, .inl gi)), (lq, .inr (1, [.ref d])), (tq, .inl (cT, 8, .inr (.inr (.inr (.inr tf))))), (tb, .inr (6, [.ref wq, .ref sq, .ref pq, .ref rq, .int (nI mm), .int (nI ((topN W 64))), .long (lN ((sumN W 64)))])), (wq, .inl (cI, 64, .inl gw)), (pq, .inl (cI, 64, .inl gp)), (rq, .inl (cJ, 64, .inr (.inl gr)))] (fun u => Rg (sAns (bitW f) e 0 x y z W mm p) e p dr (mA u.1 u.2.1 u.2.2.2.2.2.1) u.2.2.2.2.2.2.2.1 u.2.2.2.2.2.2.2.2 ∧ u.2.1 ≤ 256 ∧ (mm = 1 → u.2.2.2.2.2.2.1 = gr)) (fun u => some (.long u.1)) (fun u => [(sa, .inr (5, [.ref tq, .ref lq, .ref d, .ref o])), (oo, .inr (3, [.int (nI 0), .int (nI x), .int b1, .int c1])), (o, .inr (4, [.ref d, .ref st, .ref us, .ref pe, .ref it, .int (nI u.2.1)])), (d, .inr (0, [.ref w, .int (nI fr), .int (nI u.2.2.2.2.2.2.2.1), .int (nI e), .int (dI u.2.2.2.2.2.2.2.2)])), (w, .inl (cI, n, .inl f)), (st, .inl (cI, 256, .inl u.2.2.1)), (us, .inl (cI, 128, .inl u.2.2.2.1)), (pe, .inl (cI, 128, .inl u.2.2.2.2.1)), (it, .inl (cI, 256, .inl u.2.2.2.2.2.1)), (lq, .inr (1, [.ref d])), (tq, .inl (cT, 8, .inr (.inr (.inr (.inr tf))))), (tb, .inr (6, [.ref wq, .ref sq, .ref pq, .ref rq, .int (nI mm), .int (nI ((topN W 64))), .long (lN ((sumN W 64)))])), (wq, .inl (cI, 64, .inl gw)), (pq, .inl (cI, 64, .inl gp)), (rq, .inl (cJ, 64, .inr (.inl u.2.2.2.2.2.2.1)))]) := by
  refine Fn.intro (by decide) (Nat.le_of_ble_eq_true rfl) ?_
  intro X hX hE hin
  subst hX
  show V (gG D cI cJ cT) X _ cX5_answer 2 RX5 _ 0 0 [(0, .ref sa), (1, .ref oo)] 0 []
  refine v_aload_n 0 dX5_answer_0 rfl rfl ?_
  refine v_get f_Sampler_23 0 rfl rfl dX5_answer_1 ?_
  refine v_iconst (v := nI 0) dX5_answer_4 (by decide) ?_
  refine v_put (ws' := [(sa, .inr (5, [.ref tq, .ref lq, .ref d, .ref o])), (oo, .inr (3, [.int (nI 0), .int (nI x), .int b1, .int c1])), (o, .inr (4, [.ref d, .ref st, .ref us, .ref pe, .ref it, .int (nI 0)])), (d, .inr (0, [.ref w, .int (nI fr), .int (nI p), .int (nI e), .int (dI dr)])), (w, .inl (cI, n, .inl f)), (st, .inl (cI, 256, .inl gs)), (us, .inl (cI, 128, .inl gu)), (pe, .inl (cI, 128, .inl gpe)), (it, .inl (cI, 256, .inl gi)), (lq, .inr (1, [.ref d])), (tq, .inl (cT, 8, .inr (.inr (.inr (.inr tf))))), (tb, .inr (6, [.ref wq, .ref sq, .ref pq, .ref rq, .int (nI mm), .int (nI ((topN W 64))), .long (lN ((sumN W 64)))])), (wq, .inl (cI, 64, .inl gw)), (pq, .inl (cI, 64, .inl gp)), (rq, .inl (cJ, 64, .inr (.inl gr)))]) fw_Sampler_41 2 rfl (rfl) (rfl) (Nat.le_of_ble_eq_true rfl) dX5_answer_5 rfl ?_
  refine v_aload_n 1 dX5_answer_8 rfl rfl ?_
  refine v_get f_Sampler_27 1 rfl rfl dX5_answer_9 ?_
  refine v_tableIn (off := 68) (tgt := 80) dX5_answer_12 (by decide) (by decide) (by decide) (by decide) ?_
  refine v_aload_n 0 dX5_answer_80 rfl rfl ?_
  refine v_get f_Sampler_9 0 rfl rfl dX5_answer_81 ?_
  refine v_aload_n 1 dX5_answer_84 rfl rfl ?_
  refine v_get f_Sampler_33 1 rfl rfl dX5_answer_85 ?_
  refine v_aald 2 10 rfl rfl (by omega) (by omega) dX5_answer_88 ?_
  refine v_top (y := .ref tb) (by rw [htf]; rfl) ?_
  refine v_aload_n 0 dX5_answer_89 rfl rfl ?_
  refine v_get f_Sampler_15 0 rfl rfl dX5_answer_90 ?_
  refine v_callV (as := [.ref d]) (rest := []) (ws' := fun u => [(sa, .inr (5, [.ref tq, .ref lq, .ref d, .ref o])), (oo, .inr (3, [.int (nI 0), .int (nI x), .int b1, .int c1])), (o, .inr (4, [.ref d, .ref st, .ref us, .ref pe, .ref it, .int (nI 0)])), (d, .inr (0, [.ref w, .int (nI fr), .int (nI u.2.2.1), .int (nI e), .int (dI u.2.2.2)])), (w, .inl (cI, n, .inl f)), (st, .inl (cI, 256, .inl gs)), (us, .inl (cI, 128, .inl gu)), (pe, .inl (cI, 128, .inl gpe)), (it, .inl (cI, 256, .inl gi)), (lq, .inr (1, [.ref d])), (tq, .inl (cT, 8, .inr (.inr (.inr (.inr tf))))), (tb, .inr (6, [.ref wq, .ref sq, .ref pq, .ref rq, .int (nI mm), .int (nI ((topN W 64))), .long (lN ((sumN W 64)))])), (wq, .inl (cI, 64, .inl gw)), (pq, .inl (cI, 64, .inl gp)), (rq, .inl (cJ, 64, .inr (.inl u.1)))]) m_Sampler_46 (kX6_pick X.l (m := nI mm) (tb := tb) (wq := wq) (sq := sq) (pq := pq) (rq := rq) (d := d) (w := w) (n := n) (f := f) (fr := fr) (p := p) (e := e) (dr := dr) (mm := mm) (gw := gw) (gp := gp) (gr := gr) (W := W) hp he hn hdr hmm h0 hW hWb hal) k_code_X6_pick [11, 12, 13, 14, 3, 4] 11 rfl rfl rfl rfl dX5_answer_93 (Nat.le_of_ble_eq_true rfl) ⟨rfl, rfl, by decide, by decide⟩ ⟨Nat.zero_le _, Nat.zero_le _⟩ rfl rfl (fun _ => rfl) (fun _ => rfl) ?_
  intro u93 c93
  obtain ⟨g1, r1, p1, d1⟩ := u93
  try dsimp only at c93
  show V (gG D cI cJ cT) X (rmD 5) cX5_answer 2 RX5 [(sa, .inr (5, [.ref tq, .ref lq, .ref d, .ref o])), (oo, .inr (3, [.int (nI 0), .int (nI x), .int b1, .int c1])), (o, .inr (4, [.ref d, .ref st, .ref us, .ref pe, .ref it, .int (nI 0)])), (d, .inr (0, [.ref w, .int (nI fr), .int (nI p1), .int (nI e), .int (dI d1)])), (w, .inl (cI, n, .inl f)), (st, .inl (cI, 256, .inl gs)), (us, .inl (cI, 128, .inl gu)), (pe, .inl (cI, 128, .inl gpe)), (it, .inl (cI, 256, .inl gi)), (lq, .inr (1, [.ref d])), (tq, .inl (cT, 8, .inr (.inr (.inr (.inr tf))))), (tb, .inr (6, [.ref wq, .ref sq, .ref pq, .ref rq, .int (nI mm), .int (nI ((topN W 64))), .long (lN ((sumN W 64)))])), (wq, .inl (cI, 64, .inl gw)), (pq, .inl (cI, 64, .inl gp)), (rq, .inl (cJ, 64, .inr (.inl g1)))] 0 0 [(0, .ref sa), (1, .ref oo)] 96 [.int (nI r1)]
  have hr1 : r1 < 64 := c93.2.1
  refine v_i2l (v := lN r1) dX5_answer_96 (nI_l (by omega)) ?_
  exact v_lret hE dX5_answer_97 (lN r1, 0, gs, gu, gpe, gi, g1, p1, d1) (⟨Rl_oM c93.1, Nat.zero_le _, c93.2.2⟩) rfl rfl
set_option maxRecDepth 100000 in
set_option maxHeartbeats 4000000 in
theorem kX5_answer_1 {D : va_G} {cI cJ cT : ClassId} (l : Launch) {sa oo o d w st us pe it lq tq tb wq sq pq rq n : Nat} {f : Nat → Int32} {fr p e : Nat} {dr : Bool} {gs gu gpe gi gw gp : Nat → Int32} {gr : Nat → Int64} {tf : Nat → Option Nat} {s0 : Int32} {x y z mm : Nat} {W : Nat → Nat} {c1 mI : Int32} {tp sm : Nat} (hp : p ≤ e) (he : e ≤ 32 * n) (hn : n ≤ 512) (hdr : dr = true → p = e) (hx : x < 2 ^ 31) (hy : y ≤ 511) (hw1 : 1 ≤ x + 2147483648 * y) : Fn (S := Int64 × Nat × (Nat → Int32) × (Nat → Int32) × (Nat → Int32) × (Nat → Int32) × (Nat → Int64) × Nat × Bool) (gG D cI cJ cT) l yX5_answer (.code yX5_answer cX5_answer 2 (some .long)) (rmD 5) [.ref sa, .ref oo] [(sa, .inr (5, [.ref tq, .ref lq, .ref d, .ref o])), (oo, .inr (3, [.int (nI 1), .int (nI x), .int (nI y), .int c1])), (o, .inr (4, [.ref d, .ref st, .ref us, .ref pe, .ref it, .int s0])), (d, .inr (0, [.ref w, .int (nI fr), .int (nI p), .int (nI e), .int (dI dr)])), (w, .inl (cI, n, .inl f)), (st, .inl (cI, 256, .inl gs)), (us, .inl (cI, 128, .inl gu)), (pe, .inl (cI, 128, .inl gpe)), (it, .inl (cI, 256, .inl gi)), (lq, .inr (1, [.ref d])), (tq, .inl (cT, 8, .inr (.inr (.inr (.inr tf))))), (tb, .inr (6, [.ref wq, .ref sq, .ref pq, .ref rq, .int mI, .int (nI tp), .long (lN sm)])), (wq, .inl (cI, 64, .inl gw)), (pq, .inl (cI, 64, .inl gp)), (rq, .inl (cJ, 64, .inr (.inl gr)))] (fun u => Rg (sAns (bitW f) e 1 x y z W mm p) e p dr (mA u.1 u.2.1 u.2.2.2.2.2.1) u.2.2.2.2.2.2.2.1 u.2.2.2.2.2.2.2.2 ∧ u.2.1 ≤ 256 ∧ (mm = 1 → u.2.2.2.2.2.2.1 = gr)) (fun u => some (.long u.1)) (fun u => [(sa, .inr (5, [.ref tq, .ref lq, .ref d, .ref o])), (oo, .inr (3, [.int (nI 1), .int (nI x), .int (nI y), .int c1])), (o, .inr (4, [.ref d, .ref st, .ref us, .ref pe, .ref it, .int (nI u.2.1)])), (d, .inr (0, [.ref w, .int (nI fr), .int (nI u.2.2.2.2.2.2.2.1), .int (nI e), .int (dI u.2.2.2.2.2.2.2.2)])), (w, .inl (cI, n, .inl f)), (st, .inl (cI, 256, .inl u.2.2.1)), (us, .inl (cI, 128, .inl u.2.2.2.1)), (pe, .inl (cI, 128, .inl u.2.2.2.2.1)), (it, .inl (cI, 256, .inl u.2.2.2.2.2.1)), (lq, .inr (1, [.ref d])), (tq, .inl (cT, 8, .inr (.inr (.inr (.inr tf))))), (tb, .inr (6, [.ref wq, .ref sq, .ref pq, .ref rq, .int mI, .int (nI tp), .long (lN sm)])), (wq, .inl (cI, 64, .inl gw)), (pq, .inl (cI, 64, .inl gp)), (rq, .inl (cJ, 64, .inr (.inl u.2.2.2.2.2.2.1)))]) := by
  refine Fn.intro (by decide) (Nat.le_of_ble_eq_true rfl) ?_
  intro X hX hE hin
  subst hX
  show V (gG D cI cJ cT) X _ cX5_answer 2 RX5 _ 0 0 [(0, .ref sa), (1, .ref oo)] 0 []
  refine v_aload_n 0 dX5_answer_0 rfl rfl ?_
  refine v_get f_Sampler_23 0 rfl rfl dX5_answer_1 ?_
  refine v_iconst (v := nI 0) dX5_answer_4 (by decide) ?_
  refine v_put (ws' := [(sa, .inr (5, [.ref tq, .ref lq, .ref d, .ref o])), (oo, .inr (3, [.int (nI 1), .int (nI x), .int (nI y), .int c1])), (o, .inr (4, [.ref d, .ref st, .ref us, .ref pe, .ref it, .int (nI 0)])), (d, .inr (0, [.ref w, .int (nI fr), .int (nI p), .int (nI e), .int (dI dr)])), (w, .inl (cI, n, .inl f)), (st, .inl (cI, 256, .inl gs)), (us, .inl (cI, 128, .inl gu)), (pe, .inl (cI, 128, .inl gpe)), (it, .inl (cI, 256, .inl gi)), (lq, .inr (1, [.ref d])), (tq, .inl (cT, 8, .inr (.inr (.inr (.inr tf))))), (tb, .inr (6, [.ref wq, .ref sq, .ref pq, .ref rq, .int mI, .int (nI tp), .long (lN sm)])), (wq, .inl (cI, 64, .inl gw)), (pq, .inl (cI, 64, .inl gp)), (rq, .inl (cJ, 64, .inr (.inl gr)))]) fw_Sampler_41 2 rfl (rfl) (rfl) (Nat.le_of_ble_eq_true rfl) dX5_answer_5 rfl ?_
  refine v_aload_n 1 dX5_answer_8 rfl rfl ?_
  refine v_get f_Sampler_27 1 rfl rfl dX5_answer_9 ?_
  refine v_tableIn (off := 86) (tgt := 98) dX5_answer_12 (by decide) (by decide) (by decide) (by decide) ?_
  refine v_aload_n 0 dX5_answer_98 rfl rfl ?_
  refine v_get f_Sampler_15 0 rfl rfl dX5_answer_99 ?_
  refine v_aload_n 1 dX5_answer_102 rfl rfl ?_
  refine v_callV (as := []) (rest := [.ref d]) (ws' := fun u => [(sa, .inr (5, [.ref tq, .ref lq, .ref d, .ref o])), (oo, .inr (3, [.int (nI 1), .int (nI x), .int (nI y), .int c1])), (o, .inr (4, [.ref d, .ref st, .ref us, .ref pe, .ref it, .int (nI 0)])), (d, .inr (0, [.ref w, .int (nI fr), .int (nI p), .int (nI e), .int (dI dr)])), (w, .inl (cI, n, .inl f)), (st, .inl (cI, 256, .inl gs)), (us, .inl (cI, 128, .inl gu)), (pe, .inl (cI, 128, .inl gpe)), (it, .inl (cI, 256, .inl gi)), (lq, .inr (1, [.ref d])), (tq, .inl (cT, 8, .inr (.inr (.inr (.inr tf))))), (tb, .inr (6, [.ref wq, .ref sq, .ref pq, .ref rq, .int mI, .int (nI tp), .long (lN sm)])), (wq, .inl (cI, 64, .inl gw)), (pq, .inl (cI, 64, .inl gp)), (rq, .inl (cJ, 64, .inr (.inl gr)))]) m_Sampler_50 (kX3_width X.l (oo := oo) (kd := nI 1) (a := nI x) (b := nI y) (c := c1)) k_code_X3_width [1] 1 rfl rfl rfl rfl dX5_answer_103 (Nat.le_of_ble_eq_true rfl) ⟨rfl, rfl, by decide, by decide⟩ ⟨Nat.zero_le _, Nat.zero_le _⟩ rfl rfl (fun _ => rfl) (fun _ => rfl) ?_
  intro uu c103
  try dsimp only at c103
  show V (gG D cI cJ cT) X (rmD 5) cX5_answer 2 RX5 [(sa, .inr (5, [.ref tq, .ref lq, .ref d, .ref o])), (oo, .inr (3, [.int (nI 1), .int (nI x), .int (nI y), .int c1])), (o, .inr (4, [.ref d, .ref st, .ref us, .ref pe, .ref it, .int (nI 0)])), (d, .inr (0, [.ref w, .int (nI fr), .int (nI p), .int (nI e), .int (dI dr)])), (w, .inl (cI, n, .inl f)), (st, .inl (cI, 256, .inl gs)), (us, .inl (cI, 128, .inl gu)), (pe, .inl (cI, 128, .inl gpe)), (it, .inl (cI, 256, .inl gi)), (lq, .inr (1, [.ref d])), (tq, .inl (cT, 8, .inr (.inr (.inr (.inr tf))))), (tb, .inr (6, [.ref wq, .ref sq, .ref pq, .ref rq, .int mI, .int (nI tp), .long (lN sm)])), (wq, .inl (cI, 64, .inl gw)), (pq, .inl (cI, 64, .inl gp)), (rq, .inl (cJ, 64, .inr (.inl gr)))] 0 0 [(0, .ref sa), (1, .ref oo)] 106 [.long (wd (nI x) (nI y)), .ref d]
  refine v_topl (y := lN (x + 2147483648 * y)) (by unfold wd; rw [nI_l (by omega), nI_l (by omega), show (2147483648 : Int64) = lN 2147483648 by decide, lN_mul, lN_add]) ?_
  refine v_callV (as := [.long (lN (x + 2147483648 * y))]) (rest := []) (ws' := fun u => [(sa, .inr (5, [.ref tq, .ref lq, .ref d, .ref o])), (oo, .inr (3, [.int (nI 1), .int (nI x), .int (nI y), .int c1])), (o, .inr (4, [.ref d, .ref st, .ref us, .ref pe, .ref it, .int (nI 0)])), (d, .inr (0, [.ref w, .int (nI fr), .int (nI u.2.1), .int (nI e), .int (dI u.2.2)])), (w, .inl (cI, n, .inl f)), (st, .inl (cI, 256, .inl gs)), (us, .inl (cI, 128, .inl gu)), (pe, .inl (cI, 128, .inl gpe)), (it, .inl (cI, 256, .inl gi)), (lq, .inr (1, [.ref d])), (tq, .inl (cT, 8, .inr (.inr (.inr (.inr tf))))), (tb, .inr (6, [.ref wq, .ref sq, .ref pq, .ref rq, .int mI, .int (nI tp), .long (lN sm)])), (wq, .inl (cI, 64, .inl gw)), (pq, .inl (cI, 64, .inl gp)), (rq, .inl (cJ, 64, .inr (.inl gr)))]) m_Sampler_54 (kX0_uniform X.l (d := d) (w := w) (n := n) (f := f) (fr := fr) (p := p) (e := e) (dr := dr) (nn := x + 2147483648 * y) hp he hn hdr (by omega) (by omega)) k_code_X0_uniform [3, 4] 3 rfl rfl rfl rfl dX5_answer_106 (Nat.le_of_ble_eq_true rfl) ⟨rfl, rfl, by decide, by decide⟩ ⟨Nat.zero_le _, Nat.zero_le _⟩ rfl rfl (fun _ => rfl) (fun _ => rfl) ?_
  intro u106 c106
  obtain ⟨r1, p1, d1⟩ := u106
  try dsimp only at c106
  show V (gG D cI cJ cT) X (rmD 5) cX5_answer 2 RX5 [(sa, .inr (5, [.ref tq, .ref lq, .ref d, .ref o])), (oo, .inr (3, [.int (nI 1), .int (nI x), .int (nI y), .int c1])), (o, .inr (4, [.ref d, .ref st, .ref us, .ref pe, .ref it, .int (nI 0)])), (d, .inr (0, [.ref w, .int (nI fr), .int (nI p1), .int (nI e), .int (dI d1)])), (w, .inl (cI, n, .inl f)), (st, .inl (cI, 256, .inl gs)), (us, .inl (cI, 128, .inl gu)), (pe, .inl (cI, 128, .inl gpe)), (it, .inl (cI, 256, .inl gi)), (lq, .inr (1, [.ref d])), (tq, .inl (cT, 8, .inr (.inr (.inr (.inr tf))))), (tb, .inr (6, [.ref wq, .ref sq, .ref pq, .ref rq, .int mI, .int (nI tp), .long (lN sm)])), (wq, .inl (cI, 64, .inl gw)), (pq, .inl (cI, 64, .inl gp)), (rq, .inl (cJ, 64, .inr (.inl gr)))] 0 0 [(0, .ref sa), (1, .ref oo)] 109 [.long (lN r1)]
  exact v_lret hE dX5_answer_109 (lN r1, 0, gs, gu, gpe, gi, gr, p1, d1) (⟨Rl_oM c106.1, Nat.zero_le _, fun _ => rfl⟩) rfl rfl
set_option maxRecDepth 100000 in
set_option maxHeartbeats 4000000 in
theorem kX5_answer_2 {D : va_G} {cI cJ cT : ClassId} (l : Launch) {sa oo o d w st us pe it lq tq tb wq sq pq rq n : Nat} {f : Nat → Int32} {fr p e : Nat} {dr : Bool} {gs gu gpe gi gw gp : Nat → Int32} {gr : Nat → Int64} {tf : Nat → Option Nat} {s0 : Int32} {x y z mm : Nat} {W : Nat → Nat} {c1 mI : Int32} {tp sm : Nat} (hp : p ≤ e) (he : e ≤ 32 * n) (hn : n ≤ 512) (hdr : dr = true → p = e) (hx : x ≤ y) (hy : y < 2 ^ 31) : Fn (S := Int64 × Nat × (Nat → Int32) × (Nat → Int32) × (Nat → Int32) × (Nat → Int32) × (Nat → Int64) × Nat × Bool) (gG D cI cJ cT) l yX5_answer (.code yX5_answer cX5_answer 2 (some .long)) (rmD 5) [.ref sa, .ref oo] [(sa, .inr (5, [.ref tq, .ref lq, .ref d, .ref o])), (oo, .inr (3, [.int (nI 2), .int (nI x), .int (nI y), .int c1])), (o, .inr (4, [.ref d, .ref st, .ref us, .ref pe, .ref it, .int s0])), (d, .inr (0, [.ref w, .int (nI fr), .int (nI p), .int (nI e), .int (dI dr)])), (w, .inl (cI, n, .inl f)), (st, .inl (cI, 256, .inl gs)), (us, .inl (cI, 128, .inl gu)), (pe, .inl (cI, 128, .inl gpe)), (it, .inl (cI, 256, .inl gi)), (lq, .inr (1, [.ref d])), (tq, .inl (cT, 8, .inr (.inr (.inr (.inr tf))))), (tb, .inr (6, [.ref wq, .ref sq, .ref pq, .ref rq, .int mI, .int (nI tp), .long (lN sm)])), (wq, .inl (cI, 64, .inl gw)), (pq, .inl (cI, 64, .inl gp)), (rq, .inl (cJ, 64, .inr (.inl gr)))] (fun u => Rg (sAns (bitW f) e 2 x y z W mm p) e p dr (mA u.1 u.2.1 u.2.2.2.2.2.1) u.2.2.2.2.2.2.2.1 u.2.2.2.2.2.2.2.2 ∧ u.2.1 ≤ 256 ∧ (mm = 1 → u.2.2.2.2.2.2.1 = gr)) (fun u => some (.long u.1)) (fun u => [(sa, .inr (5, [.ref tq, .ref lq, .ref d, .ref o])), (oo, .inr (3, [.int (nI 2), .int (nI x), .int (nI y), .int c1])), (o, .inr (4, [.ref d, .ref st, .ref us, .ref pe, .ref it, .int (nI u.2.1)])), (d, .inr (0, [.ref w, .int (nI fr), .int (nI u.2.2.2.2.2.2.2.1), .int (nI e), .int (dI u.2.2.2.2.2.2.2.2)])), (w, .inl (cI, n, .inl f)), (st, .inl (cI, 256, .inl u.2.2.1)), (us, .inl (cI, 128, .inl u.2.2.2.1)), (pe, .inl (cI, 128, .inl u.2.2.2.2.1)), (it, .inl (cI, 256, .inl u.2.2.2.2.2.1)), (lq, .inr (1, [.ref d])), (tq, .inl (cT, 8, .inr (.inr (.inr (.inr tf))))), (tb, .inr (6, [.ref wq, .ref sq, .ref pq, .ref rq, .int mI, .int (nI tp), .long (lN sm)])), (wq, .inl (cI, 64, .inl gw)), (pq, .inl (cI, 64, .inl gp)), (rq, .inl (cJ, 64, .inr (.inl u.2.2.2.2.2.2.1)))]) := by
  refine Fn.intro (by decide) (Nat.le_of_ble_eq_true rfl) ?_
  intro X hX hE hin
  subst hX
  show V (gG D cI cJ cT) X _ cX5_answer 2 RX5 _ 0 0 [(0, .ref sa), (1, .ref oo)] 0 []
  refine v_aload_n 0 dX5_answer_0 rfl rfl ?_
  refine v_get f_Sampler_23 0 rfl rfl dX5_answer_1 ?_
  refine v_iconst (v := nI 0) dX5_answer_4 (by decide) ?_
  refine v_put (ws' := [(sa, .inr (5, [.ref tq, .ref lq, .ref d, .ref o])), (oo, .inr (3, [.int (nI 2), .int (nI x), .int (nI y), .int c1])), (o, .inr (4, [.ref d, .ref st, .ref us, .ref pe, .ref it, .int (nI 0)])), (d, .inr (0, [.ref w, .int (nI fr), .int (nI p), .int (nI e), .int (dI dr)])), (w, .inl (cI, n, .inl f)), (st, .inl (cI, 256, .inl gs)), (us, .inl (cI, 128, .inl gu)), (pe, .inl (cI, 128, .inl gpe)), (it, .inl (cI, 256, .inl gi)), (lq, .inr (1, [.ref d])), (tq, .inl (cT, 8, .inr (.inr (.inr (.inr tf))))), (tb, .inr (6, [.ref wq, .ref sq, .ref pq, .ref rq, .int mI, .int (nI tp), .long (lN sm)])), (wq, .inl (cI, 64, .inl gw)), (pq, .inl (cI, 64, .inl gp)), (rq, .inl (cJ, 64, .inr (.inl gr)))]) fw_Sampler_41 2 rfl (rfl) (rfl) (Nat.le_of_ble_eq_true rfl) dX5_answer_5 rfl ?_
  refine v_aload_n 1 dX5_answer_8 rfl rfl ?_
  refine v_get f_Sampler_27 1 rfl rfl dX5_answer_9 ?_
  refine v_tableIn (off := 98) (tgt := 110) dX5_answer_12 (by decide) (by decide) (by decide) (by decide) ?_
  refine v_aload_n 0 dX5_answer_110 rfl rfl ?_
  refine v_get f_Sampler_15 0 rfl rfl dX5_answer_111 ?_
  refine v_aload_n 1 dX5_answer_114 rfl rfl ?_
  refine v_get f_Sampler_33 1 rfl rfl dX5_answer_115 ?_
  refine v_i2l (v := lN x) dX5_answer_118 (nI_l (by omega)) ?_
  refine v_aload_n 1 dX5_answer_119 rfl rfl ?_
  refine v_get f_Sampler_60 1 rfl rfl dX5_answer_120 ?_
  refine v_i2l (v := lN y) dX5_answer_123 (nI_l (by omega)) ?_
  refine v_callV (as := [.long (lN x), .long (lN y)]) (rest := []) (ws' := fun u => [(sa, .inr (5, [.ref tq, .ref lq, .ref d, .ref o])), (oo, .inr (3, [.int (nI 2), .int (nI x), .int (nI y), .int c1])), (o, .inr (4, [.ref d, .ref st, .ref us, .ref pe, .ref it, .int (nI 0)])), (d, .inr (0, [.ref w, .int (nI fr), .int (nI u.2.1), .int (nI e), .int (dI u.2.2)])), (w, .inl (cI, n, .inl f)), (st, .inl (cI, 256, .inl gs)), (us, .inl (cI, 128, .inl gu)), (pe, .inl (cI, 128, .inl gpe)), (it, .inl (cI, 256, .inl gi)), (lq, .inr (1, [.ref d])), (tq, .inl (cT, 8, .inr (.inr (.inr (.inr tf))))), (tb, .inr (6, [.ref wq, .ref sq, .ref pq, .ref rq, .int mI, .int (nI tp), .long (lN sm)])), (wq, .inl (cI, 64, .inl gw)), (pq, .inl (cI, 64, .inl gp)), (rq, .inl (cJ, 64, .inr (.inl gr)))]) m_Sampler_63 (kX0_coin X.l (d := d) (w := w) (n := n) (f := f) (fr := fr) (p := p) (e := e) (dr := dr) (num := x) (den := y) hp he hn hdr (by omega) hx) k_code_X0_coin [3, 4] 3 rfl rfl rfl rfl dX5_answer_124 (Nat.le_of_ble_eq_true rfl) ⟨rfl, rfl, by decide, by decide⟩ ⟨Nat.zero_le _, Nat.zero_le _⟩ rfl rfl (fun _ => rfl) (fun _ => rfl) ?_
  intro u124 c124
  obtain ⟨r1, p1, d1⟩ := u124
  try dsimp only at c124
  show V (gG D cI cJ cT) X (rmD 5) cX5_answer 2 RX5 [(sa, .inr (5, [.ref tq, .ref lq, .ref d, .ref o])), (oo, .inr (3, [.int (nI 2), .int (nI x), .int (nI y), .int c1])), (o, .inr (4, [.ref d, .ref st, .ref us, .ref pe, .ref it, .int (nI 0)])), (d, .inr (0, [.ref w, .int (nI fr), .int (nI p1), .int (nI e), .int (dI d1)])), (w, .inl (cI, n, .inl f)), (st, .inl (cI, 256, .inl gs)), (us, .inl (cI, 128, .inl gu)), (pe, .inl (cI, 128, .inl gpe)), (it, .inl (cI, 256, .inl gi)), (lq, .inr (1, [.ref d])), (tq, .inl (cT, 8, .inr (.inr (.inr (.inr tf))))), (tb, .inr (6, [.ref wq, .ref sq, .ref pq, .ref rq, .int mI, .int (nI tp), .long (lN sm)])), (wq, .inl (cI, 64, .inl gw)), (pq, .inl (cI, 64, .inl gp)), (rq, .inl (cJ, 64, .inr (.inl gr)))] 0 0 [(0, .ref sa), (1, .ref oo)] 127 [.int (nI r1)]
  have hr1 : r1 ≤ 1 := c124.2.1
  refine v_i2l (v := lN r1) dX5_answer_127 (nI_l (by omega)) ?_
  exact v_lret hE dX5_answer_128 (lN r1, 0, gs, gu, gpe, gi, gr, p1, d1) (⟨Rl_oM c124.1, Nat.zero_le _, fun _ => rfl⟩) rfl rfl
set_option maxRecDepth 100000 in
set_option maxHeartbeats 4000000 in
theorem kX5_answer_3 {D : va_G} {cI cJ cT : ClassId} (l : Launch) {sa oo o d w st us pe it lq tq tb wq sq pq rq n : Nat} {f : Nat → Int32} {fr p e : Nat} {dr : Bool} {gs gu gpe gi gw gp : Nat → Int32} {gr : Nat → Int64} {tf : Nat → Option Nat} {s0 : Int32} {x y z mm : Nat} {W : Nat → Nat} {mI : Int32} {tp sm : Nat} (hp : p ≤ e) (he : e ≤ 32 * n) (hn : n ≤ 512) (hdr : dr = true → p = e) (hx : x ≤ 1000) (hy : y ≤ z) (hz : z < 2 ^ 31) : Fn (S := Int64 × Nat × (Nat → Int32) × (Nat → Int32) × (Nat → Int32) × (Nat → Int32) × (Nat → Int64) × Nat × Bool) (gG D cI cJ cT) l yX5_answer (.code yX5_answer cX5_answer 2 (some .long)) (rmD 5) [.ref sa, .ref oo] [(sa, .inr (5, [.ref tq, .ref lq, .ref d, .ref o])), (oo, .inr (3, [.int (nI 3), .int (nI x), .int (nI y), .int (nI z)])), (o, .inr (4, [.ref d, .ref st, .ref us, .ref pe, .ref it, .int s0])), (d, .inr (0, [.ref w, .int (nI fr), .int (nI p), .int (nI e), .int (dI dr)])), (w, .inl (cI, n, .inl f)), (st, .inl (cI, 256, .inl gs)), (us, .inl (cI, 128, .inl gu)), (pe, .inl (cI, 128, .inl gpe)), (it, .inl (cI, 256, .inl gi)), (lq, .inr (1, [.ref d])), (tq, .inl (cT, 8, .inr (.inr (.inr (.inr tf))))), (tb, .inr (6, [.ref wq, .ref sq, .ref pq, .ref rq, .int mI, .int (nI tp), .long (lN sm)])), (wq, .inl (cI, 64, .inl gw)), (pq, .inl (cI, 64, .inl gp)), (rq, .inl (cJ, 64, .inr (.inl gr)))] (fun u => Rg (sAns (bitW f) e 3 x y z W mm p) e p dr (mA u.1 u.2.1 u.2.2.2.2.2.1) u.2.2.2.2.2.2.2.1 u.2.2.2.2.2.2.2.2 ∧ u.2.1 ≤ 256 ∧ (mm = 1 → u.2.2.2.2.2.2.1 = gr)) (fun u => some (.long u.1)) (fun u => [(sa, .inr (5, [.ref tq, .ref lq, .ref d, .ref o])), (oo, .inr (3, [.int (nI 3), .int (nI x), .int (nI y), .int (nI z)])), (o, .inr (4, [.ref d, .ref st, .ref us, .ref pe, .ref it, .int (nI u.2.1)])), (d, .inr (0, [.ref w, .int (nI fr), .int (nI u.2.2.2.2.2.2.2.1), .int (nI e), .int (dI u.2.2.2.2.2.2.2.2)])), (w, .inl (cI, n, .inl f)), (st, .inl (cI, 256, .inl u.2.2.1)), (us, .inl (cI, 128, .inl u.2.2.2.1)), (pe, .inl (cI, 128, .inl u.2.2.2.2.1)), (it, .inl (cI, 256, .inl u.2.2.2.2.2.1)), (lq, .inr (1, [.ref d])), (tq, .inl (cT, 8, .inr (.inr (.inr (.inr tf))))), (tb, .inr (6, [.ref wq, .ref sq, .ref pq, .ref rq, .int mI, .int (nI tp), .long (lN sm)])), (wq, .inl (cI, 64, .inl gw)), (pq, .inl (cI, 64, .inl gp)), (rq, .inl (cJ, 64, .inr (.inl u.2.2.2.2.2.2.1)))]) := by
  refine Fn.intro (by decide) (Nat.le_of_ble_eq_true rfl) ?_
  intro X hX hE hin
  subst hX
  show V (gG D cI cJ cT) X _ cX5_answer 2 RX5 _ 0 0 [(0, .ref sa), (1, .ref oo)] 0 []
  refine v_aload_n 0 dX5_answer_0 rfl rfl ?_
  refine v_get f_Sampler_23 0 rfl rfl dX5_answer_1 ?_
  refine v_iconst (v := nI 0) dX5_answer_4 (by decide) ?_
  refine v_put (ws' := [(sa, .inr (5, [.ref tq, .ref lq, .ref d, .ref o])), (oo, .inr (3, [.int (nI 3), .int (nI x), .int (nI y), .int (nI z)])), (o, .inr (4, [.ref d, .ref st, .ref us, .ref pe, .ref it, .int (nI 0)])), (d, .inr (0, [.ref w, .int (nI fr), .int (nI p), .int (nI e), .int (dI dr)])), (w, .inl (cI, n, .inl f)), (st, .inl (cI, 256, .inl gs)), (us, .inl (cI, 128, .inl gu)), (pe, .inl (cI, 128, .inl gpe)), (it, .inl (cI, 256, .inl gi)), (lq, .inr (1, [.ref d])), (tq, .inl (cT, 8, .inr (.inr (.inr (.inr tf))))), (tb, .inr (6, [.ref wq, .ref sq, .ref pq, .ref rq, .int mI, .int (nI tp), .long (lN sm)])), (wq, .inl (cI, 64, .inl gw)), (pq, .inl (cI, 64, .inl gp)), (rq, .inl (cJ, 64, .inr (.inl gr)))]) fw_Sampler_41 2 rfl (rfl) (rfl) (Nat.le_of_ble_eq_true rfl) dX5_answer_5 rfl ?_
  refine v_aload_n 1 dX5_answer_8 rfl rfl ?_
  refine v_get f_Sampler_27 1 rfl rfl dX5_answer_9 ?_
  refine v_tableIn (off := 117) (tgt := 129) dX5_answer_12 (by decide) (by decide) (by decide) (by decide) ?_
  refine v_aload_n 0 dX5_answer_129 rfl rfl ?_
  refine v_get f_Sampler_19 0 rfl rfl dX5_answer_130 ?_
  refine v_aload_n 1 dX5_answer_133 rfl rfl ?_
  refine v_get f_Sampler_33 1 rfl rfl dX5_answer_134 ?_
  refine v_aload_n 1 dX5_answer_137 rfl rfl ?_
  refine v_get f_Sampler_60 1 rfl rfl dX5_answer_138 ?_
  refine v_aload_n 1 dX5_answer_141 rfl rfl ?_
  refine v_get f_Sampler_67 1 rfl rfl dX5_answer_142 ?_
  refine v_callV (as := [.int (nI x), .int (nI y), .int (nI z)]) (rest := []) (ws' := fun u => [(sa, .inr (5, [.ref tq, .ref lq, .ref d, .ref o])), (oo, .inr (3, [.int (nI 3), .int (nI x), .int (nI y), .int (nI z)])), (o, .inr (4, [.ref d, .ref st, .ref us, .ref pe, .ref it, .int (nI 0)])), (d, .inr (0, [.ref w, .int (nI fr), .int (nI u.2.1), .int (nI e), .int (dI u.2.2)])), (w, .inl (cI, n, .inl f)), (st, .inl (cI, 256, .inl gs)), (us, .inl (cI, 128, .inl gu)), (pe, .inl (cI, 128, .inl gpe)), (it, .inl (cI, 256, .inl gi)), (lq, .inr (1, [.ref d])), (tq, .inl (cT, 8, .inr (.inr (.inr (.inr tf))))), (tb, .inr (6, [.ref wq, .ref sq, .ref pq, .ref rq, .int mI, .int (nI tp), .long (lN sm)])), (wq, .inl (cI, 64, .inl gw)), (pq, .inl (cI, 64, .inl gp)), (rq, .inl (cJ, 64, .inr (.inl gr)))]) m_Sampler_70 (kX1_binomial X.l (q := lq) (d := d) (w := w) (n := n) (f := f) (fr := fr) (p := p) (e := e) (dr := dr) (nn := x) (num := y) (den := z) hp he hn hdr hx hy hz) k_code_X1_binomial [9, 3, 4] 9 rfl rfl rfl rfl dX5_answer_145 (Nat.le_of_ble_eq_true rfl) ⟨rfl, rfl, by decide, by decide⟩ ⟨Nat.zero_le _, Nat.zero_le _⟩ rfl rfl (fun _ => rfl) (fun _ => rfl) ?_
  intro u145 c145
  obtain ⟨r1, p1, d1⟩ := u145
  try dsimp only at c145
  show V (gG D cI cJ cT) X (rmD 5) cX5_answer 2 RX5 [(sa, .inr (5, [.ref tq, .ref lq, .ref d, .ref o])), (oo, .inr (3, [.int (nI 3), .int (nI x), .int (nI y), .int (nI z)])), (o, .inr (4, [.ref d, .ref st, .ref us, .ref pe, .ref it, .int (nI 0)])), (d, .inr (0, [.ref w, .int (nI fr), .int (nI p1), .int (nI e), .int (dI d1)])), (w, .inl (cI, n, .inl f)), (st, .inl (cI, 256, .inl gs)), (us, .inl (cI, 128, .inl gu)), (pe, .inl (cI, 128, .inl gpe)), (it, .inl (cI, 256, .inl gi)), (lq, .inr (1, [.ref d])), (tq, .inl (cT, 8, .inr (.inr (.inr (.inr tf))))), (tb, .inr (6, [.ref wq, .ref sq, .ref pq, .ref rq, .int mI, .int (nI tp), .long (lN sm)])), (wq, .inl (cI, 64, .inl gw)), (pq, .inl (cI, 64, .inl gp)), (rq, .inl (cJ, 64, .inr (.inl gr)))] 0 0 [(0, .ref sa), (1, .ref oo)] 148 [.int (nI r1)]
  have hr1 : r1 ≤ x := c145.2
  refine v_i2l (v := lN r1) dX5_answer_148 (nI_l (by omega)) ?_
  exact v_lret hE dX5_answer_149 (lN r1, 0, gs, gu, gpe, gi, gr, p1, d1) (⟨Rl_oM c145.1, Nat.zero_le _, fun _ => rfl⟩) rfl rfl
set_option maxRecDepth 100000 in
set_option maxHeartbeats 4000000 in
theorem kX5_answer_4 {D : va_G} {cI cJ cT : ClassId} (l : Launch) {sa oo o d w st us pe it lq tq tb wq sq pq rq n : Nat} {f : Nat → Int32} {fr p e : Nat} {dr : Bool} {gs gu gpe gi gw gp : Nat → Int32} {gr : Nat → Int64} {tf : Nat → Option Nat} {s0 : Int32} {x y z mm : Nat} {W : Nat → Nat} {mI : Int32} {tp sm : Nat} (hp : p ≤ e) (he : e ≤ 32 * n) (hn : n ≤ 512) (hdr : dr = true → p = e) (hx : x ≤ y) (hy : y < 2 ^ 31) (hz : z ≤ 100000) : Fn (S := Int64 × Nat × (Nat → Int32) × (Nat → Int32) × (Nat → Int32) × (Nat → Int32) × (Nat → Int64) × Nat × Bool) (gG D cI cJ cT) l yX5_answer (.code yX5_answer cX5_answer 2 (some .long)) (rmD 5) [.ref sa, .ref oo] [(sa, .inr (5, [.ref tq, .ref lq, .ref d, .ref o])), (oo, .inr (3, [.int (nI 4), .int (nI x), .int (nI y), .int (nI z)])), (o, .inr (4, [.ref d, .ref st, .ref us, .ref pe, .ref it, .int s0])), (d, .inr (0, [.ref w, .int (nI fr), .int (nI p), .int (nI e), .int (dI dr)])), (w, .inl (cI, n, .inl f)), (st, .inl (cI, 256, .inl gs)), (us, .inl (cI, 128, .inl gu)), (pe, .inl (cI, 128, .inl gpe)), (it, .inl (cI, 256, .inl gi)), (lq, .inr (1, [.ref d])), (tq, .inl (cT, 8, .inr (.inr (.inr (.inr tf))))), (tb, .inr (6, [.ref wq, .ref sq, .ref pq, .ref rq, .int mI, .int (nI tp), .long (lN sm)])), (wq, .inl (cI, 64, .inl gw)), (pq, .inl (cI, 64, .inl gp)), (rq, .inl (cJ, 64, .inr (.inl gr)))] (fun u => Rg (sAns (bitW f) e 4 x y z W mm p) e p dr (mA u.1 u.2.1 u.2.2.2.2.2.1) u.2.2.2.2.2.2.2.1 u.2.2.2.2.2.2.2.2 ∧ u.2.1 ≤ 256 ∧ (mm = 1 → u.2.2.2.2.2.2.1 = gr)) (fun u => some (.long u.1)) (fun u => [(sa, .inr (5, [.ref tq, .ref lq, .ref d, .ref o])), (oo, .inr (3, [.int (nI 4), .int (nI x), .int (nI y), .int (nI z)])), (o, .inr (4, [.ref d, .ref st, .ref us, .ref pe, .ref it, .int (nI u.2.1)])), (d, .inr (0, [.ref w, .int (nI fr), .int (nI u.2.2.2.2.2.2.2.1), .int (nI e), .int (dI u.2.2.2.2.2.2.2.2)])), (w, .inl (cI, n, .inl f)), (st, .inl (cI, 256, .inl u.2.2.1)), (us, .inl (cI, 128, .inl u.2.2.2.1)), (pe, .inl (cI, 128, .inl u.2.2.2.2.1)), (it, .inl (cI, 256, .inl u.2.2.2.2.2.1)), (lq, .inr (1, [.ref d])), (tq, .inl (cT, 8, .inr (.inr (.inr (.inr tf))))), (tb, .inr (6, [.ref wq, .ref sq, .ref pq, .ref rq, .int mI, .int (nI tp), .long (lN sm)])), (wq, .inl (cI, 64, .inl gw)), (pq, .inl (cI, 64, .inl gp)), (rq, .inl (cJ, 64, .inr (.inl u.2.2.2.2.2.2.1)))]) := by
  refine Fn.intro (by decide) (Nat.le_of_ble_eq_true rfl) ?_
  intro X hX hE hin
  subst hX
  show V (gG D cI cJ cT) X _ cX5_answer 2 RX5 _ 0 0 [(0, .ref sa), (1, .ref oo)] 0 []
  refine v_aload_n 0 dX5_answer_0 rfl rfl ?_
  refine v_get f_Sampler_23 0 rfl rfl dX5_answer_1 ?_
  refine v_iconst (v := nI 0) dX5_answer_4 (by decide) ?_
  refine v_put (ws' := [(sa, .inr (5, [.ref tq, .ref lq, .ref d, .ref o])), (oo, .inr (3, [.int (nI 4), .int (nI x), .int (nI y), .int (nI z)])), (o, .inr (4, [.ref d, .ref st, .ref us, .ref pe, .ref it, .int (nI 0)])), (d, .inr (0, [.ref w, .int (nI fr), .int (nI p), .int (nI e), .int (dI dr)])), (w, .inl (cI, n, .inl f)), (st, .inl (cI, 256, .inl gs)), (us, .inl (cI, 128, .inl gu)), (pe, .inl (cI, 128, .inl gpe)), (it, .inl (cI, 256, .inl gi)), (lq, .inr (1, [.ref d])), (tq, .inl (cT, 8, .inr (.inr (.inr (.inr tf))))), (tb, .inr (6, [.ref wq, .ref sq, .ref pq, .ref rq, .int mI, .int (nI tp), .long (lN sm)])), (wq, .inl (cI, 64, .inl gw)), (pq, .inl (cI, 64, .inl gp)), (rq, .inl (cJ, 64, .inr (.inl gr)))]) fw_Sampler_41 2 rfl (rfl) (rfl) (Nat.le_of_ble_eq_true rfl) dX5_answer_5 rfl ?_
  refine v_aload_n 1 dX5_answer_8 rfl rfl ?_
  refine v_get f_Sampler_27 1 rfl rfl dX5_answer_9 ?_
  refine v_tableIn (off := 138) (tgt := 150) dX5_answer_12 (by decide) (by decide) (by decide) (by decide) ?_
  refine v_aload_n 0 dX5_answer_150 rfl rfl ?_
  refine v_get f_Sampler_19 0 rfl rfl dX5_answer_151 ?_
  refine v_aload_n 1 dX5_answer_154 rfl rfl ?_
  refine v_get f_Sampler_33 1 rfl rfl dX5_answer_155 ?_
  refine v_aload_n 1 dX5_answer_158 rfl rfl ?_
  refine v_get f_Sampler_60 1 rfl rfl dX5_answer_159 ?_
  refine v_aload_n 1 dX5_answer_162 rfl rfl ?_
  refine v_get f_Sampler_67 1 rfl rfl dX5_answer_163 ?_
  refine v_callV (as := [.int (nI x), .int (nI y), .int (nI z)]) (rest := []) (ws' := fun u => [(sa, .inr (5, [.ref tq, .ref lq, .ref d, .ref o])), (oo, .inr (3, [.int (nI 4), .int (nI x), .int (nI y), .int (nI z)])), (o, .inr (4, [.ref d, .ref st, .ref us, .ref pe, .ref it, .int (nI 0)])), (d, .inr (0, [.ref w, .int (nI fr), .int (nI u.2.1), .int (nI e), .int (dI u.2.2)])), (w, .inl (cI, n, .inl f)), (st, .inl (cI, 256, .inl gs)), (us, .inl (cI, 128, .inl gu)), (pe, .inl (cI, 128, .inl gpe)), (it, .inl (cI, 256, .inl gi)), (lq, .inr (1, [.ref d])), (tq, .inl (cT, 8, .inr (.inr (.inr (.inr tf))))), (tb, .inr (6, [.ref wq, .ref sq, .ref pq, .ref rq, .int mI, .int (nI tp), .long (lN sm)])), (wq, .inl (cI, 64, .inl gw)), (pq, .inl (cI, 64, .inl gp)), (rq, .inl (cJ, 64, .inr (.inl gr)))]) m_Sampler_76 (kX1_geometric X.l (q := lq) (d := d) (w := w) (n := n) (f := f) (fr := fr) (p := p) (e := e) (dr := dr) (num := x) (den := y) (cap := z) hp he hn hdr hz hx hy) k_code_X1_geometric [9, 3, 4] 9 rfl rfl rfl rfl dX5_answer_166 (Nat.le_of_ble_eq_true rfl) ⟨rfl, rfl, by decide, by decide⟩ ⟨Nat.zero_le _, Nat.zero_le _⟩ rfl rfl (fun _ => rfl) (fun _ => rfl) ?_
  intro u166 c166
  obtain ⟨r1, p1, d1⟩ := u166
  try dsimp only at c166
  show V (gG D cI cJ cT) X (rmD 5) cX5_answer 2 RX5 [(sa, .inr (5, [.ref tq, .ref lq, .ref d, .ref o])), (oo, .inr (3, [.int (nI 4), .int (nI x), .int (nI y), .int (nI z)])), (o, .inr (4, [.ref d, .ref st, .ref us, .ref pe, .ref it, .int (nI 0)])), (d, .inr (0, [.ref w, .int (nI fr), .int (nI p1), .int (nI e), .int (dI d1)])), (w, .inl (cI, n, .inl f)), (st, .inl (cI, 256, .inl gs)), (us, .inl (cI, 128, .inl gu)), (pe, .inl (cI, 128, .inl gpe)), (it, .inl (cI, 256, .inl gi)), (lq, .inr (1, [.ref d])), (tq, .inl (cT, 8, .inr (.inr (.inr (.inr tf))))), (tb, .inr (6, [.ref wq, .ref sq, .ref pq, .ref rq, .int mI, .int (nI tp), .long (lN sm)])), (wq, .inl (cI, 64, .inl gw)), (pq, .inl (cI, 64, .inl gp)), (rq, .inl (cJ, 64, .inr (.inl gr)))] 0 0 [(0, .ref sa), (1, .ref oo)] 169 [.int (nI r1)]
  have hr1 : r1 ≤ z := c166.2
  refine v_i2l (v := lN r1) dX5_answer_169 (nI_l (by omega)) ?_
  exact v_lret hE dX5_answer_170 (lN r1, 0, gs, gu, gpe, gi, gr, p1, d1) (⟨Rl_oM c166.1, Nat.zero_le _, fun _ => rfl⟩) rfl rfl
set_option maxRecDepth 100000 in
set_option maxHeartbeats 4000000 in
theorem kX5_answer_5 {D : va_G} {cI cJ cT : ClassId} (l : Launch) {sa oo o d w st us pe it lq tq tb wq sq pq rq n : Nat} {f : Nat → Int32} {fr p e : Nat} {dr : Bool} {gs gu gpe gi gw gp : Nat → Int32} {gr : Nat → Int64} {tf : Nat → Option Nat} {s0 : Int32} {x y z mm : Nat} {W : Nat → Nat} {c1 mI : Int32} {tp sm : Nat} (hp : p ≤ e) (he : e ≤ 32 * n) (hn : n ≤ 512) (hdr : dr = true → p = e) (hx : x < 2 ^ 31) (hy0 : 0 < y) (hxy : x ≤ 64 * y) (hy : y < 2 ^ 31) : Fn (S := Int64 × Nat × (Nat → Int32) × (Nat → Int32) × (Nat → Int32) × (Nat → Int32) × (Nat → Int64) × Nat × Bool) (gG D cI cJ cT) l yX5_answer (.code yX5_answer cX5_answer 2 (some .long)) (rmD 5) [.ref sa, .ref oo] [(sa, .inr (5, [.ref tq, .ref lq, .ref d, .ref o])), (oo, .inr (3, [.int (nI 5), .int (nI x), .int (nI y), .int c1])), (o, .inr (4, [.ref d, .ref st, .ref us, .ref pe, .ref it, .int s0])), (d, .inr (0, [.ref w, .int (nI fr), .int (nI p), .int (nI e), .int (dI dr)])), (w, .inl (cI, n, .inl f)), (st, .inl (cI, 256, .inl gs)), (us, .inl (cI, 128, .inl gu)), (pe, .inl (cI, 128, .inl gpe)), (it, .inl (cI, 256, .inl gi)), (lq, .inr (1, [.ref d])), (tq, .inl (cT, 8, .inr (.inr (.inr (.inr tf))))), (tb, .inr (6, [.ref wq, .ref sq, .ref pq, .ref rq, .int mI, .int (nI tp), .long (lN sm)])), (wq, .inl (cI, 64, .inl gw)), (pq, .inl (cI, 64, .inl gp)), (rq, .inl (cJ, 64, .inr (.inl gr)))] (fun u => Rg (sAns (bitW f) e 5 x y z W mm p) e p dr (mA u.1 u.2.1 u.2.2.2.2.2.1) u.2.2.2.2.2.2.2.1 u.2.2.2.2.2.2.2.2 ∧ u.2.1 ≤ 256 ∧ (mm = 1 → u.2.2.2.2.2.2.1 = gr)) (fun u => some (.long u.1)) (fun u => [(sa, .inr (5, [.ref tq, .ref lq, .ref d, .ref o])), (oo, .inr (3, [.int (nI 5), .int (nI x), .int (nI y), .int c1])), (o, .inr (4, [.ref d, .ref st, .ref us, .ref pe, .ref it, .int (nI u.2.1)])), (d, .inr (0, [.ref w, .int (nI fr), .int (nI u.2.2.2.2.2.2.2.1), .int (nI e), .int (dI u.2.2.2.2.2.2.2.2)])), (w, .inl (cI, n, .inl f)), (st, .inl (cI, 256, .inl u.2.2.1)), (us, .inl (cI, 128, .inl u.2.2.2.1)), (pe, .inl (cI, 128, .inl u.2.2.2.2.1)), (it, .inl (cI, 256, .inl u.2.2.2.2.2.1)), (lq, .inr (1, [.ref d])), (tq, .inl (cT, 8, .inr (.inr (.inr (.inr tf))))), (tb, .inr (6, [.ref wq, .ref sq, .ref pq, .ref rq, .int mI, .int (nI tp), .long (lN sm)])), (wq, .inl (cI, 64, .inl gw)), (pq, .inl (cI, 64, .inl gp)), (rq, .inl (cJ, 64, .inr (.inl u.2.2.2.2.2.2.1)))]) := by
  refine Fn.intro (by decide) (Nat.le_of_ble_eq_true rfl) ?_
  intro X hX hE hin
  subst hX
  show V (gG D cI cJ cT) X _ cX5_answer 2 RX5 _ 0 0 [(0, .ref sa), (1, .ref oo)] 0 []
  refine v_aload_n 0 dX5_answer_0 rfl rfl ?_
  refine v_get f_Sampler_23 0 rfl rfl dX5_answer_1 ?_
  refine v_iconst (v := nI 0) dX5_answer_4 (by decide) ?_
  refine v_put (ws' := [(sa, .inr (5, [.ref tq, .ref lq, .ref d, .ref o])), (oo, .inr (3, [.int (nI 5), .int (nI x), .int (nI y), .int c1])), (o, .inr (4, [.ref d, .ref st, .ref us, .ref pe, .ref it, .int (nI 0)])), (d, .inr (0, [.ref w, .int (nI fr), .int (nI p), .int (nI e), .int (dI dr)])), (w, .inl (cI, n, .inl f)), (st, .inl (cI, 256, .inl gs)), (us, .inl (cI, 128, .inl gu)), (pe, .inl (cI, 128, .inl gpe)), (it, .inl (cI, 256, .inl gi)), (lq, .inr (1, [.ref d])), (tq, .inl (cT, 8, .inr (.inr (.inr (.inr tf))))), (tb, .inr (6, [.ref wq, .ref sq, .ref pq, .ref rq, .int mI, .int (nI tp), .long (lN sm)])), (wq, .inl (cI, 64, .inl gw)), (pq, .inl (cI, 64, .inl gp)), (rq, .inl (cJ, 64, .inr (.inl gr)))]) fw_Sampler_41 2 rfl (rfl) (rfl) (Nat.le_of_ble_eq_true rfl) dX5_answer_5 rfl ?_
  refine v_aload_n 1 dX5_answer_8 rfl rfl ?_
  refine v_get f_Sampler_27 1 rfl rfl dX5_answer_9 ?_
  refine v_tableIn (off := 159) (tgt := 171) dX5_answer_12 (by decide) (by decide) (by decide) (by decide) ?_
  refine v_aload_n 0 dX5_answer_171 rfl rfl ?_
  refine v_get f_Sampler_19 0 rfl rfl dX5_answer_172 ?_
  refine v_aload_n 1 dX5_answer_175 rfl rfl ?_
  refine v_get f_Sampler_33 1 rfl rfl dX5_answer_176 ?_
  refine v_aload_n 1 dX5_answer_179 rfl rfl ?_
  refine v_get f_Sampler_60 1 rfl rfl dX5_answer_180 ?_
  refine v_callV (as := [.int (nI x), .int (nI y)]) (rest := []) (ws' := fun u => [(sa, .inr (5, [.ref tq, .ref lq, .ref d, .ref o])), (oo, .inr (3, [.int (nI 5), .int (nI x), .int (nI y), .int c1])), (o, .inr (4, [.ref d, .ref st, .ref us, .ref pe, .ref it, .int (nI 0)])), (d, .inr (0, [.ref w, .int (nI fr), .int (nI u.2.1), .int (nI e), .int (dI u.2.2)])), (w, .inl (cI, n, .inl f)), (st, .inl (cI, 256, .inl gs)), (us, .inl (cI, 128, .inl gu)), (pe, .inl (cI, 128, .inl gpe)), (it, .inl (cI, 256, .inl gi)), (lq, .inr (1, [.ref d])), (tq, .inl (cT, 8, .inr (.inr (.inr (.inr tf))))), (tb, .inr (6, [.ref wq, .ref sq, .ref pq, .ref rq, .int mI, .int (nI tp), .long (lN sm)])), (wq, .inl (cI, 64, .inl gw)), (pq, .inl (cI, 64, .inl gp)), (rq, .inl (cJ, 64, .inr (.inl gr)))]) m_Sampler_79 (kX1_poisson X.l (q := lq) (d := d) (w := w) (n := n) (f := f) (fr := fr) (p := p) (e := e) (dr := dr) (num := x) (den := y) hp he hn hdr hx hy0 hxy hy) k_code_X1_poisson [9, 3, 4] 9 rfl rfl rfl rfl dX5_answer_183 (Nat.le_of_ble_eq_true rfl) ⟨rfl, rfl, by decide, by decide⟩ ⟨Nat.zero_le _, Nat.zero_le _⟩ rfl rfl (fun _ => rfl) (fun _ => rfl) ?_
  intro u183 c183
  obtain ⟨r1, p1, d1⟩ := u183
  try dsimp only at c183
  show V (gG D cI cJ cT) X (rmD 5) cX5_answer 2 RX5 [(sa, .inr (5, [.ref tq, .ref lq, .ref d, .ref o])), (oo, .inr (3, [.int (nI 5), .int (nI x), .int (nI y), .int c1])), (o, .inr (4, [.ref d, .ref st, .ref us, .ref pe, .ref it, .int (nI 0)])), (d, .inr (0, [.ref w, .int (nI fr), .int (nI p1), .int (nI e), .int (dI d1)])), (w, .inl (cI, n, .inl f)), (st, .inl (cI, 256, .inl gs)), (us, .inl (cI, 128, .inl gu)), (pe, .inl (cI, 128, .inl gpe)), (it, .inl (cI, 256, .inl gi)), (lq, .inr (1, [.ref d])), (tq, .inl (cT, 8, .inr (.inr (.inr (.inr tf))))), (tb, .inr (6, [.ref wq, .ref sq, .ref pq, .ref rq, .int mI, .int (nI tp), .long (lN sm)])), (wq, .inl (cI, 64, .inl gw)), (pq, .inl (cI, 64, .inl gp)), (rq, .inl (cJ, 64, .inr (.inl gr)))] 0 0 [(0, .ref sa), (1, .ref oo)] 186 [.long (lN r1)]
  exact v_lret hE dX5_answer_186 (lN r1, 0, gs, gu, gpe, gi, gr, p1, d1) (⟨Rl_oM c183, Nat.zero_le _, fun _ => rfl⟩) rfl rfl
set_option maxRecDepth 100000 in
set_option maxHeartbeats 4000000 in
theorem kX5_answer_6 {D : va_G} {cI cJ cT : ClassId} (l : Launch) {sa oo o d w st us pe it lq tq tb wq sq pq rq n : Nat} {f : Nat → Int32} {fr p e : Nat} {dr : Bool} {gs gu gpe gi gw gp : Nat → Int32} {gr : Nat → Int64} {tf : Nat → Option Nat} {s0 : Int32} {x y z mm : Nat} {W : Nat → Nat} {mI : Int32} {tp sm : Nat} (hp : p ≤ e) (he : e ≤ 32 * n) (hn : n ≤ 512) (hdr : dr = true → p = e) (hx : x ≤ 100000) (hy : y ≤ 100000) (hz : z ≤ x + y) : Fn (S := Int64 × Nat × (Nat → Int32) × (Nat → Int32) × (Nat → Int32) × (Nat → Int32) × (Nat → Int64) × Nat × Bool) (gG D cI cJ cT) l yX5_answer (.code yX5_answer cX5_answer 2 (some .long)) (rmD 5) [.ref sa, .ref oo] [(sa, .inr (5, [.ref tq, .ref lq, .ref d, .ref o])), (oo, .inr (3, [.int (nI 6), .int (nI x), .int (nI y), .int (nI z)])), (o, .inr (4, [.ref d, .ref st, .ref us, .ref pe, .ref it, .int s0])), (d, .inr (0, [.ref w, .int (nI fr), .int (nI p), .int (nI e), .int (dI dr)])), (w, .inl (cI, n, .inl f)), (st, .inl (cI, 256, .inl gs)), (us, .inl (cI, 128, .inl gu)), (pe, .inl (cI, 128, .inl gpe)), (it, .inl (cI, 256, .inl gi)), (lq, .inr (1, [.ref d])), (tq, .inl (cT, 8, .inr (.inr (.inr (.inr tf))))), (tb, .inr (6, [.ref wq, .ref sq, .ref pq, .ref rq, .int mI, .int (nI tp), .long (lN sm)])), (wq, .inl (cI, 64, .inl gw)), (pq, .inl (cI, 64, .inl gp)), (rq, .inl (cJ, 64, .inr (.inl gr)))] (fun u => Rg (sAns (bitW f) e 6 x y z W mm p) e p dr (mA u.1 u.2.1 u.2.2.2.2.2.1) u.2.2.2.2.2.2.2.1 u.2.2.2.2.2.2.2.2 ∧ u.2.1 ≤ 256 ∧ (mm = 1 → u.2.2.2.2.2.2.1 = gr)) (fun u => some (.long u.1)) (fun u => [(sa, .inr (5, [.ref tq, .ref lq, .ref d, .ref o])), (oo, .inr (3, [.int (nI 6), .int (nI x), .int (nI y), .int (nI z)])), (o, .inr (4, [.ref d, .ref st, .ref us, .ref pe, .ref it, .int (nI u.2.1)])), (d, .inr (0, [.ref w, .int (nI fr), .int (nI u.2.2.2.2.2.2.2.1), .int (nI e), .int (dI u.2.2.2.2.2.2.2.2)])), (w, .inl (cI, n, .inl f)), (st, .inl (cI, 256, .inl u.2.2.1)), (us, .inl (cI, 128, .inl u.2.2.2.1)), (pe, .inl (cI, 128, .inl u.2.2.2.2.1)), (it, .inl (cI, 256, .inl u.2.2.2.2.2.1)), (lq, .inr (1, [.ref d])), (tq, .inl (cT, 8, .inr (.inr (.inr (.inr tf))))), (tb, .inr (6, [.ref wq, .ref sq, .ref pq, .ref rq, .int mI, .int (nI tp), .long (lN sm)])), (wq, .inl (cI, 64, .inl gw)), (pq, .inl (cI, 64, .inl gp)), (rq, .inl (cJ, 64, .inr (.inl u.2.2.2.2.2.2.1)))]) := by
  refine Fn.intro (by decide) (Nat.le_of_ble_eq_true rfl) ?_
  intro X hX hE hin
  subst hX
  show V (gG D cI cJ cT) X _ cX5_answer 2 RX5 _ 0 0 [(0, .ref sa), (1, .ref oo)] 0 []
  refine v_aload_n 0 dX5_answer_0 rfl rfl ?_
  refine v_get f_Sampler_23 0 rfl rfl dX5_answer_1 ?_
  refine v_iconst (v := nI 0) dX5_answer_4 (by decide) ?_
  refine v_put (ws' := [(sa, .inr (5, [.ref tq, .ref lq, .ref d, .ref o])), (oo, .inr (3, [.int (nI 6), .int (nI x), .int (nI y), .int (nI z)])), (o, .inr (4, [.ref d, .ref st, .ref us, .ref pe, .ref it, .int (nI 0)])), (d, .inr (0, [.ref w, .int (nI fr), .int (nI p), .int (nI e), .int (dI dr)])), (w, .inl (cI, n, .inl f)), (st, .inl (cI, 256, .inl gs)), (us, .inl (cI, 128, .inl gu)), (pe, .inl (cI, 128, .inl gpe)), (it, .inl (cI, 256, .inl gi)), (lq, .inr (1, [.ref d])), (tq, .inl (cT, 8, .inr (.inr (.inr (.inr tf))))), (tb, .inr (6, [.ref wq, .ref sq, .ref pq, .ref rq, .int mI, .int (nI tp), .long (lN sm)])), (wq, .inl (cI, 64, .inl gw)), (pq, .inl (cI, 64, .inl gp)), (rq, .inl (cJ, 64, .inr (.inl gr)))]) fw_Sampler_41 2 rfl (rfl) (rfl) (Nat.le_of_ble_eq_true rfl) dX5_answer_5 rfl ?_
  refine v_aload_n 1 dX5_answer_8 rfl rfl ?_
  refine v_get f_Sampler_27 1 rfl rfl dX5_answer_9 ?_
  refine v_tableIn (off := 175) (tgt := 187) dX5_answer_12 (by decide) (by decide) (by decide) (by decide) ?_
  refine v_aload_n 0 dX5_answer_187 rfl rfl ?_
  refine v_get f_Sampler_19 0 rfl rfl dX5_answer_188 ?_
  refine v_aload_n 1 dX5_answer_191 rfl rfl ?_
  refine v_get f_Sampler_33 1 rfl rfl dX5_answer_192 ?_
  refine v_aload_n 1 dX5_answer_195 rfl rfl ?_
  refine v_get f_Sampler_60 1 rfl rfl dX5_answer_196 ?_
  refine v_aload_n 1 dX5_answer_199 rfl rfl ?_
  refine v_get f_Sampler_67 1 rfl rfl dX5_answer_200 ?_
  refine v_callV (as := [.int (nI x), .int (nI y), .int (nI z)]) (rest := []) (ws' := fun u => [(sa, .inr (5, [.ref tq, .ref lq, .ref d, .ref o])), (oo, .inr (3, [.int (nI 6), .int (nI x), .int (nI y), .int (nI z)])), (o, .inr (4, [.ref d, .ref st, .ref us, .ref pe, .ref it, .int (nI 0)])), (d, .inr (0, [.ref w, .int (nI fr), .int (nI u.2.1), .int (nI e), .int (dI u.2.2)])), (w, .inl (cI, n, .inl f)), (st, .inl (cI, 256, .inl gs)), (us, .inl (cI, 128, .inl gu)), (pe, .inl (cI, 128, .inl gpe)), (it, .inl (cI, 256, .inl gi)), (lq, .inr (1, [.ref d])), (tq, .inl (cT, 8, .inr (.inr (.inr (.inr tf))))), (tb, .inr (6, [.ref wq, .ref sq, .ref pq, .ref rq, .int mI, .int (nI tp), .long (lN sm)])), (wq, .inl (cI, 64, .inl gw)), (pq, .inl (cI, 64, .inl gp)), (rq, .inl (cJ, 64, .inr (.inl gr)))]) m_Sampler_83 (kX1_hyper X.l (q := lq) (d := d) (w := w) (n := n) (f := f) (fr := fr) (p := p) (e := e) (dr := dr) (aa := x) (bb := y) (kk := z) hp he hn hdr hx hy hz) k_code_X1_hyper [9, 3, 4] 9 rfl rfl rfl rfl dX5_answer_203 (Nat.le_of_ble_eq_true rfl) ⟨rfl, rfl, by decide, by decide⟩ ⟨Nat.zero_le _, Nat.zero_le _⟩ rfl rfl (fun _ => rfl) (fun _ => rfl) ?_
  intro u203 c203
  obtain ⟨r1, p1, d1⟩ := u203
  try dsimp only at c203
  show V (gG D cI cJ cT) X (rmD 5) cX5_answer 2 RX5 [(sa, .inr (5, [.ref tq, .ref lq, .ref d, .ref o])), (oo, .inr (3, [.int (nI 6), .int (nI x), .int (nI y), .int (nI z)])), (o, .inr (4, [.ref d, .ref st, .ref us, .ref pe, .ref it, .int (nI 0)])), (d, .inr (0, [.ref w, .int (nI fr), .int (nI p1), .int (nI e), .int (dI d1)])), (w, .inl (cI, n, .inl f)), (st, .inl (cI, 256, .inl gs)), (us, .inl (cI, 128, .inl gu)), (pe, .inl (cI, 128, .inl gpe)), (it, .inl (cI, 256, .inl gi)), (lq, .inr (1, [.ref d])), (tq, .inl (cT, 8, .inr (.inr (.inr (.inr tf))))), (tb, .inr (6, [.ref wq, .ref sq, .ref pq, .ref rq, .int mI, .int (nI tp), .long (lN sm)])), (wq, .inl (cI, 64, .inl gw)), (pq, .inl (cI, 64, .inl gp)), (rq, .inl (cJ, 64, .inr (.inl gr)))] 0 0 [(0, .ref sa), (1, .ref oo)] 206 [.int (nI r1)]
  have hr1 : r1 ≤ z := c203.2
  refine v_i2l (v := lN r1) dX5_answer_206 (nI_l (by omega)) ?_
  exact v_lret hE dX5_answer_207 (lN r1, 0, gs, gu, gpe, gi, gr, p1, d1) (⟨Rl_oM c203.1, Nat.zero_le _, fun _ => rfl⟩) rfl rfl
set_option maxRecDepth 100000 in
set_option maxHeartbeats 4000000 in
theorem kX5_answer_7 {D : va_G} {cI cJ cT : ClassId} (l : Launch) {sa oo o d w st us pe it lq tq tb wq sq pq rq n : Nat} {f : Nat → Int32} {fr p e : Nat} {dr : Bool} {gs gu gpe gi gw gp : Nat → Int32} {gr : Nat → Int64} {tf : Nat → Option Nat} {s0 : Int32} {x y z mm : Nat} {W : Nat → Nat} {c1 mI : Int32} {tp sm : Nat} (hp : p ≤ e) (he : e ≤ 32 * n) (hn : n ≤ 512) (hdr : dr = true → p = e) (hx : x ≤ 1000) (hx1 : 1 ≤ x) (hy : y ≤ 10) (hy1 : 1 ≤ y) : Fn (S := Int64 × Nat × (Nat → Int32) × (Nat → Int32) × (Nat → Int32) × (Nat → Int32) × (Nat → Int64) × Nat × Bool) (gG D cI cJ cT) l yX5_answer (.code yX5_answer cX5_answer 2 (some .long)) (rmD 5) [.ref sa, .ref oo] [(sa, .inr (5, [.ref tq, .ref lq, .ref d, .ref o])), (oo, .inr (3, [.int (nI 7), .int (nI x), .int (nI y), .int c1])), (o, .inr (4, [.ref d, .ref st, .ref us, .ref pe, .ref it, .int s0])), (d, .inr (0, [.ref w, .int (nI fr), .int (nI p), .int (nI e), .int (dI dr)])), (w, .inl (cI, n, .inl f)), (st, .inl (cI, 256, .inl gs)), (us, .inl (cI, 128, .inl gu)), (pe, .inl (cI, 128, .inl gpe)), (it, .inl (cI, 256, .inl gi)), (lq, .inr (1, [.ref d])), (tq, .inl (cT, 8, .inr (.inr (.inr (.inr tf))))), (tb, .inr (6, [.ref wq, .ref sq, .ref pq, .ref rq, .int mI, .int (nI tp), .long (lN sm)])), (wq, .inl (cI, 64, .inl gw)), (pq, .inl (cI, 64, .inl gp)), (rq, .inl (cJ, 64, .inr (.inl gr)))] (fun u => Rg (sAns (bitW f) e 7 x y z W mm p) e p dr (mA u.1 u.2.1 u.2.2.2.2.2.1) u.2.2.2.2.2.2.2.1 u.2.2.2.2.2.2.2.2 ∧ u.2.1 ≤ 256 ∧ (mm = 1 → u.2.2.2.2.2.2.1 = gr)) (fun u => some (.long u.1)) (fun u => [(sa, .inr (5, [.ref tq, .ref lq, .ref d, .ref o])), (oo, .inr (3, [.int (nI 7), .int (nI x), .int (nI y), .int c1])), (o, .inr (4, [.ref d, .ref st, .ref us, .ref pe, .ref it, .int (nI u.2.1)])), (d, .inr (0, [.ref w, .int (nI fr), .int (nI u.2.2.2.2.2.2.2.1), .int (nI e), .int (dI u.2.2.2.2.2.2.2.2)])), (w, .inl (cI, n, .inl f)), (st, .inl (cI, 256, .inl u.2.2.1)), (us, .inl (cI, 128, .inl u.2.2.2.1)), (pe, .inl (cI, 128, .inl u.2.2.2.2.1)), (it, .inl (cI, 256, .inl u.2.2.2.2.2.1)), (lq, .inr (1, [.ref d])), (tq, .inl (cT, 8, .inr (.inr (.inr (.inr tf))))), (tb, .inr (6, [.ref wq, .ref sq, .ref pq, .ref rq, .int mI, .int (nI tp), .long (lN sm)])), (wq, .inl (cI, 64, .inl gw)), (pq, .inl (cI, 64, .inl gp)), (rq, .inl (cJ, 64, .inr (.inl u.2.2.2.2.2.2.1)))]) := by
  refine Fn.intro (by decide) (Nat.le_of_ble_eq_true rfl) ?_
  intro X hX hE hin
  subst hX
  show V (gG D cI cJ cT) X _ cX5_answer 2 RX5 _ 0 0 [(0, .ref sa), (1, .ref oo)] 0 []
  refine v_aload_n 0 dX5_answer_0 rfl rfl ?_
  refine v_get f_Sampler_23 0 rfl rfl dX5_answer_1 ?_
  refine v_iconst (v := nI 0) dX5_answer_4 (by decide) ?_
  refine v_put (ws' := [(sa, .inr (5, [.ref tq, .ref lq, .ref d, .ref o])), (oo, .inr (3, [.int (nI 7), .int (nI x), .int (nI y), .int c1])), (o, .inr (4, [.ref d, .ref st, .ref us, .ref pe, .ref it, .int (nI 0)])), (d, .inr (0, [.ref w, .int (nI fr), .int (nI p), .int (nI e), .int (dI dr)])), (w, .inl (cI, n, .inl f)), (st, .inl (cI, 256, .inl gs)), (us, .inl (cI, 128, .inl gu)), (pe, .inl (cI, 128, .inl gpe)), (it, .inl (cI, 256, .inl gi)), (lq, .inr (1, [.ref d])), (tq, .inl (cT, 8, .inr (.inr (.inr (.inr tf))))), (tb, .inr (6, [.ref wq, .ref sq, .ref pq, .ref rq, .int mI, .int (nI tp), .long (lN sm)])), (wq, .inl (cI, 64, .inl gw)), (pq, .inl (cI, 64, .inl gp)), (rq, .inl (cJ, 64, .inr (.inl gr)))]) fw_Sampler_41 2 rfl (rfl) (rfl) (Nat.le_of_ble_eq_true rfl) dX5_answer_5 rfl ?_
  refine v_aload_n 1 dX5_answer_8 rfl rfl ?_
  refine v_get f_Sampler_27 1 rfl rfl dX5_answer_9 ?_
  refine v_tableIn (off := 196) (tgt := 208) dX5_answer_12 (by decide) (by decide) (by decide) (by decide) ?_
  refine v_aload_n 0 dX5_answer_208 rfl rfl ?_
  refine v_get f_Sampler_19 0 rfl rfl dX5_answer_209 ?_
  refine v_aload_n 1 dX5_answer_212 rfl rfl ?_
  refine v_get f_Sampler_33 1 rfl rfl dX5_answer_213 ?_
  refine v_i2l (v := lN x) dX5_answer_216 (nI_l (by omega)) ?_
  refine v_aload_n 1 dX5_answer_217 rfl rfl ?_
  refine v_get f_Sampler_60 1 rfl rfl dX5_answer_218 ?_
  refine v_i2l (v := lN y) dX5_answer_221 (nI_l (by omega)) ?_
  refine v_callV (as := [.long (lN x), .long (lN y)]) (rest := []) (ws' := fun u => [(sa, .inr (5, [.ref tq, .ref lq, .ref d, .ref o])), (oo, .inr (3, [.int (nI 7), .int (nI x), .int (nI y), .int c1])), (o, .inr (4, [.ref d, .ref st, .ref us, .ref pe, .ref it, .int (nI 0)])), (d, .inr (0, [.ref w, .int (nI fr), .int (nI u.2.1), .int (nI e), .int (dI u.2.2)])), (w, .inl (cI, n, .inl f)), (st, .inl (cI, 256, .inl gs)), (us, .inl (cI, 128, .inl gu)), (pe, .inl (cI, 128, .inl gpe)), (it, .inl (cI, 256, .inl gi)), (lq, .inr (1, [.ref d])), (tq, .inl (cT, 8, .inr (.inr (.inr (.inr tf))))), (tb, .inr (6, [.ref wq, .ref sq, .ref pq, .ref rq, .int mI, .int (nI tp), .long (lN sm)])), (wq, .inl (cI, 64, .inl gw)), (pq, .inl (cI, 64, .inl gp)), (rq, .inl (cJ, 64, .inr (.inl gr)))]) m_Sampler_86 (kX1_bell X.l (q := lq) (d := d) (w := w) (n := n) (f := f) (fr := fr) (p := p) (e := e) (dr := dr) (num := x) (den := y) hp he hn hdr hx hx1 hy hy1) k_code_X1_bell [9, 3, 4] 9 rfl rfl rfl rfl dX5_answer_222 (Nat.le_of_ble_eq_true rfl) ⟨rfl, rfl, by decide, by decide⟩ ⟨Nat.zero_le _, Nat.zero_le _⟩ rfl rfl (fun _ => rfl) (fun _ => rfl) ?_
  intro u222 c222
  obtain ⟨r1, p1, d1⟩ := u222
  try dsimp only at c222
  show V (gG D cI cJ cT) X (rmD 5) cX5_answer 2 RX5 [(sa, .inr (5, [.ref tq, .ref lq, .ref d, .ref o])), (oo, .inr (3, [.int (nI 7), .int (nI x), .int (nI y), .int c1])), (o, .inr (4, [.ref d, .ref st, .ref us, .ref pe, .ref it, .int (nI 0)])), (d, .inr (0, [.ref w, .int (nI fr), .int (nI p1), .int (nI e), .int (dI d1)])), (w, .inl (cI, n, .inl f)), (st, .inl (cI, 256, .inl gs)), (us, .inl (cI, 128, .inl gu)), (pe, .inl (cI, 128, .inl gpe)), (it, .inl (cI, 256, .inl gi)), (lq, .inr (1, [.ref d])), (tq, .inl (cT, 8, .inr (.inr (.inr (.inr tf))))), (tb, .inr (6, [.ref wq, .ref sq, .ref pq, .ref rq, .int mI, .int (nI tp), .long (lN sm)])), (wq, .inl (cI, 64, .inl gw)), (pq, .inl (cI, 64, .inl gp)), (rq, .inl (cJ, 64, .inr (.inl gr)))] 0 0 [(0, .ref sa), (1, .ref oo)] 225 [.long (blI r1)]
  exact v_lret hE dX5_answer_225 (blI r1, 0, gs, gu, gpe, gi, gr, p1, d1) (⟨Rl_oM c222, Nat.zero_le _, fun _ => rfl⟩) rfl rfl
set_option maxRecDepth 100000 in
set_option maxHeartbeats 4000000 in
theorem kX5_answer_8 {D : va_G} {cI cJ cT : ClassId} (l : Launch) {sa oo o d w st us pe it lq tq tb wq sq pq rq n : Nat} {f : Nat → Int32} {fr p e : Nat} {dr : Bool} {gs gu gpe gi gw gp : Nat → Int32} {gr : Nat → Int64} {tf : Nat → Option Nat} {s0 : Int32} {x y z mm : Nat} {W : Nat → Nat} {c1 mI : Int32} {tp sm : Nat} (hp : p ≤ e) (he : e ≤ 32 * n) (hn : n ≤ 512) (hdr : dr = true → p = e) (hx : x < 2 ^ 31) (hy0 : 0 < y) (hy : y < 2 ^ 31) : Fn (S := Int64 × Nat × (Nat → Int32) × (Nat → Int32) × (Nat → Int32) × (Nat → Int32) × (Nat → Int64) × Nat × Bool) (gG D cI cJ cT) l yX5_answer (.code yX5_answer cX5_answer 2 (some .long)) (rmD 5) [.ref sa, .ref oo] [(sa, .inr (5, [.ref tq, .ref lq, .ref d, .ref o])), (oo, .inr (3, [.int (nI 8), .int (nI x), .int (nI y), .int c1])), (o, .inr (4, [.ref d, .ref st, .ref us, .ref pe, .ref it, .int s0])), (d, .inr (0, [.ref w, .int (nI fr), .int (nI p), .int (nI e), .int (dI dr)])), (w, .inl (cI, n, .inl f)), (st, .inl (cI, 256, .inl gs)), (us, .inl (cI, 128, .inl gu)), (pe, .inl (cI, 128, .inl gpe)), (it, .inl (cI, 256, .inl gi)), (lq, .inr (1, [.ref d])), (tq, .inl (cT, 8, .inr (.inr (.inr (.inr tf))))), (tb, .inr (6, [.ref wq, .ref sq, .ref pq, .ref rq, .int mI, .int (nI tp), .long (lN sm)])), (wq, .inl (cI, 64, .inl gw)), (pq, .inl (cI, 64, .inl gp)), (rq, .inl (cJ, 64, .inr (.inl gr)))] (fun u => Rg (sAns (bitW f) e 8 x y z W mm p) e p dr (mA u.1 u.2.1 u.2.2.2.2.2.1) u.2.2.2.2.2.2.2.1 u.2.2.2.2.2.2.2.2 ∧ u.2.1 ≤ 256 ∧ (mm = 1 → u.2.2.2.2.2.2.1 = gr)) (fun u => some (.long u.1)) (fun u => [(sa, .inr (5, [.ref tq, .ref lq, .ref d, .ref o])), (oo, .inr (3, [.int (nI 8), .int (nI x), .int (nI y), .int c1])), (o, .inr (4, [.ref d, .ref st, .ref us, .ref pe, .ref it, .int (nI u.2.1)])), (d, .inr (0, [.ref w, .int (nI fr), .int (nI u.2.2.2.2.2.2.2.1), .int (nI e), .int (dI u.2.2.2.2.2.2.2.2)])), (w, .inl (cI, n, .inl f)), (st, .inl (cI, 256, .inl u.2.2.1)), (us, .inl (cI, 128, .inl u.2.2.2.1)), (pe, .inl (cI, 128, .inl u.2.2.2.2.1)), (it, .inl (cI, 256, .inl u.2.2.2.2.2.1)), (lq, .inr (1, [.ref d])), (tq, .inl (cT, 8, .inr (.inr (.inr (.inr tf))))), (tb, .inr (6, [.ref wq, .ref sq, .ref pq, .ref rq, .int mI, .int (nI tp), .long (lN sm)])), (wq, .inl (cI, 64, .inl gw)), (pq, .inl (cI, 64, .inl gp)), (rq, .inl (cJ, 64, .inr (.inl u.2.2.2.2.2.2.1)))]) := by
  refine Fn.intro (by decide) (Nat.le_of_ble_eq_true rfl) ?_
  intro X hX hE hin
  subst hX
  show V (gG D cI cJ cT) X _ cX5_answer 2 RX5 _ 0 0 [(0, .ref sa), (1, .ref oo)] 0 []
  refine v_aload_n 0 dX5_answer_0 rfl rfl ?_
  refine v_get f_Sampler_23 0 rfl rfl dX5_answer_1 ?_
  refine v_iconst (v := nI 0) dX5_answer_4 (by decide) ?_
  refine v_put (ws' := [(sa, .inr (5, [.ref tq, .ref lq, .ref d, .ref o])), (oo, .inr (3, [.int (nI 8), .int (nI x), .int (nI y), .int c1])), (o, .inr (4, [.ref d, .ref st, .ref us, .ref pe, .ref it, .int (nI 0)])), (d, .inr (0, [.ref w, .int (nI fr), .int (nI p), .int (nI e), .int (dI dr)])), (w, .inl (cI, n, .inl f)), (st, .inl (cI, 256, .inl gs)), (us, .inl (cI, 128, .inl gu)), (pe, .inl (cI, 128, .inl gpe)), (it, .inl (cI, 256, .inl gi)), (lq, .inr (1, [.ref d])), (tq, .inl (cT, 8, .inr (.inr (.inr (.inr tf))))), (tb, .inr (6, [.ref wq, .ref sq, .ref pq, .ref rq, .int mI, .int (nI tp), .long (lN sm)])), (wq, .inl (cI, 64, .inl gw)), (pq, .inl (cI, 64, .inl gp)), (rq, .inl (cJ, 64, .inr (.inl gr)))]) fw_Sampler_41 2 rfl (rfl) (rfl) (Nat.le_of_ble_eq_true rfl) dX5_answer_5 rfl ?_
  refine v_aload_n 1 dX5_answer_8 rfl rfl ?_
  refine v_get f_Sampler_27 1 rfl rfl dX5_answer_9 ?_
  refine v_tableIn (off := 214) (tgt := 226) dX5_answer_12 (by decide) (by decide) (by decide) (by decide) ?_
  refine v_aload_n 0 dX5_answer_226 rfl rfl ?_
  refine v_get f_Sampler_15 0 rfl rfl dX5_answer_227 ?_
  refine v_aload_n 1 dX5_answer_230 rfl rfl ?_
  refine v_get f_Sampler_33 1 rfl rfl dX5_answer_231 ?_
  refine v_i2l (v := lN x) dX5_answer_234 (nI_l (by omega)) ?_
  refine v_aload_n 1 dX5_answer_235 rfl rfl ?_
  refine v_get f_Sampler_60 1 rfl rfl dX5_answer_236 ?_
  refine v_i2l (v := lN y) dX5_answer_239 (nI_l (by omega)) ?_
  refine v_callV (as := [.long (lN x), .long (lN y)]) (rest := []) (ws' := fun u => [(sa, .inr (5, [.ref tq, .ref lq, .ref d, .ref o])), (oo, .inr (3, [.int (nI 8), .int (nI x), .int (nI y), .int c1])), (o, .inr (4, [.ref d, .ref st, .ref us, .ref pe, .ref it, .int (nI 0)])), (d, .inr (0, [.ref w, .int (nI fr), .int (nI u.2.1), .int (nI e), .int (dI u.2.2)])), (w, .inl (cI, n, .inl f)), (st, .inl (cI, 256, .inl gs)), (us, .inl (cI, 128, .inl gu)), (pe, .inl (cI, 128, .inl gpe)), (it, .inl (cI, 256, .inl gi)), (lq, .inr (1, [.ref d])), (tq, .inl (cT, 8, .inr (.inr (.inr (.inr tf))))), (tb, .inr (6, [.ref wq, .ref sq, .ref pq, .ref rq, .int mI, .int (nI tp), .long (lN sm)])), (wq, .inl (cI, 64, .inl gw)), (pq, .inl (cI, 64, .inl gp)), (rq, .inl (cJ, 64, .inr (.inl gr)))]) m_Sampler_90 (kX0_exponentialCoin X.l (d := d) (w := w) (n := n) (f := f) (fr := fr) (p := p) (e := e) (dr := dr) (num := x) (den := y) hp he hn hdr hy0 (by omega) (by omega)) k_code_X0_exponentialCoin [3, 4] 3 rfl rfl rfl rfl dX5_answer_240 (Nat.le_of_ble_eq_true rfl) ⟨rfl, rfl, by decide, by decide⟩ ⟨Nat.zero_le _, Nat.zero_le _⟩ rfl rfl (fun _ => rfl) (fun _ => rfl) ?_
  intro u240 c240
  obtain ⟨r1, p1, d1⟩ := u240
  try dsimp only at c240
  show V (gG D cI cJ cT) X (rmD 5) cX5_answer 2 RX5 [(sa, .inr (5, [.ref tq, .ref lq, .ref d, .ref o])), (oo, .inr (3, [.int (nI 8), .int (nI x), .int (nI y), .int c1])), (o, .inr (4, [.ref d, .ref st, .ref us, .ref pe, .ref it, .int (nI 0)])), (d, .inr (0, [.ref w, .int (nI fr), .int (nI p1), .int (nI e), .int (dI d1)])), (w, .inl (cI, n, .inl f)), (st, .inl (cI, 256, .inl gs)), (us, .inl (cI, 128, .inl gu)), (pe, .inl (cI, 128, .inl gpe)), (it, .inl (cI, 256, .inl gi)), (lq, .inr (1, [.ref d])), (tq, .inl (cT, 8, .inr (.inr (.inr (.inr tf))))), (tb, .inr (6, [.ref wq, .ref sq, .ref pq, .ref rq, .int mI, .int (nI tp), .long (lN sm)])), (wq, .inl (cI, 64, .inl gw)), (pq, .inl (cI, 64, .inl gp)), (rq, .inl (cJ, 64, .inr (.inl gr)))] 0 0 [(0, .ref sa), (1, .ref oo)] 243 [.int (nI r1)]
  have hr1 : r1 ≤ 1 := c240.2.1
  refine v_i2l (v := lN r1) dX5_answer_243 (nI_l (by omega)) ?_
  exact v_lret hE dX5_answer_244 (lN r1, 0, gs, gu, gpe, gi, gr, p1, d1) (⟨Rl_oM c240.1, Nat.zero_le _, fun _ => rfl⟩) rfl rfl
set_option maxRecDepth 100000 in
set_option maxHeartbeats 4000000 in
theorem kX5_answer_9 {D : va_G} {cI cJ cT : ClassId} (l : Launch) {sa oo o d w st us pe it lq tq tb wq sq pq rq n : Nat} {f : Nat → Int32} {fr p e : Nat} {dr : Bool} {gs gu gpe gi gw gp : Nat → Int32} {gr : Nat → Int64} {tf : Nat → Option Nat} {s0 : Int32} {x y z mm : Nat} {W : Nat → Nat} {b1 c1 mI : Int32} {tp sm : Nat} (hp : p ≤ e) (he : e ≤ 32 * n) (hn : n ≤ 512) (hdr : dr = true → p = e) (hx : x ≤ 256) : Fn (S := Int64 × Nat × (Nat → Int32) × (Nat → Int32) × (Nat → Int32) × (Nat → Int32) × (Nat → Int64) × Nat × Bool) (gG D cI cJ cT) l yX5_answer (.code yX5_answer cX5_answer 2 (some .long)) (rmD 5) [.ref sa, .ref oo] [(sa, .inr (5, [.ref tq, .ref lq, .ref d, .ref o])), (oo, .inr (3, [.int (nI 9), .int (nI x), .int b1, .int c1])), (o, .inr (4, [.ref d, .ref st, .ref us, .ref pe, .ref it, .int s0])), (d, .inr (0, [.ref w, .int (nI fr), .int (nI p), .int (nI e), .int (dI dr)])), (w, .inl (cI, n, .inl f)), (st, .inl (cI, 256, .inl gs)), (us, .inl (cI, 128, .inl gu)), (pe, .inl (cI, 128, .inl gpe)), (it, .inl (cI, 256, .inl gi)), (lq, .inr (1, [.ref d])), (tq, .inl (cT, 8, .inr (.inr (.inr (.inr tf))))), (tb, .inr (6, [.ref wq, .ref sq, .ref pq, .ref rq, .int mI, .int (nI tp), .long (lN sm)])), (wq, .inl (cI, 64, .inl gw)), (pq, .inl (cI, 64, .inl gp)), (rq, .inl (cJ, 64, .inr (.inl gr)))] (fun u => Rg (sAns (bitW f) e 9 x y z W mm p) e p dr (mA u.1 u.2.1 u.2.2.2.2.2.1) u.2.2.2.2.2.2.2.1 u.2.2.2.2.2.2.2.2 ∧ u.2.1 ≤ 256 ∧ (mm = 1 → u.2.2.2.2.2.2.1 = gr)) (fun u => some (.long u.1)) (fun u => [(sa, .inr (5, [.ref tq, .ref lq, .ref d, .ref o])), (oo, .inr (3, [.int (nI 9), .int (nI x), .int b1, .int c1])), (o, .inr (4, [.ref d, .ref st, .ref us, .ref pe, .ref it, .int (nI u.2.1)])), (d, .inr (0, [.ref w, .int (nI fr), .int (nI u.2.2.2.2.2.2.2.1), .int (nI e), .int (dI u.2.2.2.2.2.2.2.2)])), (w, .inl (cI, n, .inl f)), (st, .inl (cI, 256, .inl u.2.2.1)), (us, .inl (cI, 128, .inl u.2.2.2.1)), (pe, .inl (cI, 128, .inl u.2.2.2.2.1)), (it, .inl (cI, 256, .inl u.2.2.2.2.2.1)), (lq, .inr (1, [.ref d])), (tq, .inl (cT, 8, .inr (.inr (.inr (.inr tf))))), (tb, .inr (6, [.ref wq, .ref sq, .ref pq, .ref rq, .int mI, .int (nI tp), .long (lN sm)])), (wq, .inl (cI, 64, .inl gw)), (pq, .inl (cI, 64, .inl gp)), (rq, .inl (cJ, 64, .inr (.inl u.2.2.2.2.2.2.1)))]) := by
  refine Fn.intro (by decide) (Nat.le_of_ble_eq_true rfl) ?_
  intro X hX hE hin
  subst hX
  show V (gG D cI cJ cT) X _ cX5_answer 2 RX5 _ 0 0 [(0, .ref sa), (1, .ref oo)] 0 []
  refine v_aload_n 0 dX5_answer_0 rfl rfl ?_
  refine v_get f_Sampler_23 0 rfl rfl dX5_answer_1 ?_
  refine v_iconst (v := nI 0) dX5_answer_4 (by decide) ?_
  refine v_put (ws' := [(sa, .inr (5, [.ref tq, .ref lq, .ref d, .ref o])), (oo, .inr (3, [.int (nI 9), .int (nI x), .int b1, .int c1])), (o, .inr (4, [.ref d, .ref st, .ref us, .ref pe, .ref it, .int (nI 0)])), (d, .inr (0, [.ref w, .int (nI fr), .int (nI p), .int (nI e), .int (dI dr)])), (w, .inl (cI, n, .inl f)), (st, .inl (cI, 256, .inl gs)), (us, .inl (cI, 128, .inl gu)), (pe, .inl (cI, 128, .inl gpe)), (it, .inl (cI, 256, .inl gi)), (lq, .inr (1, [.ref d])), (tq, .inl (cT, 8, .inr (.inr (.inr (.inr tf))))), (tb, .inr (6, [.ref wq, .ref sq, .ref pq, .ref rq, .int mI, .int (nI tp), .long (lN sm)])), (wq, .inl (cI, 64, .inl gw)), (pq, .inl (cI, 64, .inl gp)), (rq, .inl (cJ, 64, .inr (.inl gr)))]) fw_Sampler_41 2 rfl (rfl) (rfl) (Nat.le_of_ble_eq_true rfl) dX5_answer_5 rfl ?_
  refine v_aload_n 1 dX5_answer_8 rfl rfl ?_
  refine v_get f_Sampler_27 1 rfl rfl dX5_answer_9 ?_
  refine v_tableIn (off := 233) (tgt := 245) dX5_answer_12 (by decide) (by decide) (by decide) (by decide) ?_
  refine v_aload_n 0 dX5_answer_245 rfl rfl ?_
  refine v_get f_Sampler_23 0 rfl rfl dX5_answer_246 ?_
  refine v_aload_n 1 dX5_answer_249 rfl rfl ?_
  refine v_get f_Sampler_33 1 rfl rfl dX5_answer_250 ?_
  refine v_callV (as := [.int (nI x)]) (rest := []) (ws' := fun u => [(sa, .inr (5, [.ref tq, .ref lq, .ref d, .ref o])), (oo, .inr (3, [.int (nI 9), .int (nI x), .int b1, .int c1])), (o, .inr (4, [.ref d, .ref st, .ref us, .ref pe, .ref it, .int (nI x)])), (d, .inr (0, [.ref w, .int (nI fr), .int (nI u.2.1), .int (nI e), .int (dI u.2.2)])), (w, .inl (cI, n, .inl f)), (st, .inl (cI, 256, .inl gs)), (us, .inl (cI, 128, .inl gu)), (pe, .inl (cI, 128, .inl gpe)), (it, .inl (cI, 256, .inl u.1)), (lq, .inr (1, [.ref d])), (tq, .inl (cT, 8, .inr (.inr (.inr (.inr tf))))), (tb, .inr (6, [.ref wq, .ref sq, .ref pq, .ref rq, .int mI, .int (nI tp), .long (lN sm)])), (wq, .inl (cI, 64, .inl gw)), (pq, .inl (cI, 64, .inl gp)), (rq, .inl (cJ, 64, .inr (.inl gr)))]) m_Sampler_93 (kX4_shuffle X.l (o := o) (d := d) (w := w) (n := n) (f := f) (fr := fr) (p := p) (e := e) (dr := dr) (st := st) (us := us) (pe := pe) (it := it) (n0 := x) (sz := 0) (gi := gi) hp he hn hdr hx) k_code_X4_shuffle [2, 3, 4, 8] 2 rfl rfl rfl rfl dX5_answer_253 (Nat.le_of_ble_eq_true rfl) ⟨rfl, rfl, by decide, by decide⟩ ⟨Nat.zero_le _, Nat.zero_le _⟩ rfl rfl (fun _ => rfl) (fun _ => rfl) ?_
  intro u253 c253
  obtain ⟨g1, p1, d1⟩ := u253
  try dsimp only at c253
  show V (gG D cI cJ cT) X (rmD 5) cX5_answer 2 RX5 [(sa, .inr (5, [.ref tq, .ref lq, .ref d, .ref o])), (oo, .inr (3, [.int (nI 9), .int (nI x), .int b1, .int c1])), (o, .inr (4, [.ref d, .ref st, .ref us, .ref pe, .ref it, .int (nI x)])), (d, .inr (0, [.ref w, .int (nI fr), .int (nI p1), .int (nI e), .int (dI d1)])), (w, .inl (cI, n, .inl f)), (st, .inl (cI, 256, .inl gs)), (us, .inl (cI, 128, .inl gu)), (pe, .inl (cI, 128, .inl gpe)), (it, .inl (cI, 256, .inl g1)), (lq, .inr (1, [.ref d])), (tq, .inl (cT, 8, .inr (.inr (.inr (.inr tf))))), (tb, .inr (6, [.ref wq, .ref sq, .ref pq, .ref rq, .int mI, .int (nI tp), .long (lN sm)])), (wq, .inl (cI, 64, .inl gw)), (pq, .inl (cI, 64, .inl gp)), (rq, .inl (cJ, 64, .inr (.inl gr)))] 0 0 [(0, .ref sa), (1, .ref oo)] 256 [.int (nI x)]
  refine v_i2l (v := lN x) dX5_answer_256 (nI_l (by omega)) ?_
  exact v_lret hE dX5_answer_257 (lN x, x, gs, gu, gpe, g1, gr, p1, d1) (⟨Rg_oF c253, hx, fun _ => rfl⟩) rfl rfl
set_option maxRecDepth 100000 in
set_option maxHeartbeats 4000000 in
theorem kX5_answer_10 {D : va_G} {cI cJ cT : ClassId} (l : Launch) {sa oo o d w st us pe it lq tq tb wq sq pq rq n : Nat} {f : Nat → Int32} {fr p e : Nat} {dr : Bool} {gs gu gpe gi gw gp : Nat → Int32} {gr : Nat → Int64} {tf : Nat → Option Nat} {s0 : Int32} {x y z mm : Nat} {W : Nat → Nat} {c1 mI : Int32} {tp sm : Nat} (hp : p ≤ e) (he : e ≤ 32 * n) (hn : n ≤ 512) (hdr : dr = true → p = e) (hx : x ≤ 256) (hy : y ≤ x) : Fn (S := Int64 × Nat × (Nat → Int32) × (Nat → Int32) × (Nat → Int32) × (Nat → Int32) × (Nat → Int64) × Nat × Bool) (gG D cI cJ cT) l yX5_answer (.code yX5_answer cX5_answer 2 (some .long)) (rmD 5) [.ref sa, .ref oo] [(sa, .inr (5, [.ref tq, .ref lq, .ref d, .ref o])), (oo, .inr (3, [.int (nI 10), .int (nI x), .int (nI y), .int c1])), (o, .inr (4, [.ref d, .ref st, .ref us, .ref pe, .ref it, .int s0])), (d, .inr (0, [.ref w, .int (nI fr), .int (nI p), .int (nI e), .int (dI dr)])), (w, .inl (cI, n, .inl f)), (st, .inl (cI, 256, .inl gs)), (us, .inl (cI, 128, .inl gu)), (pe, .inl (cI, 128, .inl gpe)), (it, .inl (cI, 256, .inl gi)), (lq, .inr (1, [.ref d])), (tq, .inl (cT, 8, .inr (.inr (.inr (.inr tf))))), (tb, .inr (6, [.ref wq, .ref sq, .ref pq, .ref rq, .int mI, .int (nI tp), .long (lN sm)])), (wq, .inl (cI, 64, .inl gw)), (pq, .inl (cI, 64, .inl gp)), (rq, .inl (cJ, 64, .inr (.inl gr)))] (fun u => Rg (sAns (bitW f) e 10 x y z W mm p) e p dr (mA u.1 u.2.1 u.2.2.2.2.2.1) u.2.2.2.2.2.2.2.1 u.2.2.2.2.2.2.2.2 ∧ u.2.1 ≤ 256 ∧ (mm = 1 → u.2.2.2.2.2.2.1 = gr)) (fun u => some (.long u.1)) (fun u => [(sa, .inr (5, [.ref tq, .ref lq, .ref d, .ref o])), (oo, .inr (3, [.int (nI 10), .int (nI x), .int (nI y), .int c1])), (o, .inr (4, [.ref d, .ref st, .ref us, .ref pe, .ref it, .int (nI u.2.1)])), (d, .inr (0, [.ref w, .int (nI fr), .int (nI u.2.2.2.2.2.2.2.1), .int (nI e), .int (dI u.2.2.2.2.2.2.2.2)])), (w, .inl (cI, n, .inl f)), (st, .inl (cI, 256, .inl u.2.2.1)), (us, .inl (cI, 128, .inl u.2.2.2.1)), (pe, .inl (cI, 128, .inl u.2.2.2.2.1)), (it, .inl (cI, 256, .inl u.2.2.2.2.2.1)), (lq, .inr (1, [.ref d])), (tq, .inl (cT, 8, .inr (.inr (.inr (.inr tf))))), (tb, .inr (6, [.ref wq, .ref sq, .ref pq, .ref rq, .int mI, .int (nI tp), .long (lN sm)])), (wq, .inl (cI, 64, .inl gw)), (pq, .inl (cI, 64, .inl gp)), (rq, .inl (cJ, 64, .inr (.inl u.2.2.2.2.2.2.1)))]) := by
  refine Fn.intro (by decide) (Nat.le_of_ble_eq_true rfl) ?_
  intro X hX hE hin
  subst hX
  show V (gG D cI cJ cT) X _ cX5_answer 2 RX5 _ 0 0 [(0, .ref sa), (1, .ref oo)] 0 []
  refine v_aload_n 0 dX5_answer_0 rfl rfl ?_
  refine v_get f_Sampler_23 0 rfl rfl dX5_answer_1 ?_
  refine v_iconst (v := nI 0) dX5_answer_4 (by decide) ?_
  refine v_put (ws' := [(sa, .inr (5, [.ref tq, .ref lq, .ref d, .ref o])), (oo, .inr (3, [.int (nI 10), .int (nI x), .int (nI y), .int c1])), (o, .inr (4, [.ref d, .ref st, .ref us, .ref pe, .ref it, .int (nI 0)])), (d, .inr (0, [.ref w, .int (nI fr), .int (nI p), .int (nI e), .int (dI dr)])), (w, .inl (cI, n, .inl f)), (st, .inl (cI, 256, .inl gs)), (us, .inl (cI, 128, .inl gu)), (pe, .inl (cI, 128, .inl gpe)), (it, .inl (cI, 256, .inl gi)), (lq, .inr (1, [.ref d])), (tq, .inl (cT, 8, .inr (.inr (.inr (.inr tf))))), (tb, .inr (6, [.ref wq, .ref sq, .ref pq, .ref rq, .int mI, .int (nI tp), .long (lN sm)])), (wq, .inl (cI, 64, .inl gw)), (pq, .inl (cI, 64, .inl gp)), (rq, .inl (cJ, 64, .inr (.inl gr)))]) fw_Sampler_41 2 rfl (rfl) (rfl) (Nat.le_of_ble_eq_true rfl) dX5_answer_5 rfl ?_
  refine v_aload_n 1 dX5_answer_8 rfl rfl ?_
  refine v_get f_Sampler_27 1 rfl rfl dX5_answer_9 ?_
  refine v_tableIn (off := 246) (tgt := 258) dX5_answer_12 (by decide) (by decide) (by decide) (by decide) ?_
  refine v_aload_n 0 dX5_answer_258 rfl rfl ?_
  refine v_get f_Sampler_23 0 rfl rfl dX5_answer_259 ?_
  refine v_aload_n 1 dX5_answer_262 rfl rfl ?_
  refine v_get f_Sampler_33 1 rfl rfl dX5_answer_263 ?_
  refine v_aload_n 1 dX5_answer_266 rfl rfl ?_
  refine v_get f_Sampler_60 1 rfl rfl dX5_answer_267 ?_
  refine v_callV (as := [.int (nI x), .int (nI y)]) (rest := []) (ws' := fun u => [(sa, .inr (5, [.ref tq, .ref lq, .ref d, .ref o])), (oo, .inr (3, [.int (nI 10), .int (nI x), .int (nI y), .int c1])), (o, .inr (4, [.ref d, .ref st, .ref us, .ref pe, .ref it, .int (nI u.1)])), (d, .inr (0, [.ref w, .int (nI fr), .int (nI u.2.2.1), .int (nI e), .int (dI u.2.2.2)])), (w, .inl (cI, n, .inl f)), (st, .inl (cI, 256, .inl gs)), (us, .inl (cI, 128, .inl gu)), (pe, .inl (cI, 128, .inl gpe)), (it, .inl (cI, 256, .inl u.2.1)), (lq, .inr (1, [.ref d])), (tq, .inl (cT, 8, .inr (.inr (.inr (.inr tf))))), (tb, .inr (6, [.ref wq, .ref sq, .ref pq, .ref rq, .int mI, .int (nI tp), .long (lN sm)])), (wq, .inl (cI, 64, .inl gw)), (pq, .inl (cI, 64, .inl gp)), (rq, .inl (cJ, 64, .inr (.inl gr)))]) m_Sampler_97 (kX4_subset X.l (o := o) (d := d) (w := w) (n := n) (f := f) (fr := fr) (p := p) (e := e) (dr := dr) (st := st) (us := us) (pe := pe) (it := it) (nn := x) (kk := y) (gi := gi) hp he hn hdr hx hy) k_code_X4_subset [2, 3, 4, 8] 2 rfl rfl rfl rfl dX5_answer_270 (Nat.le_of_ble_eq_true rfl) ⟨rfl, rfl, by decide, by decide⟩ ⟨Nat.zero_le _, Nat.zero_le _⟩ rfl rfl (fun _ => rfl) (fun _ => rfl) ?_
  intro u270 c270
  obtain ⟨r1, g1, p1, d1⟩ := u270
  try dsimp only at c270
  show V (gG D cI cJ cT) X (rmD 5) cX5_answer 2 RX5 [(sa, .inr (5, [.ref tq, .ref lq, .ref d, .ref o])), (oo, .inr (3, [.int (nI 10), .int (nI x), .int (nI y), .int c1])), (o, .inr (4, [.ref d, .ref st, .ref us, .ref pe, .ref it, .int (nI r1)])), (d, .inr (0, [.ref w, .int (nI fr), .int (nI p1), .int (nI e), .int (dI d1)])), (w, .inl (cI, n, .inl f)), (st, .inl (cI, 256, .inl gs)), (us, .inl (cI, 128, .inl gu)), (pe, .inl (cI, 128, .inl gpe)), (it, .inl (cI, 256, .inl g1)), (lq, .inr (1, [.ref d])), (tq, .inl (cT, 8, .inr (.inr (.inr (.inr tf))))), (tb, .inr (6, [.ref wq, .ref sq, .ref pq, .ref rq, .int mI, .int (nI tp), .long (lN sm)])), (wq, .inl (cI, 64, .inl gw)), (pq, .inl (cI, 64, .inl gp)), (rq, .inl (cJ, 64, .inr (.inl gr)))] 0 0 [(0, .ref sa), (1, .ref oo)] 273 [.int (nI r1)]
  have hr1 : r1 ≤ y := c270.2
  refine v_i2l (v := lN r1) dX5_answer_273 (nI_l (by omega)) ?_
  exact v_lret hE dX5_answer_274 (lN r1, r1, gs, gu, gpe, g1, gr, p1, d1) (⟨Rg_oS c270.1, by show r1 ≤ 256; omega, fun _ => rfl⟩) rfl rfl
set_option maxRecDepth 100000 in
set_option maxHeartbeats 4000000 in
theorem kX5_answer_11 {D : va_G} {cI cJ cT : ClassId} (l : Launch) {sa oo o d w st us pe it lq tq tb wq sq pq rq n : Nat} {f : Nat → Int32} {fr p e : Nat} {dr : Bool} {gs gu gpe gi gw gp : Nat → Int32} {gr : Nat → Int64} {tf : Nat → Option Nat} {s0 : Int32} {x y z mm : Nat} {W : Nat → Nat} {b1 c1 mI : Int32} {tp sm : Nat} (hp : p ≤ e) (he : e ≤ 32 * n) (hn : n ≤ 512) (hdr : dr = true → p = e) (hx : x ≤ 128) : Fn (S := Int64 × Nat × (Nat → Int32) × (Nat → Int32) × (Nat → Int32) × (Nat → Int32) × (Nat → Int64) × Nat × Bool) (gG D cI cJ cT) l yX5_answer (.code yX5_answer cX5_answer 2 (some .long)) (rmD 5) [.ref sa, .ref oo] [(sa, .inr (5, [.ref tq, .ref lq, .ref d, .ref o])), (oo, .inr (3, [.int (nI 11), .int (nI x), .int b1, .int c1])), (o, .inr (4, [.ref d, .ref st, .ref us, .ref pe, .ref it, .int s0])), (d, .inr (0, [.ref w, .int (nI fr), .int (nI p), .int (nI e), .int (dI dr)])), (w, .inl (cI, n, .inl f)), (st, .inl (cI, 256, .inl gs)), (us, .inl (cI, 128, .inl gu)), (pe, .inl (cI, 128, .inl gpe)), (it, .inl (cI, 256, .inl gi)), (lq, .inr (1, [.ref d])), (tq, .inl (cT, 8, .inr (.inr (.inr (.inr tf))))), (tb, .inr (6, [.ref wq, .ref sq, .ref pq, .ref rq, .int mI, .int (nI tp), .long (lN sm)])), (wq, .inl (cI, 64, .inl gw)), (pq, .inl (cI, 64, .inl gp)), (rq, .inl (cJ, 64, .inr (.inl gr)))] (fun u => Rg (sAns (bitW f) e 11 x y z W mm p) e p dr (mA u.1 u.2.1 u.2.2.2.2.2.1) u.2.2.2.2.2.2.2.1 u.2.2.2.2.2.2.2.2 ∧ u.2.1 ≤ 256 ∧ (mm = 1 → u.2.2.2.2.2.2.1 = gr)) (fun u => some (.long u.1)) (fun u => [(sa, .inr (5, [.ref tq, .ref lq, .ref d, .ref o])), (oo, .inr (3, [.int (nI 11), .int (nI x), .int b1, .int c1])), (o, .inr (4, [.ref d, .ref st, .ref us, .ref pe, .ref it, .int (nI u.2.1)])), (d, .inr (0, [.ref w, .int (nI fr), .int (nI u.2.2.2.2.2.2.2.1), .int (nI e), .int (dI u.2.2.2.2.2.2.2.2)])), (w, .inl (cI, n, .inl f)), (st, .inl (cI, 256, .inl u.2.2.1)), (us, .inl (cI, 128, .inl u.2.2.2.1)), (pe, .inl (cI, 128, .inl u.2.2.2.2.1)), (it, .inl (cI, 256, .inl u.2.2.2.2.2.1)), (lq, .inr (1, [.ref d])), (tq, .inl (cT, 8, .inr (.inr (.inr (.inr tf))))), (tb, .inr (6, [.ref wq, .ref sq, .ref pq, .ref rq, .int mI, .int (nI tp), .long (lN sm)])), (wq, .inl (cI, 64, .inl gw)), (pq, .inl (cI, 64, .inl gp)), (rq, .inl (cJ, 64, .inr (.inl u.2.2.2.2.2.2.1)))]) := by
  refine Fn.intro (by decide) (Nat.le_of_ble_eq_true rfl) ?_
  intro X hX hE hin
  subst hX
  show V (gG D cI cJ cT) X _ cX5_answer 2 RX5 _ 0 0 [(0, .ref sa), (1, .ref oo)] 0 []
  refine v_aload_n 0 dX5_answer_0 rfl rfl ?_
  refine v_get f_Sampler_23 0 rfl rfl dX5_answer_1 ?_
  refine v_iconst (v := nI 0) dX5_answer_4 (by decide) ?_
  refine v_put (ws' := [(sa, .inr (5, [.ref tq, .ref lq, .ref d, .ref o])), (oo, .inr (3, [.int (nI 11), .int (nI x), .int b1, .int c1])), (o, .inr (4, [.ref d, .ref st, .ref us, .ref pe, .ref it, .int (nI 0)])), (d, .inr (0, [.ref w, .int (nI fr), .int (nI p), .int (nI e), .int (dI dr)])), (w, .inl (cI, n, .inl f)), (st, .inl (cI, 256, .inl gs)), (us, .inl (cI, 128, .inl gu)), (pe, .inl (cI, 128, .inl gpe)), (it, .inl (cI, 256, .inl gi)), (lq, .inr (1, [.ref d])), (tq, .inl (cT, 8, .inr (.inr (.inr (.inr tf))))), (tb, .inr (6, [.ref wq, .ref sq, .ref pq, .ref rq, .int mI, .int (nI tp), .long (lN sm)])), (wq, .inl (cI, 64, .inl gw)), (pq, .inl (cI, 64, .inl gp)), (rq, .inl (cJ, 64, .inr (.inl gr)))]) fw_Sampler_41 2 rfl (rfl) (rfl) (Nat.le_of_ble_eq_true rfl) dX5_answer_5 rfl ?_
  refine v_aload_n 1 dX5_answer_8 rfl rfl ?_
  refine v_get f_Sampler_27 1 rfl rfl dX5_answer_9 ?_
  refine v_tableIn (off := 263) (tgt := 275) dX5_answer_12 (by decide) (by decide) (by decide) (by decide) ?_
  refine v_aload_n 0 dX5_answer_275 rfl rfl ?_
  refine v_get f_Sampler_23 0 rfl rfl dX5_answer_276 ?_
  refine v_aload_n 1 dX5_answer_279 rfl rfl ?_
  refine v_get f_Sampler_33 1 rfl rfl dX5_answer_280 ?_
  refine v_callV (as := [.int (nI x)]) (rest := []) (ws' := fun u => [(sa, .inr (5, [.ref tq, .ref lq, .ref d, .ref o])), (oo, .inr (3, [.int (nI 11), .int (nI x), .int b1, .int c1])), (o, .inr (4, [.ref d, .ref st, .ref us, .ref pe, .ref it, .int (nI (2 * x))])), (d, .inr (0, [.ref w, .int (nI fr), .int (nI u.2.2.1), .int (nI e), .int (dI u.2.2.2)])), (w, .inl (cI, n, .inl f)), (st, .inl (cI, 256, .inl u.1)), (us, .inl (cI, 128, .inl gu)), (pe, .inl (cI, 128, .inl gpe)), (it, .inl (cI, 256, .inl u.2.1)), (lq, .inr (1, [.ref d])), (tq, .inl (cT, 8, .inr (.inr (.inr (.inr tf))))), (tb, .inr (6, [.ref wq, .ref sq, .ref pq, .ref rq, .int mI, .int (nI tp), .long (lN sm)])), (wq, .inl (cI, 64, .inl gw)), (pq, .inl (cI, 64, .inl gp)), (rq, .inl (cJ, 64, .inr (.inl gr)))]) m_Sampler_101 (kX4_path X.l (o := o) (d := d) (w := w) (n := n) (f := f) (fr := fr) (p := p) (e := e) (dr := dr) (st := st) (us := us) (pe := pe) (it := it) (n0 := x) (sz := 0) (gs := gs) (gi := gi) hp he hn hdr hx) k_code_X4_path [2, 3, 4, 5, 8] 2 rfl rfl rfl rfl dX5_answer_283 (Nat.le_of_ble_eq_true rfl) ⟨rfl, rfl, by decide, by decide⟩ ⟨Nat.zero_le _, Nat.zero_le _⟩ rfl rfl (fun _ => rfl) (fun _ => rfl) ?_
  intro u283 c283
  obtain ⟨g0, g1, p1, d1⟩ := u283
  try dsimp only at c283
  show V (gG D cI cJ cT) X (rmD 5) cX5_answer 2 RX5 [(sa, .inr (5, [.ref tq, .ref lq, .ref d, .ref o])), (oo, .inr (3, [.int (nI 11), .int (nI x), .int b1, .int c1])), (o, .inr (4, [.ref d, .ref st, .ref us, .ref pe, .ref it, .int (nI (2 * x))])), (d, .inr (0, [.ref w, .int (nI fr), .int (nI p1), .int (nI e), .int (dI d1)])), (w, .inl (cI, n, .inl f)), (st, .inl (cI, 256, .inl g0)), (us, .inl (cI, 128, .inl gu)), (pe, .inl (cI, 128, .inl gpe)), (it, .inl (cI, 256, .inl g1)), (lq, .inr (1, [.ref d])), (tq, .inl (cT, 8, .inr (.inr (.inr (.inr tf))))), (tb, .inr (6, [.ref wq, .ref sq, .ref pq, .ref rq, .int mI, .int (nI tp), .long (lN sm)])), (wq, .inl (cI, 64, .inl gw)), (pq, .inl (cI, 64, .inl gp)), (rq, .inl (cJ, 64, .inr (.inl gr)))] 0 0 [(0, .ref sa), (1, .ref oo)] 286 [.int (nI (2 * x))]
  refine v_i2l (v := lN (2 * x)) dX5_answer_286 (nI_l (by omega)) ?_
  exact v_lret hE dX5_answer_287 (lN (2 * x), 2 * x, g0, gu, gpe, g1, gr, p1, d1) (⟨Rg_oF c283, by show 2 * x ≤ 256; omega, fun _ => rfl⟩) rfl rfl
set_option maxRecDepth 100000 in
set_option maxHeartbeats 4000000 in
theorem kX5_answer_12 {D : va_G} {cI cJ cT : ClassId} (l : Launch) {sa oo o d w st us pe it lq tq tb wq sq pq rq n : Nat} {f : Nat → Int32} {fr p e : Nat} {dr : Bool} {gs gu gpe gi gw gp : Nat → Int32} {gr : Nat → Int64} {tf : Nat → Option Nat} {s0 : Int32} {x y z mm : Nat} {W : Nat → Nat} {b1 c1 mI : Int32} {tp sm : Nat} (hp : p ≤ e) (he : e ≤ 32 * n) (hn : n ≤ 512) (hdr : dr = true → p = e) (hx : x ≤ 128) : Fn (S := Int64 × Nat × (Nat → Int32) × (Nat → Int32) × (Nat → Int32) × (Nat → Int32) × (Nat → Int64) × Nat × Bool) (gG D cI cJ cT) l yX5_answer (.code yX5_answer cX5_answer 2 (some .long)) (rmD 5) [.ref sa, .ref oo] [(sa, .inr (5, [.ref tq, .ref lq, .ref d, .ref o])), (oo, .inr (3, [.int (nI 12), .int (nI x), .int b1, .int c1])), (o, .inr (4, [.ref d, .ref st, .ref us, .ref pe, .ref it, .int s0])), (d, .inr (0, [.ref w, .int (nI fr), .int (nI p), .int (nI e), .int (dI dr)])), (w, .inl (cI, n, .inl f)), (st, .inl (cI, 256, .inl gs)), (us, .inl (cI, 128, .inl gu)), (pe, .inl (cI, 128, .inl gpe)), (it, .inl (cI, 256, .inl gi)), (lq, .inr (1, [.ref d])), (tq, .inl (cT, 8, .inr (.inr (.inr (.inr tf))))), (tb, .inr (6, [.ref wq, .ref sq, .ref pq, .ref rq, .int mI, .int (nI tp), .long (lN sm)])), (wq, .inl (cI, 64, .inl gw)), (pq, .inl (cI, 64, .inl gp)), (rq, .inl (cJ, 64, .inr (.inl gr)))] (fun u => Rg (sAns (bitW f) e 12 x y z W mm p) e p dr (mA u.1 u.2.1 u.2.2.2.2.2.1) u.2.2.2.2.2.2.2.1 u.2.2.2.2.2.2.2.2 ∧ u.2.1 ≤ 256 ∧ (mm = 1 → u.2.2.2.2.2.2.1 = gr)) (fun u => some (.long u.1)) (fun u => [(sa, .inr (5, [.ref tq, .ref lq, .ref d, .ref o])), (oo, .inr (3, [.int (nI 12), .int (nI x), .int b1, .int c1])), (o, .inr (4, [.ref d, .ref st, .ref us, .ref pe, .ref it, .int (nI u.2.1)])), (d, .inr (0, [.ref w, .int (nI fr), .int (nI u.2.2.2.2.2.2.2.1), .int (nI e), .int (dI u.2.2.2.2.2.2.2.2)])), (w, .inl (cI, n, .inl f)), (st, .inl (cI, 256, .inl u.2.2.1)), (us, .inl (cI, 128, .inl u.2.2.2.1)), (pe, .inl (cI, 128, .inl u.2.2.2.2.1)), (it, .inl (cI, 256, .inl u.2.2.2.2.2.1)), (lq, .inr (1, [.ref d])), (tq, .inl (cT, 8, .inr (.inr (.inr (.inr tf))))), (tb, .inr (6, [.ref wq, .ref sq, .ref pq, .ref rq, .int mI, .int (nI tp), .long (lN sm)])), (wq, .inl (cI, 64, .inl gw)), (pq, .inl (cI, 64, .inl gp)), (rq, .inl (cJ, 64, .inr (.inl u.2.2.2.2.2.2.1)))]) := by
  refine Fn.intro (by decide) (Nat.le_of_ble_eq_true rfl) ?_
  intro X hX hE hin
  subst hX
  show V (gG D cI cJ cT) X _ cX5_answer 2 RX5 _ 0 0 [(0, .ref sa), (1, .ref oo)] 0 []
  refine v_aload_n 0 dX5_answer_0 rfl rfl ?_
  refine v_get f_Sampler_23 0 rfl rfl dX5_answer_1 ?_
  refine v_iconst (v := nI 0) dX5_answer_4 (by decide) ?_
  refine v_put (ws' := [(sa, .inr (5, [.ref tq, .ref lq, .ref d, .ref o])), (oo, .inr (3, [.int (nI 12), .int (nI x), .int b1, .int c1])), (o, .inr (4, [.ref d, .ref st, .ref us, .ref pe, .ref it, .int (nI 0)])), (d, .inr (0, [.ref w, .int (nI fr), .int (nI p), .int (nI e), .int (dI dr)])), (w, .inl (cI, n, .inl f)), (st, .inl (cI, 256, .inl gs)), (us, .inl (cI, 128, .inl gu)), (pe, .inl (cI, 128, .inl gpe)), (it, .inl (cI, 256, .inl gi)), (lq, .inr (1, [.ref d])), (tq, .inl (cT, 8, .inr (.inr (.inr (.inr tf))))), (tb, .inr (6, [.ref wq, .ref sq, .ref pq, .ref rq, .int mI, .int (nI tp), .long (lN sm)])), (wq, .inl (cI, 64, .inl gw)), (pq, .inl (cI, 64, .inl gp)), (rq, .inl (cJ, 64, .inr (.inl gr)))]) fw_Sampler_41 2 rfl (rfl) (rfl) (Nat.le_of_ble_eq_true rfl) dX5_answer_5 rfl ?_
  refine v_aload_n 1 dX5_answer_8 rfl rfl ?_
  refine v_get f_Sampler_27 1 rfl rfl dX5_answer_9 ?_
  refine v_tableIn (off := 276) (tgt := 288) dX5_answer_12 (by decide) (by decide) (by decide) (by decide) ?_
  refine v_aload_n 0 dX5_answer_288 rfl rfl ?_
  refine v_get f_Sampler_23 0 rfl rfl dX5_answer_289 ?_
  refine v_aload_n 1 dX5_answer_292 rfl rfl ?_
  refine v_get f_Sampler_33 1 rfl rfl dX5_answer_293 ?_
  refine v_callV (as := [.int (nI x)]) (rest := []) (ws' := fun u => [(sa, .inr (5, [.ref tq, .ref lq, .ref d, .ref o])), (oo, .inr (3, [.int (nI 12), .int (nI x), .int b1, .int c1])), (o, .inr (4, [.ref d, .ref st, .ref us, .ref pe, .ref it, .int (nI x)])), (d, .inr (0, [.ref w, .int (nI fr), .int (nI u.2.2.2.2.1), .int (nI e), .int (dI u.2.2.2.2.2)])), (w, .inl (cI, n, .inl f)), (st, .inl (cI, 256, .inl u.1)), (us, .inl (cI, 128, .inl u.2.1)), (pe, .inl (cI, 128, .inl u.2.2.1)), (it, .inl (cI, 256, .inl u.2.2.2.1)), (lq, .inr (1, [.ref d])), (tq, .inl (cT, 8, .inr (.inr (.inr (.inr tf))))), (tb, .inr (6, [.ref wq, .ref sq, .ref pq, .ref rq, .int mI, .int (nI tp), .long (lN sm)])), (wq, .inl (cI, 64, .inl gw)), (pq, .inl (cI, 64, .inl gp)), (rq, .inl (cJ, 64, .inr (.inl gr)))]) m_Sampler_104 (kX4_tree X.l (o := o) (d := d) (w := w) (n := n) (f := f) (fr := fr) (p := p) (e := e) (dr := dr) (st := st) (us := us) (pe := pe) (it := it) (n0 := x) (sz := 0) (gs := gs) (gu := gu) (gp := gpe) (gi := gi) hp he hn hdr hx) k_code_X4_tree [2, 3, 4, 5, 6, 7, 8] 2 rfl rfl rfl rfl dX5_answer_296 (Nat.le_of_ble_eq_true rfl) ⟨rfl, rfl, by decide, by decide⟩ ⟨Nat.zero_le _, Nat.zero_le _⟩ rfl rfl (fun _ => rfl) (fun _ => rfl) ?_
  intro u296 c296
  obtain ⟨g0, g2, g3, g1, p1, d1⟩ := u296
  try dsimp only at c296
  show V (gG D cI cJ cT) X (rmD 5) cX5_answer 2 RX5 [(sa, .inr (5, [.ref tq, .ref lq, .ref d, .ref o])), (oo, .inr (3, [.int (nI 12), .int (nI x), .int b1, .int c1])), (o, .inr (4, [.ref d, .ref st, .ref us, .ref pe, .ref it, .int (nI x)])), (d, .inr (0, [.ref w, .int (nI fr), .int (nI p1), .int (nI e), .int (dI d1)])), (w, .inl (cI, n, .inl f)), (st, .inl (cI, 256, .inl g0)), (us, .inl (cI, 128, .inl g2)), (pe, .inl (cI, 128, .inl g3)), (it, .inl (cI, 256, .inl g1)), (lq, .inr (1, [.ref d])), (tq, .inl (cT, 8, .inr (.inr (.inr (.inr tf))))), (tb, .inr (6, [.ref wq, .ref sq, .ref pq, .ref rq, .int mI, .int (nI tp), .long (lN sm)])), (wq, .inl (cI, 64, .inl gw)), (pq, .inl (cI, 64, .inl gp)), (rq, .inl (cJ, 64, .inr (.inl gr)))] 0 0 [(0, .ref sa), (1, .ref oo)] 299 [.int (nI x)]
  refine v_i2l (v := lN x) dX5_answer_299 (nI_l (by omega)) ?_
  exact v_lret hE dX5_answer_300 (lN x, x, g0, g2, g3, g1, gr, p1, d1) (⟨Rg_oF c296, by show x ≤ 256; omega, fun _ => rfl⟩) rfl rfl
set_option maxRecDepth 100000 in
set_option maxHeartbeats 4000000 in
theorem kX5_answer_13 {D : va_G} {cI cJ cT : ClassId} (l : Launch) {sa oo o d w st us pe it lq tq tb wq sq pq rq n : Nat} {f : Nat → Int32} {fr p e : Nat} {dr : Bool} {gs gu gpe gi gw gp : Nat → Int32} {gr : Nat → Int64} {tf : Nat → Option Nat} {s0 : Int32} {x y z mm : Nat} {W : Nat → Nat} {c1 mI : Int32} {tp sm : Nat} (hp : p ≤ e) (he : e ≤ 32 * n) (hn : n ≤ 512) (hdr : dr = true → p = e) (hx : x ≤ 256) (hy0 : 0 < y) (hy : y < 2 ^ 31) : Fn (S := Int64 × Nat × (Nat → Int32) × (Nat → Int32) × (Nat → Int32) × (Nat → Int32) × (Nat → Int64) × Nat × Bool) (gG D cI cJ cT) l yX5_answer (.code yX5_answer cX5_answer 2 (some .long)) (rmD 5) [.ref sa, .ref oo] [(sa, .inr (5, [.ref tq, .ref lq, .ref d, .ref o])), (oo, .inr (3, [.int (nI 13), .int (nI x), .int (nI y), .int c1])), (o, .inr (4, [.ref d, .ref st, .ref us, .ref pe, .ref it, .int s0])), (d, .inr (0, [.ref w, .int (nI fr), .int (nI p), .int (nI e), .int (dI dr)])), (w, .inl (cI, n, .inl f)), (st, .inl (cI, 256, .inl gs)), (us, .inl (cI, 128, .inl gu)), (pe, .inl (cI, 128, .inl gpe)), (it, .inl (cI, 256, .inl gi)), (lq, .inr (1, [.ref d])), (tq, .inl (cT, 8, .inr (.inr (.inr (.inr tf))))), (tb, .inr (6, [.ref wq, .ref sq, .ref pq, .ref rq, .int mI, .int (nI tp), .long (lN sm)])), (wq, .inl (cI, 64, .inl gw)), (pq, .inl (cI, 64, .inl gp)), (rq, .inl (cJ, 64, .inr (.inl gr)))] (fun u => Rg (sAns (bitW f) e 13 x y z W mm p) e p dr (mA u.1 u.2.1 u.2.2.2.2.2.1) u.2.2.2.2.2.2.2.1 u.2.2.2.2.2.2.2.2 ∧ u.2.1 ≤ 256 ∧ (mm = 1 → u.2.2.2.2.2.2.1 = gr)) (fun u => some (.long u.1)) (fun u => [(sa, .inr (5, [.ref tq, .ref lq, .ref d, .ref o])), (oo, .inr (3, [.int (nI 13), .int (nI x), .int (nI y), .int c1])), (o, .inr (4, [.ref d, .ref st, .ref us, .ref pe, .ref it, .int (nI u.2.1)])), (d, .inr (0, [.ref w, .int (nI fr), .int (nI u.2.2.2.2.2.2.2.1), .int (nI e), .int (dI u.2.2.2.2.2.2.2.2)])), (w, .inl (cI, n, .inl f)), (st, .inl (cI, 256, .inl u.2.2.1)), (us, .inl (cI, 128, .inl u.2.2.2.1)), (pe, .inl (cI, 128, .inl u.2.2.2.2.1)), (it, .inl (cI, 256, .inl u.2.2.2.2.2.1)), (lq, .inr (1, [.ref d])), (tq, .inl (cT, 8, .inr (.inr (.inr (.inr tf))))), (tb, .inr (6, [.ref wq, .ref sq, .ref pq, .ref rq, .int mI, .int (nI tp), .long (lN sm)])), (wq, .inl (cI, 64, .inl gw)), (pq, .inl (cI, 64, .inl gp)), (rq, .inl (cJ, 64, .inr (.inl u.2.2.2.2.2.2.1)))]) := by
  refine Fn.intro (by decide) (Nat.le_of_ble_eq_true rfl) ?_
  intro X hX hE hin
  subst hX
  show V (gG D cI cJ cT) X _ cX5_answer 2 RX5 _ 0 0 [(0, .ref sa), (1, .ref oo)] 0 []
  refine v_aload_n 0 dX5_answer_0 rfl rfl ?_
  refine v_get f_Sampler_23 0 rfl rfl dX5_answer_1 ?_
  refine v_iconst (v := nI 0) dX5_answer_4 (by decide) ?_
  refine v_put (ws' := [(sa, .inr (5, [.ref tq, .ref lq, .ref d, .ref o])), (oo, .inr (3, [.int (nI 13), .int (nI x), .int (nI y), .int c1])), (o, .inr (4, [.ref d, .ref st, .ref us, .ref pe, .ref it, .int (nI 0)])), (d, .inr (0, [.ref w, .int (nI fr), .int (nI p), .int (nI e), .int (dI dr)])), (w, .inl (cI, n, .inl f)), (st, .inl (cI, 256, .inl gs)), (us, .inl (cI, 128, .inl gu)), (pe, .inl (cI, 128, .inl gpe)), (it, .inl (cI, 256, .inl gi)), (lq, .inr (1, [.ref d])), (tq, .inl (cT, 8, .inr (.inr (.inr (.inr tf))))), (tb, .inr (6, [.ref wq, .ref sq, .ref pq, .ref rq, .int mI, .int (nI tp), .long (lN sm)])), (wq, .inl (cI, 64, .inl gw)), (pq, .inl (cI, 64, .inl gp)), (rq, .inl (cJ, 64, .inr (.inl gr)))]) fw_Sampler_41 2 rfl (rfl) (rfl) (Nat.le_of_ble_eq_true rfl) dX5_answer_5 rfl ?_
  refine v_aload_n 1 dX5_answer_8 rfl rfl ?_
  refine v_get f_Sampler_27 1 rfl rfl dX5_answer_9 ?_
  refine v_tableOut (tgt := 301) dX5_answer_12 (Or.inr (by decide)) (by decide) ?_
  refine v_aload_n 0 dX5_answer_301 rfl rfl ?_
  refine v_get f_Sampler_23 0 rfl rfl dX5_answer_302 ?_
  refine v_aload_n 1 dX5_answer_305 rfl rfl ?_
  refine v_get f_Sampler_33 1 rfl rfl dX5_answer_306 ?_
  refine v_aload_n 1 dX5_answer_309 rfl rfl ?_
  refine v_get f_Sampler_60 1 rfl rfl dX5_answer_310 ?_
  refine v_callV (as := [.int (nI x), .int (nI y)]) (rest := []) (ws' := fun u => [(sa, .inr (5, [.ref tq, .ref lq, .ref d, .ref o])), (oo, .inr (3, [.int (nI 13), .int (nI x), .int (nI y), .int c1])), (o, .inr (4, [.ref d, .ref st, .ref us, .ref pe, .ref it, .int (nI x)])), (d, .inr (0, [.ref w, .int (nI fr), .int (nI u.2.1), .int (nI e), .int (dI u.2.2)])), (w, .inl (cI, n, .inl f)), (st, .inl (cI, 256, .inl gs)), (us, .inl (cI, 128, .inl gu)), (pe, .inl (cI, 128, .inl gpe)), (it, .inl (cI, 256, .inl u.1)), (lq, .inr (1, [.ref d])), (tq, .inl (cT, 8, .inr (.inr (.inr (.inr tf))))), (tb, .inr (6, [.ref wq, .ref sq, .ref pq, .ref rq, .int mI, .int (nI tp), .long (lN sm)])), (wq, .inl (cI, 64, .inl gw)), (pq, .inl (cI, 64, .inl gp)), (rq, .inl (cJ, 64, .inr (.inl gr)))]) m_Sampler_107 (kX4_stratum X.l (o := o) (d := d) (w := w) (n := n) (f := f) (fr := fr) (p := p) (e := e) (dr := dr) (st := st) (us := us) (pe := pe) (it := it) (n0 := x) (arms := y) (sz := 0) (gi := gi) hp he hn hdr hx hy0 hy) k_code_X4_stratum [2, 3, 4, 8] 2 rfl rfl rfl rfl dX5_answer_313 (Nat.le_of_ble_eq_true rfl) ⟨rfl, rfl, by decide, by decide⟩ ⟨Nat.zero_le _, Nat.zero_le _⟩ rfl rfl (fun _ => rfl) (fun _ => rfl) ?_
  intro u313 c313
  obtain ⟨g1, p1, d1⟩ := u313
  try dsimp only at c313
  show V (gG D cI cJ cT) X (rmD 5) cX5_answer 2 RX5 [(sa, .inr (5, [.ref tq, .ref lq, .ref d, .ref o])), (oo, .inr (3, [.int (nI 13), .int (nI x), .int (nI y), .int c1])), (o, .inr (4, [.ref d, .ref st, .ref us, .ref pe, .ref it, .int (nI x)])), (d, .inr (0, [.ref w, .int (nI fr), .int (nI p1), .int (nI e), .int (dI d1)])), (w, .inl (cI, n, .inl f)), (st, .inl (cI, 256, .inl gs)), (us, .inl (cI, 128, .inl gu)), (pe, .inl (cI, 128, .inl gpe)), (it, .inl (cI, 256, .inl g1)), (lq, .inr (1, [.ref d])), (tq, .inl (cT, 8, .inr (.inr (.inr (.inr tf))))), (tb, .inr (6, [.ref wq, .ref sq, .ref pq, .ref rq, .int mI, .int (nI tp), .long (lN sm)])), (wq, .inl (cI, 64, .inl gw)), (pq, .inl (cI, 64, .inl gp)), (rq, .inl (cJ, 64, .inr (.inl gr)))] 0 0 [(0, .ref sa), (1, .ref oo)] 316 [.int (nI x)]
  refine v_i2l (v := lN x) dX5_answer_316 (nI_l (by omega)) ?_
  exact v_lret hE dX5_answer_317 (lN x, x, gs, gu, gpe, g1, gr, p1, d1) (⟨Rg_oF c313, hx, fun _ => rfl⟩) rfl rfl
theorem up_of {x m : Int32} {M : Nat} (hm : m = nI M) (hM : M < 2 ^ 31) (h : up x m = true) : ∃ n, n ≤ M ∧ x = nI n := by
  unfold up at h
  simp only [Bool.and_eq_true, Bool.not_eq_true', decide_eq_false_iff_not] at h
  obtain ⟨n, h1, rfl⟩ := nI_of h.1
  refine ⟨n, ?_, rfl⟩
  have h2 := h.2
  rw [hm, nI_ltI hM h1] at h2
  omega
theorem ra_of {x y : Int32} {m : Int64} {M : Nat} (hm : m = lN M) (hM : M ≤ 1000) (h : ra x y m = true) : ∃ a b, a < 2 ^ 31 ∧ 0 < b ∧ b < 2 ^ 31 ∧ a ≤ M * b ∧ x = nI a ∧ y = nI b := by
  unfold ra at h
  simp only [Bool.and_eq_true, Bool.not_eq_true', decide_eq_false_iff_not] at h
  obtain ⟨⟨h1, h2⟩, h3⟩ := h
  obtain ⟨a, ha, rfl⟩ := nI_of h1
  have h20 : ¬ y < 0 := fun q => h2 (by rw [Int32.lt_iff_toInt_lt] at q ⊢; have : (1 : Int32).toInt = 1 := by decide
                                        have : (0 : Int32).toInt = 0 := by decide
                                        omega)
  obtain ⟨b, hb, rfl⟩ := nI_of h20
  have hb0 : 0 < b := by
    rcases Nat.eq_zero_or_pos b with q | q
    · subst q; exact absurd (by decide) h2
    · exact q
  refine ⟨a, b, ha, hb0, hb, ?_, rfl, rfl⟩
  have hMb : M * b ≤ 1000 * 2 ^ 31 := Nat.mul_le_mul hM (Nat.le_of_lt hb)
  rw [hm, nI_l hb, nI_l ha, lN_mul, pk_lLT (by omega) (by omega)] at h3
  omega
theorem ge1_of {x : Int32} (h : ¬ x < 1) : ∃ n, 0 < n ∧ n < 2 ^ 31 ∧ x = nI n := by
  have h20 : ¬ x < 0 := fun q => h (by rw [Int32.lt_iff_toInt_lt] at q ⊢; have : (1 : Int32).toInt = 1 := by decide
                                       have : (0 : Int32).toInt = 0 := by decide
                                       omega)
  obtain ⟨b, hb, rfl⟩ := nI_of h20
  refine ⟨b, ?_, hb, rfl⟩
  rcases Nat.eq_zero_or_pos b with q | q
  · subst q; exact absurd (by decide) h
  · exact q
def sAnsI (b : Nat → Nat) (e : Nat) (kd x y z : Int32) (W : Nat → Nat) (mm p : Nat) : Option (sR × Nat) := sAns b e kd.toInt.toNat x.toNatClampNeg y.toNatClampNeg z.toNatClampNeg W mm p
theorem kd_k {k : Nat} (hk : k < 14) : (nI k).toInt.toNat = k := by rw [nI_toInt (by omega)]; simp
/-- a table as the state has it: weights W, built (mm = 1 with aliases) -/
def TabOk (mI : Int32) (tp sm : Nat) (W : Nat → Nat) (mm : Nat) (gp : Nat → Int32) (gr : Nat → Int64) : Prop :=
  mI = nI mm ∧ tp = topN W 64 ∧ sm = sumN W 64 ∧ mm ≤ 1 ∧ 0 < sumN W 64 ∧ (mm = 1 → (∀ x, x < topN W 64 → gr x = lN ((alS W (topN W 64) (sumN W 64)).1 x)) ∧ ∀ x, x < topN W 64 → gp x = nI ((alS W (topN W 64) (sumN W 64)).2 x))
set_option maxRecDepth 100000 in
set_option maxHeartbeats 4000000 in
theorem kX5_answer {D : va_G} {cI cJ cT : ClassId} (l : Launch) {sa oo o d w st us pe it lq tq tb wq sq pq rq n : Nat} {f : Nat → Int32} {fr p e : Nat} {dr : Bool} {gs gu gpe gi gw gp : Nat → Int32} {gr : Nat → Int64} {tf : Nat → Option Nat} {s0 : Int32} {mm : Nat} {W : Nat → Nat} {kd a b c mI : Int32} {tp sm : Nat} (hp : p ≤ e) (he : e ≤ 32 * n) (hn : n ≤ 512) (hdr : dr = true → p = e) (hok : okD kd a b c = true) (hW : ∀ x, x < 64 → gw x = nI (W x)) (hWb : ∀ x, x < 64 → W x < 2 ^ 31) (ht : kd = nI 0 → tf a.toNatClampNeg = some tb ∧ TabOk mI tp sm W mm gp gr) : Fn (S := Int64 × Nat × (Nat → Int32) × (Nat → Int32) × (Nat → Int32) × (Nat → Int32) × (Nat → Int64) × Nat × Bool) (gG D cI cJ cT) l yX5_answer (.code yX5_answer cX5_answer 2 (some .long)) (rmD 5) [.ref sa, .ref oo] [(sa, .inr (5, [.ref tq, .ref lq, .ref d, .ref o])), (oo, .inr (3, [.int kd, .int a, .int b, .int c])), (o, .inr (4, [.ref d, .ref st, .ref us, .ref pe, .ref it, .int s0])), (d, .inr (0, [.ref w, .int (nI fr), .int (nI p), .int (nI e), .int (dI dr)])), (w, .inl (cI, n, .inl f)), (st, .inl (cI, 256, .inl gs)), (us, .inl (cI, 128, .inl gu)), (pe, .inl (cI, 128, .inl gpe)), (it, .inl (cI, 256, .inl gi)), (lq, .inr (1, [.ref d])), (tq, .inl (cT, 8, .inr (.inr (.inr (.inr tf))))), (tb, .inr (6, [.ref wq, .ref sq, .ref pq, .ref rq, .int mI, .int (nI tp), .long (lN sm)])), (wq, .inl (cI, 64, .inl gw)), (pq, .inl (cI, 64, .inl gp)), (rq, .inl (cJ, 64, .inr (.inl gr)))] (fun u => Rg (sAnsI (bitW f) e kd a b c W mm p) e p dr (mA u.1 u.2.1 u.2.2.2.2.2.1) u.2.2.2.2.2.2.2.1 u.2.2.2.2.2.2.2.2 ∧ u.2.1 ≤ 256 ∧ (mm = 1 → u.2.2.2.2.2.2.1 = gr)) (fun u => some (.long u.1)) (fun u => [(sa, .inr (5, [.ref tq, .ref lq, .ref d, .ref o])), (oo, .inr (3, [.int kd, .int a, .int b, .int c])), (o, .inr (4, [.ref d, .ref st, .ref us, .ref pe, .ref it, .int (nI u.2.1)])), (d, .inr (0, [.ref w, .int (nI fr), .int (nI u.2.2.2.2.2.2.2.1), .int (nI e), .int (dI u.2.2.2.2.2.2.2.2)])), (w, .inl (cI, n, .inl f)), (st, .inl (cI, 256, .inl u.2.2.1)), (us, .inl (cI, 128, .inl u.2.2.2.1)), (pe, .inl (cI, 128, .inl u.2.2.2.2.1)), (it, .inl (cI, 256, .inl u.2.2.2.2.2.1)), (lq, .inr (1, [.ref d])), (tq, .inl (cT, 8, .inr (.inr (.inr (.inr tf))))), (tb, .inr (6, [.ref wq, .ref sq, .ref pq, .ref rq, .int mI, .int (nI tp), .long (lN sm)])), (wq, .inl (cI, 64, .inl gw)), (pq, .inl (cI, 64, .inl gp)), (rq, .inl (cJ, 64, .inr (.inl u.2.2.2.2.2.2.1)))]) := by
  rcases sw14 kd with h | ⟨k, hk0, rfl⟩
  · rw [show okD kd a b c = false from if_pos h] at hok; cases hok
  rcases (show k = 0 ∨ k = 1 ∨ k = 2 ∨ k = 3 ∨ k = 4 ∨ k = 5 ∨ k = 6 ∨ k = 7 ∨ k = 8 ∨ k = 9 ∨ k = 10 ∨ k = 11 ∨ k = 12 ∨ k = 13 by omega) with rfl | rfl | rfl | rfl | rfl | rfl | rfl | rfl | rfl | rfl | rfl | rfl | rfl | rfl
  · have hk : okK 0 a b c = true := by rw [← okD_k (by decide)]; exact hok
    simp only [okK, Bool.and_eq_true, Bool.not_eq_true', decide_eq_false_iff_not, decide_eq_true_eq] at hk
    obtain ⟨x, hx, rfl⟩ := up_of (M := 7) (by decide) (by decide) hk
    obtain ⟨htf, rfl, rfl, rfl, hmm, h0, hal⟩ := ht rfl
    rw [nI_clamp (by omega)] at htf
    unfold sAnsI
    rw [kd_k (by decide)]
    rw [nI_clamp (by omega)]
    exact kX5_answer_0 l hp he hn hdr (by omega) htf hmm h0 hW hWb hal
  · have hk : okK 1 a b c = true := by rw [← okD_k (by decide)]; exact hok
    simp only [okK, Bool.and_eq_true, Bool.not_eq_true', decide_eq_false_iff_not, decide_eq_true_eq] at hk
    obtain ⟨x, hx, rfl⟩ := nI_of hk.1.1
    obtain ⟨y, hy, rfl⟩ := up_of (M := 511) (by decide) (by decide) hk.1.2
    have hw := hk.2
    unfold wd at hw
    rw [nI_l (by omega), nI_l (by omega), show (2147483648 : Int64) = lN 2147483648 by decide, show (1 : Int64) = lN 1 by decide, lN_mul, lN_add, pk_lLT (by omega) (by decide)] at hw
    unfold sAnsI
    rw [kd_k (by decide)]
    rw [nI_clamp (by omega), nI_clamp (by omega)]
    exact kX5_answer_1 l hp he hn hdr hx hy (by omega)
  · have hk : okK 2 a b c = true := by rw [← okD_k (by decide)]; exact hok
    simp only [okK, Bool.and_eq_true, Bool.not_eq_true', decide_eq_false_iff_not, decide_eq_true_eq] at hk
    obtain ⟨x, y, hx, hy0, hy, hxy, rfl, rfl⟩ := ra_of (M := 1) (by decide) (by decide) hk
    unfold sAnsI
    rw [kd_k (by decide)]
    rw [nI_clamp (by omega), nI_clamp (by omega)]
    exact kX5_answer_2 l hp he hn hdr (by omega) hy
  · have hk : okK 3 a b c = true := by rw [← okD_k (by decide)]; exact hok
    simp only [okK, Bool.and_eq_true, Bool.not_eq_true', decide_eq_false_iff_not, decide_eq_true_eq] at hk
    obtain ⟨x, hx, rfl⟩ := up_of (M := 1000) (by decide) (by decide) hk.1
    obtain ⟨y, z, hy, hz0, hz, hyz, rfl, rfl⟩ := ra_of (M := 1) (by decide) (by decide) hk.2
    unfold sAnsI
    rw [kd_k (by decide)]
    rw [nI_clamp (by omega), nI_clamp (by omega), nI_clamp (by omega)]
    exact kX5_answer_3 l hp he hn hdr hx (by omega) hz
  · have hk : okK 4 a b c = true := by rw [← okD_k (by decide)]; exact hok
    simp only [okK, Bool.and_eq_true, Bool.not_eq_true', decide_eq_false_iff_not, decide_eq_true_eq] at hk
    obtain ⟨x, y, hx, hy0, hy, hxy, rfl, rfl⟩ := ra_of (M := 1) (by decide) (by decide) hk.1
    obtain ⟨z, hz, rfl⟩ := up_of (M := 100000) (by decide) (by decide) hk.2
    unfold sAnsI
    rw [kd_k (by decide)]
    rw [nI_clamp (by omega), nI_clamp (by omega), nI_clamp (by omega)]
    exact kX5_answer_4 l hp he hn hdr (by omega) hy hz
  · have hk : okK 5 a b c = true := by rw [← okD_k (by decide)]; exact hok
    simp only [okK, Bool.and_eq_true, Bool.not_eq_true', decide_eq_false_iff_not, decide_eq_true_eq] at hk
    obtain ⟨x, y, hx, hy0, hy, hxy, rfl, rfl⟩ := ra_of (M := 64) (by decide) (by decide) hk
    unfold sAnsI
    rw [kd_k (by decide)]
    rw [nI_clamp (by omega), nI_clamp (by omega)]
    exact kX5_answer_5 l hp he hn hdr hx hy0 hxy hy
  · have hk : okK 6 a b c = true := by rw [← okD_k (by decide)]; exact hok
    simp only [okK, Bool.and_eq_true, Bool.not_eq_true', decide_eq_false_iff_not, decide_eq_true_eq] at hk
    obtain ⟨x, hx, rfl⟩ := up_of (M := 100000) (by decide) (by decide) hk.1.1
    obtain ⟨y, hy, rfl⟩ := up_of (M := 100000) (by decide) (by decide) hk.1.2
    obtain ⟨z, hz, rfl⟩ := up_of (M := x + y) (nI_add x y) (by omega) hk.2
    unfold sAnsI
    rw [kd_k (by decide)]
    rw [nI_clamp (by omega), nI_clamp (by omega), nI_clamp (by omega)]
    exact kX5_answer_6 l hp he hn hdr hx hy hz
  · have hk : okK 7 a b c = true := by rw [← okD_k (by decide)]; exact hok
    simp only [okK, Bool.and_eq_true, Bool.not_eq_true', decide_eq_false_iff_not, decide_eq_true_eq] at hk
    obtain ⟨x, hx, rfl⟩ := up_of (M := 1000) (by decide) (by decide) hk.1.1.2
    obtain ⟨x2, hx1, hx3, e1⟩ := ge1_of hk.1.1.1
    have e2 := (nI_eq (by omega) hx3).mp e1
    obtain ⟨y, hy, rfl⟩ := up_of (M := 10) (by decide) (by decide) hk.2
    obtain ⟨y2, hy1, hy3, e3⟩ := ge1_of hk.1.2
    have e4 := (nI_eq (by omega) hy3).mp e3
    unfold sAnsI
    rw [kd_k (by decide)]
    rw [nI_clamp (by omega), nI_clamp (by omega)]
    exact kX5_answer_7 l hp he hn hdr hx (by omega) hy (by omega)
  · have hk : okK 8 a b c = true := by rw [← okD_k (by decide)]; exact hok
    simp only [okK, Bool.and_eq_true, Bool.not_eq_true', decide_eq_false_iff_not, decide_eq_true_eq] at hk
    obtain ⟨x, y, hx, hy0, hy, hxy, rfl, rfl⟩ := ra_of (M := 1000) (by decide) (by decide) hk
    unfold sAnsI
    rw [kd_k (by decide)]
    rw [nI_clamp (by omega), nI_clamp (by omega)]
    exact kX5_answer_8 l hp he hn hdr hx hy0 hy
  · have hk : okK 9 a b c = true := by rw [← okD_k (by decide)]; exact hok
    simp only [okK, Bool.and_eq_true, Bool.not_eq_true', decide_eq_false_iff_not, decide_eq_true_eq] at hk
    obtain ⟨x, hx, rfl⟩ := up_of (M := 256) (by decide) (by decide) hk
    unfold sAnsI
    rw [kd_k (by decide)]
    rw [nI_clamp (by omega)]
    exact kX5_answer_9 l hp he hn hdr hx
  · have hk : okK 10 a b c = true := by rw [← okD_k (by decide)]; exact hok
    simp only [okK, Bool.and_eq_true, Bool.not_eq_true', decide_eq_false_iff_not, decide_eq_true_eq] at hk
    obtain ⟨x, hx, rfl⟩ := up_of (M := 256) (by decide) (by decide) hk.1
    obtain ⟨y, hy, rfl⟩ := up_of (M := x) rfl (by omega) hk.2
    unfold sAnsI
    rw [kd_k (by decide)]
    rw [nI_clamp (by omega), nI_clamp (by omega)]
    exact kX5_answer_10 l hp he hn hdr hx hy
  · have hk : okK 11 a b c = true := by rw [← okD_k (by decide)]; exact hok
    simp only [okK, Bool.and_eq_true, Bool.not_eq_true', decide_eq_false_iff_not, decide_eq_true_eq] at hk
    obtain ⟨x, hx, rfl⟩ := up_of (M := 128) (by decide) (by decide) hk
    unfold sAnsI
    rw [kd_k (by decide)]
    rw [nI_clamp (by omega)]
    exact kX5_answer_11 l hp he hn hdr hx
  · have hk : okK 12 a b c = true := by rw [← okD_k (by decide)]; exact hok
    simp only [okK, Bool.and_eq_true, Bool.not_eq_true', decide_eq_false_iff_not, decide_eq_true_eq] at hk
    obtain ⟨x, hx, rfl⟩ := up_of (M := 128) (by decide) (by decide) hk
    unfold sAnsI
    rw [kd_k (by decide)]
    rw [nI_clamp (by omega)]
    exact kX5_answer_12 l hp he hn hdr hx
  · have hk : okK 13 a b c = true := by rw [← okD_k (by decide)]; exact hok
    simp only [okK, Bool.and_eq_true, Bool.not_eq_true', decide_eq_false_iff_not, decide_eq_true_eq] at hk
    obtain ⟨x, hx, rfl⟩ := up_of (M := 256) (by decide) (by decide) hk.1.1
    obtain ⟨y, hy0, hy, rfl⟩ := ge1_of hk.1.2
    unfold sAnsI
    rw [kd_k (by decide)]
    rw [nI_clamp (by omega), nI_clamp (by omega)]
    exact kX5_answer_13 l hp he hn hdr hx hy0 hy
