set_option maxRecDepth 100000 in
set_option maxHeartbeats 4000000 in
theorem kX6_exchangeWeight {D : va_G} {cI cJ cT : ClassId} (l : Launch) {tb wq sq pq rq : Nat} {m : Int32} {tp sm i : Nat} {gw : Nat → Int32} {nw : Int32} (hi : i < 64) : Fn (S := Unit) (gG D cI cJ cT) l yX6_exchangeWeight (.code yX6_exchangeWeight cX6_exchangeWeight 4 (some .int)) (rmD 0) [.ref tb, .int (nI i), .int nw] [(tb, .inr (6, [.ref wq, .ref sq, .ref pq, .ref rq, .int m, .int (nI tp), .long (lN sm)])), (wq, .inl (cI, 64, .inl gw))] (fun _ => True) (fun u => some (.int (gw i))) (fun u => [(tb, .inr (6, [.ref wq, .ref sq, .ref pq, .ref rq, .int (-1), .int (nI tp), .long (lN sm)])), (wq, .inl (cI, 64, .inl (upd gw i nw)))]) := by
  refine Fn.intro (by decide) (Nat.le_of_ble_eq_true rfl) ?_
  intro X hX hE hin
  subst hX
  show V (gG D cI cJ cT) X _ cX6_exchangeWeight 4 RX6 _ 0 0 [(0, .ref tb), (1, .int (nI i)), (2, .int nw)] 0 []
  refine v_aload_n 0 dX6_exchangeWeight_0 rfl rfl ?_
  refine v_get f_Table_9 0 rfl rfl dX6_exchangeWeight_1 ?_
  refine v_iload_n 1 dX6_exchangeWeight_4 rfl rfl ?_
  refine v_iald 0 1 rfl rfl (by omega) (by omega) dX6_exchangeWeight_5 ?_
  refine v_istore_n (lv' := [(3, .int (gw i)), (0, .ref tb), (1, .int (nI i)), (2, .int nw)]) dX6_exchangeWeight_6 rfl (by decide) rfl ?_
  refine v_aload_n 1 dX6_exchangeWeight_7 rfl rfl ?_
  refine v_get f_Table_9 0 rfl rfl dX6_exchangeWeight_8 ?_
  refine v_iload_n 2 dX6_exchangeWeight_11 rfl rfl ?_
  refine v_iload_n 3 dX6_exchangeWeight_12 rfl rfl ?_
  refine v_iast (ws' := [(tb, .inr (6, [.ref wq, .ref sq, .ref pq, .ref rq, .int m, .int (nI tp), .long (lN sm)])), (wq, .inl (cI, 64, .inl (upd gw i nw)))]) 0 1 rfl rfl (by omega) (by omega) dX6_exchangeWeight_13 rfl ?_
  refine v_aload_n 1 dX6_exchangeWeight_14 rfl rfl ?_
  refine v_iconst (v := (-1)) dX6_exchangeWeight_15 (by decide) ?_
  refine v_put (ws' := [(tb, .inr (6, [.ref wq, .ref sq, .ref pq, .ref rq, .int ((-1)), .int (nI tp), .long (lN sm)])), (wq, .inl (cI, 64, .inl (upd gw i nw)))]) fw_Table_25 0 rfl (rfl) (rfl) (Nat.le_of_ble_eq_true rfl) dX6_exchangeWeight_16 rfl ?_
  refine v_iload_n 0 dX6_exchangeWeight_19 rfl rfl ?_
  exact v_iret hE dX6_exchangeWeight_20 () (trivial) rfl rfl
set_option maxRecDepth 100000 in
set_option maxHeartbeats 4000000 in
theorem kX6_sum_loop {D : va_G} {cI cJ cT : ClassId} {X : vX} {tb wq sq pq rq : Nat} {m : Int32} {tp sm : Nat} {gw : Nat → Int32} {W : Nat → Nat} (hW : ∀ x, x < 64 → gw x = nI (W x)) (hWb : ∀ x, x < 64 → W x < 2 ^ 31) {W0 : va_W} {post : Unit → Prop} (hq : ∀ u, True → post u) (hE : vE (gG D cI cJ cT) X (some .long) W0 post (fun u => some (.long (lN (sumN W 64)))) (fun u => [(tb, .inr (6, [.ref wq, .ref sq, .ref pq, .ref rq, .int m, .int (nI tp), .long (lN sm)])), (wq, .inl (cI, 64, .inl gw))])) :
    ∀ (k : Nat) (i : Nat), i ≤ 64 → 64 - i < k → V (gG D cI cJ cT) X (rmD 0) cX6_sumOfWeights 4 RX6 [(tb, .inr (6, [.ref wq, .ref sq, .ref pq, .ref rq, .int m, .int (nI tp), .long (lN sm)])), (wq, .inl (cI, 64, .inl gw))] 0 0 [(0, .ref tb), (1, .long (lN (sumN W i))), (3, .int (nI i))] 4 [] := by
  intro k
  induction k with
  | zero => intro i hi hk; omega
  | succ k ih =>
    intro i hi hk
    refine v_iload_n 2 dX6_sumOfWeights_4 rfl rfl ?_
    refine v_bipush (v := nI 64) dX6_sumOfWeights_5 (by decide) ?_
    refine v_icmp_ge (tgt := 26) dX6_sumOfWeights_7 (by decide) (fun b7 => ?_) (fun b7 => ?_)
    · have b7 : 64 ≤ i := (nI_leI (by decide) (by omega)).mp b7
      have hi64 : i = 64 := by omega
      subst hi64
      refine v_lload_n 1 dX6_sumOfWeights_26 rfl rfl ?_
      exact v_lret hE dX6_sumOfWeights_27 () (hq _ trivial) rfl rfl
    · have b7 : ¬ (64 ≤ i) := fun q => b7 ((nI_leI (by decide) (by omega)).mpr q)
      refine v_lload_n 1 dX6_sumOfWeights_10 rfl rfl ?_
      refine v_aload_n 0 dX6_sumOfWeights_11 rfl rfl ?_
      refine v_get f_Table_9 0 rfl rfl dX6_sumOfWeights_12 ?_
      refine v_iload_n 2 dX6_sumOfWeights_15 rfl rfl ?_
      refine v_iald 0 1 rfl rfl (by omega) (by omega) dX6_sumOfWeights_16 ?_
      refine v_topi (y := nI (W i)) (hW i (by omega)) ?_
      have hwi := hWb i (by omega)
      refine v_i2l (v := lN (W i)) dX6_sumOfWeights_17 (nI_l (by omega)) ?_
      refine v_ladd dX6_sumOfWeights_18 ?_
      refine v_topl (y := lN (sumN W (i + 1))) (lN_add _ _) ?_
      refine v_lstore_n (lv' := [(1, .long (lN (sumN W (i + 1)))), (0, .ref tb), (3, .int (nI i))]) dX6_sumOfWeights_19 rfl (by decide) rfl ?_
      refine v_iinc (lv' := [(3, .int (nI (i + 1))), (1, .long (lN (sumN W (i + 1)))), (0, .ref tb)]) (v := nI (i + 1)) 2 dX6_sumOfWeights_20 rfl (nI_1 i) (by decide) rfl ?_
      refine v_goto (tgt := 4) dX6_sumOfWeights_23 (by decide) ?_
      refine v_lv [2, 1, 0] rfl ?_
      exact ih (i + 1) (by omega) (by omega)
set_option maxRecDepth 100000 in
set_option maxHeartbeats 4000000 in
theorem kX6_sumOfWeights {D : va_G} {cI cJ cT : ClassId} (l : Launch) {tb wq sq pq rq : Nat} {m : Int32} {tp sm : Nat} {gw : Nat → Int32} {W : Nat → Nat} (hW : ∀ x, x < 64 → gw x = nI (W x)) (hWb : ∀ x, x < 64 → W x < 2 ^ 31) : Fn (S := Unit) (gG D cI cJ cT) l yX6_sumOfWeights (.code yX6_sumOfWeights cX6_sumOfWeights 4 (some .long)) (rmD 0) [.ref tb] [(tb, .inr (6, [.ref wq, .ref sq, .ref pq, .ref rq, .int m, .int (nI tp), .long (lN sm)])), (wq, .inl (cI, 64, .inl gw))] (fun _ => True) (fun u => some (.long (lN (sumN W 64)))) (fun u => [(tb, .inr (6, [.ref wq, .ref sq, .ref pq, .ref rq, .int m, .int (nI tp), .long (lN sm)])), (wq, .inl (cI, 64, .inl gw))]) := by
  refine Fn.intro (by decide) (Nat.le_of_ble_eq_true rfl) ?_
  intro X hX hE hin
  subst hX
  show V (gG D cI cJ cT) X _ cX6_sumOfWeights 4 RX6 _ 0 0 [(0, .ref tb)] 0 []
  refine v_lconst (v := lN 0) dX6_sumOfWeights_0 (by decide) ?_
  refine v_lstore_n (lv' := [(1, .long (lN 0)), (0, .ref tb)]) dX6_sumOfWeights_1 rfl (by decide) rfl ?_
  refine v_iconst (v := nI 0) dX6_sumOfWeights_2 (by decide) ?_
  refine v_istore_n (lv' := [(3, .int (nI 0)), (1, .long (lN 0)), (0, .ref tb)]) dX6_sumOfWeights_3 rfl (by decide) rfl ?_
  refine v_lv [2, 1, 0] rfl ?_
  exact kX6_sum_loop hW hWb (fun u _ => trivial) hE 65 0 (by omega) (by omega)
set_option maxRecDepth 100000 in
set_option maxHeartbeats 4000000 in
theorem kX6_fl_loop {D : va_G} {cI cJ cT : ClassId} {X : vX} {tb wq sq pq rq : Nat} {m : Int32} {tp sm i0 : Nat} {gr : Nat → Int64} {s : Nat → Nat} (hR : ∀ x, x < tp → gr x = lN (s x)) (hsb : ∀ x, x < tp → s x < 2 ^ 40) (htp : tp ≤ 64) (hsm : sm < 2 ^ 40) {W0 : va_W} {post : Nat → Prop} (hq : ∀ u, flF sm s tp = u → post u) (hE : vE (gG D cI cJ cT) X (some .int) W0 post (fun u => some (.int (nI u))) (fun u => [(tb, .inr (6, [.ref wq, .ref sq, .ref pq, .ref rq, .int m, .int (nI tp), .long (lN sm)])), (rq, .inl (cJ, 64, .inr (.inl gr)))])) :
    ∀ (k : Nat) (i : Nat), tp - i < k → i ≤ tp → (∀ x, x < i → s x < sm) → V (gG D cI cJ cT) X (rmD 0) cX6_firstLarge 3 RX6 [(tb, .inr (6, [.ref wq, .ref sq, .ref pq, .ref rq, .int m, .int (nI tp), .long (lN sm)])), (rq, .inl (cJ, 64, .inr (.inl gr)))] 0 0 [(0, .ref tb), (1, .int (nI i0)), (2, .int (nI i))] 2 [] := by
  intro k
  induction k with
  | zero => intro i hk hi hsm1; omega
  | succ k ih =>
    intro i hk hi hsm1
    refine v_iload_n 2 dX6_firstLarge_2 rfl rfl ?_
    refine v_aload_n 0 dX6_firstLarge_3 rfl rfl ?_
    refine v_get f_Table_29 0 rfl rfl dX6_firstLarge_4 ?_
    refine v_icmp_ge (tgt := 30) dX6_firstLarge_7 (by decide) (fun b7 => ?_) (fun b7 => ?_)
    · have b7 : tp ≤ i := (nI_leI (by omega) (by omega)).mp b7
      refine v_iload_n 2 dX6_firstLarge_30 rfl rfl ?_
      exact v_iret hE dX6_firstLarge_31 i (hq _ (flF_uniq (by omega) hsm1 (fun _ => absurd b7 (by omega)))) rfl rfl
    · have b7 : ¬ (tp ≤ i) := fun q => b7 ((nI_leI (by omega) (by omega)).mpr q)
      refine v_aload_n 0 dX6_firstLarge_10 rfl rfl ?_
      refine v_get f_Table_21 0 rfl rfl dX6_firstLarge_11 ?_
      refine v_iload_n 2 dX6_firstLarge_14 rfl rfl ?_
      refine v_lald 1 1 rfl rfl (by omega) (by omega) dX6_firstLarge_15 ?_
      refine v_topl (y := lN (s i)) (hR i (by omega)) ?_
      have hsi := hsb i (by omega)
      refine v_aload_n 0 dX6_firstLarge_16 rfl rfl ?_
      refine v_get f_Table_32 0 rfl rfl dX6_firstLarge_17 ?_
      refine v_lcmp dX6_firstLarge_20 ?_
      refine v_if_ge (tgt := 30) dX6_firstLarge_21 (by decide) (fun b21 => ?_) (fun b21 => ?_)
      · have b21 : sm ≤ s i := (z_ge (by omega) (by omega)).mp b21
        refine v_iload_n 2 dX6_firstLarge_30 rfl rfl ?_
        exact v_iret hE dX6_firstLarge_31 i (hq _ (flF_uniq (by omega) hsm1 (fun _ => b21))) rfl rfl
      · have b21 : ¬ (sm ≤ s i) := fun q => b21 ((z_ge (by omega) (by omega)).mpr q)
        refine v_iinc (lv' := [(2, .int (nI (i + 1))), (0, .ref tb), (1, .int (nI i0))]) (v := nI (i + 1)) 2 dX6_firstLarge_24 rfl (nI_1 i) (by decide) rfl ?_
        refine v_goto (tgt := 2) dX6_firstLarge_27 (by decide) ?_
        refine v_lv [1, 2, 0] rfl ?_
        exact ih (i + 1) (by omega) (by omega) (fun x hx => by rcases Nat.lt_or_ge x i with q | q; exact hsm1 x q; rw [show x = i by omega]; omega)
set_option maxRecDepth 100000 in
set_option maxHeartbeats 4000000 in
theorem kX6_firstLarge {D : va_G} {cI cJ cT : ClassId} (l : Launch) {tb wq sq pq rq : Nat} {m : Int32} {tp sm i0 : Nat} {gr : Nat → Int64} {s : Nat → Nat} (hR : ∀ x, x < tp → gr x = lN (s x)) (hsb : ∀ x, x < tp → s x < 2 ^ 40) (htp : tp ≤ 64) (hsm : sm < 2 ^ 40) (hi0 : i0 ≤ tp) (hs0 : ∀ x, x < i0 → s x < sm) : Fn (S := Nat) (gG D cI cJ cT) l yX6_firstLarge (.code yX6_firstLarge cX6_firstLarge 3 (some .int)) (rmD 0) [.ref tb, .int (nI i0)] [(tb, .inr (6, [.ref wq, .ref sq, .ref pq, .ref rq, .int m, .int (nI tp), .long (lN sm)])), (rq, .inl (cJ, 64, .inr (.inl gr)))] (fun u => flF sm s tp = u) (fun u => some (.int (nI u))) (fun u => [(tb, .inr (6, [.ref wq, .ref sq, .ref pq, .ref rq, .int m, .int (nI tp), .long (lN sm)])), (rq, .inl (cJ, 64, .inr (.inl gr)))]) := by
  refine Fn.intro (by decide) (Nat.le_of_ble_eq_true rfl) ?_
  intro X hX hE hin
  subst hX
  show V (gG D cI cJ cT) X _ cX6_firstLarge 3 RX6 _ 0 0 [(0, .ref tb), (1, .int (nI i0))] 0 []
  refine v_iload_n 1 dX6_firstLarge_0 rfl rfl ?_
  refine v_istore_n (lv' := [(2, .int (nI i0)), (0, .ref tb), (1, .int (nI i0))]) dX6_firstLarge_1 rfl (by decide) rfl ?_
  refine v_lv [1, 2, 0] rfl ?_
  exact kX6_fl_loop hR hsb htp hsm (fun u hu => hu) hE (tp + 1) i0 (by omega) hi0 hs0
theorem smQ_in {S i : Nat} {s : Nat → Nat} (h : s i < S) : smQ S s (i + 1) = (fU (smQ S s i).1 (smQ S s i).2 i, (smQ S s i).2 + 1) := by simp [smQ, h]
theorem smQ_out {S i : Nat} {s : Nat → Nat} (h : ¬ s i < S) : smQ S s (i + 1) = smQ S s i := by simp [smQ, h]
theorem sh_ok {gr : Nat → Int64} {s : Nat → Nat} {i : Nat} (h : ∀ x, x < i → gr x = lN (s x)) : ∀ x, x < i + 1 → vp_updL gr i (lN (s i)) x = lN (s x) := by
  intro x hx
  unfold vp_updL
  by_cases h1 : x = i
  · simp [h1]
  · simp [h1, h x (by omega)]
set_option maxRecDepth 100000 in
set_option maxHeartbeats 4000000 in
theorem kX6_ts_loop {D : va_G} {cI cJ cT : ClassId} {X : vX} {tb wq sq pq rq : Nat} {m : Int32} {tp sm : Nat} {gw : Nat → Int32} {W : Nat → Nat} (hW : ∀ x, x < 64 → gw x = nI (W x)) (hWb : ∀ x, x < 64 → W x < 2 ^ 31) (htp : tp ≤ 64) (hsm : sm < 2 ^ 40) {W0 : va_W} {post : (Nat → Int32) × (Nat → Int32) × (Nat → Int64) → Prop} (hq : ∀ u, ((∀ d, d < (smQ sm (fun i => tp * W i) tp).2 → u.1 d = nI ((smQ sm (fun i => tp * W i) tp).1 d)) ∧ (∀ x, x < tp → u.2.1 x = nI x) ∧ ∀ x, x < tp → u.2.2 x = lN (tp * W x)) → post u) (hE : vE (gG D cI cJ cT) X (some .int) W0 post (fun u => some (.int (nI (smQ sm (fun i => tp * W i) tp).2))) (fun u => [(tb, .inr (6, [.ref wq, .ref sq, .ref pq, .ref rq, .int m, .int (nI tp), .long (lN sm)])), (wq, .inl (cI, 64, .inl gw)), (sq, .inl (cI, 64, .inl u.1)), (pq, .inl (cI, 64, .inl u.2.1)), (rq, .inl (cJ, 64, .inr (.inl u.2.2)))])) :
    ∀ (k : Nat) (i : Nat) (c : Nat) (gs : Nat → Int32) (gp : Nat → Int32) (gr : Nat → Int64), tp - i < k → i ≤ tp → c = (smQ sm (fun i => tp * W i) i).2 → (∀ d, d < (smQ sm (fun i => tp * W i) i).2 → gs d = nI ((smQ sm (fun i => tp * W i) i).1 d)) → (∀ x, x < i → gp x = nI x) → (∀ x, x < i → gr x = lN (tp * W x)) → V (gG D cI cJ cT) X (rmD 0) cX6_takeShares 3 RX6 [(tb, .inr (6, [.ref wq, .ref sq, .ref pq, .ref rq, .int m, .int (nI tp), .long (lN sm)])), (wq, .inl (cI, 64, .inl gw)), (sq, .inl (cI, 64, .inl gs)), (pq, .inl (cI, 64, .inl gp)), (rq, .inl (cJ, 64, .inr (.inl gr)))] 0 0 [(0, .ref tb), (1, .int (nI c)), (2, .int (nI i))] 4 [] := by
  intro k
  induction k with
  | zero => intro i c gs gp gr hk hi hc hgs hgp hgr; omega
  | succ k ih =>
    intro i c gs gp gr hk hi hc hgs hgp hgr
    refine v_iload_n 2 dX6_takeShares_4 rfl rfl ?_
    refine v_aload_n 0 dX6_takeShares_5 rfl rfl ?_
    refine v_get f_Table_29 0 rfl rfl dX6_takeShares_6 ?_
    refine v_icmp_ge (tgt := 68) dX6_takeShares_9 (by decide) (fun b9 => ?_) (fun b9 => ?_)
    · have b9 : tp ≤ i := (nI_leI (by omega) (by omega)).mp b9
      have hit : i = tp := by omega
      subst hit
      refine v_iload_n 1 dX6_takeShares_68 rfl rfl ?_
      exact v_iret hE dX6_takeShares_69 (gs, gp, gr) (hq _ ⟨hgs, hgp, hgr⟩) (by rw [hc]) rfl
    · have b9 : ¬ (tp ≤ i) := fun q => b9 ((nI_leI (by omega) (by omega)).mpr q)
      have hwi := hWb i (by omega)
      have hmul : tp * W i ≤ 64 * 2 ^ 31 := Nat.mul_le_mul htp (by omega)
      have hci : c ≤ i := by rw [hc, (smQ_spec sm (fun i => tp * W i) i).1]; exact cntN_le _ i
      refine v_aload_n 0 dX6_takeShares_12 rfl rfl ?_
      refine v_get f_Table_21 0 rfl rfl dX6_takeShares_13 ?_
      refine v_iload_n 2 dX6_takeShares_16 rfl rfl ?_
      refine v_aload_n 0 dX6_takeShares_17 rfl rfl ?_
      refine v_get f_Table_29 0 rfl rfl dX6_takeShares_18 ?_
      refine v_i2l (v := lN tp) dX6_takeShares_21 (nI_l (by omega)) ?_
      refine v_aload_n 0 dX6_takeShares_22 rfl rfl ?_
      refine v_get f_Table_9 0 rfl rfl dX6_takeShares_23 ?_
      refine v_iload_n 2 dX6_takeShares_26 rfl rfl ?_
      refine v_iald 0 1 rfl rfl (by omega) (by omega) dX6_takeShares_27 ?_
      refine v_topi (y := nI (W i)) (hW i (by omega)) ?_
      refine v_i2l (v := lN (W i)) dX6_takeShares_28 (nI_l (by omega)) ?_
      refine v_lmul dX6_takeShares_29 ?_
      refine v_topl (y := lN (tp * W i)) (lN_mul _ _) ?_
      refine v_last (ws' := [(tb, .inr (6, [.ref wq, .ref sq, .ref pq, .ref rq, .int m, .int (nI tp), .long (lN sm)])), (wq, .inl (cI, 64, .inl gw)), (sq, .inl (cI, 64, .inl gs)), (pq, .inl (cI, 64, .inl gp)), (rq, .inl (cJ, 64, .inr (.inl (vp_updL gr i (lN (tp * W i))))))]) 1 4 rfl rfl (by omega) (by omega) dX6_takeShares_30 rfl ?_
      refine v_aload_n 0 dX6_takeShares_31 rfl rfl ?_
      refine v_get f_Table_18 0 rfl rfl dX6_takeShares_32 ?_
      refine v_iload_n 2 dX6_takeShares_35 rfl rfl ?_
      refine v_iload_n 2 dX6_takeShares_36 rfl rfl ?_
      refine v_iast (ws' := [(tb, .inr (6, [.ref wq, .ref sq, .ref pq, .ref rq, .int m, .int (nI tp), .long (lN sm)])), (wq, .inl (cI, 64, .inl gw)), (sq, .inl (cI, 64, .inl gs)), (pq, .inl (cI, 64, .inl (upd gp i (nI i)))), (rq, .inl (cJ, 64, .inr (.inl (vp_updL gr i (lN (tp * W i))))))]) 0 3 rfl rfl (by omega) (by omega) dX6_takeShares_37 rfl ?_
      refine v_aload_n 0 dX6_takeShares_38 rfl rfl ?_
      refine v_get f_Table_21 0 rfl rfl dX6_takeShares_39 ?_
      refine v_iload_n 2 dX6_takeShares_42 rfl rfl ?_
      refine v_lald 1 4 rfl rfl (by omega) (by omega) dX6_takeShares_43 ?_
      refine v_topl (y := lN (tp * W i)) (pk_uLs) ?_
      refine v_aload_n 0 dX6_takeShares_44 rfl rfl ?_
      refine v_get f_Table_32 0 rfl rfl dX6_takeShares_45 ?_
      refine v_lcmp dX6_takeShares_48 ?_
      refine v_if_ge (tgt := 62) dX6_takeShares_49 (by decide) (fun b49 => ?_) (fun b49 => ?_)
      · have b49 : sm ≤ tp * W i := (z_ge (by omega) (by omega)).mp b49
        refine v_iinc (lv' := [(2, .int (nI (i + 1))), (0, .ref tb), (1, .int (nI c))]) (v := nI (i + 1)) 2 dX6_takeShares_62 rfl (nI_1 i) (by decide) rfl ?_
        refine v_goto (tgt := 4) dX6_takeShares_65 (by decide) ?_
        refine v_lv [1, 2, 0] rfl ?_
        exact ih (i + 1) c _ _ _ (by omega) (by omega) (by rw [smQ_out (by omega)]; exact hc) (by rw [smQ_out (by omega)]; exact hgs) (fun x hx => init_ok hgp x hx) (fun x hx => sh_ok hgr x hx)
      · have b49 : ¬ (sm ≤ tp * W i) := fun q => b49 ((z_ge (by omega) (by omega)).mpr q)
        refine v_aload_n 0 dX6_takeShares_52 rfl rfl ?_
        refine v_get f_Table_15 0 rfl rfl dX6_takeShares_53 ?_
        refine v_iload_n 1 dX6_takeShares_56 rfl rfl ?_
        refine v_iload_n 2 dX6_takeShares_57 rfl rfl ?_
        refine v_iast (ws' := [(tb, .inr (6, [.ref wq, .ref sq, .ref pq, .ref rq, .int m, .int (nI tp), .long (lN sm)])), (wq, .inl (cI, 64, .inl gw)), (sq, .inl (cI, 64, .inl (upd gs c (nI i)))), (pq, .inl (cI, 64, .inl (upd gp i (nI i)))), (rq, .inl (cJ, 64, .inr (.inl (vp_updL gr i (lN (tp * W i))))))]) 0 2 rfl rfl (by omega) (by omega) dX6_takeShares_58 rfl ?_
        refine v_iinc (lv' := [(1, .int (nI (c + 1))), (0, .ref tb), (2, .int (nI i))]) (v := nI (c + 1)) 1 dX6_takeShares_59 rfl (nI_1 c) (by decide) rfl ?_
        refine v_iinc (lv' := [(2, .int (nI (i + 1))), (1, .int (nI (c + 1))), (0, .ref tb)]) (v := nI (i + 1)) 2 dX6_takeShares_62 rfl (nI_1 i) (by decide) rfl ?_
        refine v_goto (tgt := 4) dX6_takeShares_65 (by decide) ?_
        refine v_lv [2, 1, 0] rfl ?_
        exact ih (i + 1) (c + 1) _ _ _ (by omega) (by omega) (by rw [smQ_in (by omega), ← hc]) (fun d hd => by rw [smQ_in (by omega)] at hd ⊢; rw [← hc] at hd ⊢; exact upd_ok (by rw [hc]; exact hgs) rfl d hd) (fun x hx => init_ok hgp x hx) (fun x hx => sh_ok hgr x hx)
set_option maxRecDepth 100000 in
set_option maxHeartbeats 4000000 in
theorem kX6_takeShares {D : va_G} {cI cJ cT : ClassId} (l : Launch) {tb wq sq pq rq : Nat} {m : Int32} {tp sm : Nat} {gw gs gp : Nat → Int32} {gr : Nat → Int64} {W : Nat → Nat} (hW : ∀ x, x < 64 → gw x = nI (W x)) (hWb : ∀ x, x < 64 → W x < 2 ^ 31) (htp : tp ≤ 64) (hsm : sm < 2 ^ 40) : Fn (S := (Nat → Int32) × (Nat → Int32) × (Nat → Int64)) (gG D cI cJ cT) l yX6_takeShares (.code yX6_takeShares cX6_takeShares 3 (some .int)) (rmD 0) [.ref tb] [(tb, .inr (6, [.ref wq, .ref sq, .ref pq, .ref rq, .int m, .int (nI tp), .long (lN sm)])), (wq, .inl (cI, 64, .inl gw)), (sq, .inl (cI, 64, .inl gs)), (pq, .inl (cI, 64, .inl gp)), (rq, .inl (cJ, 64, .inr (.inl gr)))] (fun u => (∀ d, d < (smQ sm (fun i => tp * W i) tp).2 → u.1 d = nI ((smQ sm (fun i => tp * W i) tp).1 d)) ∧ (∀ x, x < tp → u.2.1 x = nI x) ∧ ∀ x, x < tp → u.2.2 x = lN (tp * W x)) (fun u => some (.int (nI (smQ sm (fun i => tp * W i) tp).2))) (fun u => [(tb, .inr (6, [.ref wq, .ref sq, .ref pq, .ref rq, .int m, .int (nI tp), .long (lN sm)])), (wq, .inl (cI, 64, .inl gw)), (sq, .inl (cI, 64, .inl u.1)), (pq, .inl (cI, 64, .inl u.2.1)), (rq, .inl (cJ, 64, .inr (.inl u.2.2)))]) := by
  refine Fn.intro (by decide) (Nat.le_of_ble_eq_true rfl) ?_
  intro X hX hE hin
  subst hX
  show V (gG D cI cJ cT) X _ cX6_takeShares 3 RX6 _ 0 0 [(0, .ref tb)] 0 []
  refine v_iconst (v := nI 0) dX6_takeShares_0 (by decide) ?_
  refine v_istore_n (lv' := [(1, .int (nI 0)), (0, .ref tb)]) dX6_takeShares_1 rfl (by decide) rfl ?_
  refine v_iconst (v := nI 0) dX6_takeShares_2 (by decide) ?_
  refine v_istore_n (lv' := [(2, .int (nI 0)), (1, .int (nI 0)), (0, .ref tb)]) dX6_takeShares_3 rfl (by decide) rfl ?_
  refine v_lv [2, 1, 0] rfl ?_
  exact kX6_ts_loop hW hWb htp hsm (fun u hu => hu) hE (tp + 1) 0 0 gs gp gr (by omega) (by omega) rfl (fun d hd => absurd hd (Nat.not_lt_zero d)) (fun x hx => absurd hx (Nat.not_lt_zero x)) (fun x hx => absurd hx (Nat.not_lt_zero x))
