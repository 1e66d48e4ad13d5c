theorem fl_keep {S n j v : Nat} {s : Nat → Nat} (hj : flF S s n = j) (hlt : j < n) (hv : ¬ v < S) : flF S (fU s j v) n = j := by
  obtain ⟨g1, g2, g3⟩ := flF_spec S s n
  rw [hj] at g2
  refine flF_uniq (by omega) (fun x hx => by simp [fU, show ¬ x = j by omega]; exact g2 x hx) (fun _ => by simp [fU]; omega)
theorem fl_next {S n j v : Nat} {s : Nat → Nat} (hj : flF S s n = j) (hv : v < S) : ∀ x, x < j + 1 → fU s j v x < S := by
  obtain ⟨g1, g2, g3⟩ := flF_spec S s n
  rw [hj] at g2
  intro x hx
  unfold fU
  split
  · exact hv
  · exact g2 x (by omega)
theorem updL_ok {gr : Nat → Int64} {s : Nat → Nat} {n j v : Nat} (h : ∀ x, x < n → gr x = lN (s x)) : ∀ x, x < n → vp_updL gr j (lN v) x = lN (fU s j v x) := by
  intro x hx
  unfold vp_updL fU
  by_cases h1 : x = j
  · simp [h1]
  · simp [h1, h x hx]
theorem updI_ok {g : Nat → Int32} {s : Nat → Nat} {n j v : Nat} (h : ∀ x, x < n → g x = nI (s x)) : ∀ x, x < n → upd g j (nI v) x = nI (fU s j v x) := by
  intro x hx
  unfold upd fU
  by_cases h1 : x = j
  · simp [h1]
  · simp [h1, h x hx]
theorem fU_le {s : Nat → Nat} {n j v M : Nat} (h : ∀ x, x < n → s x < M) (hv : v < M) : ∀ x, x < n → fU s j v x < M := by
  intro x hx
  unfold fU
  split
  · exact hv
  · exact h x hx
set_option maxRecDepth 100000 in
set_option maxHeartbeats 4000000 in
theorem kX6_pair_loop {D : va_G} {cI cJ cT : ClassId} {X : vX} {tb wq sq pq rq : Nat} {m : Int32} {tp sm : Nat} {gw : Nat → Int32} {RES : (Nat → Nat) × (Nat → Nat)} (htp : tp ≤ 64) (hsm : sm < 2 ^ 40) {W0 : va_W} {post : (Nat → Int32) × (Nat → Int32) × (Nat → Int64) → Prop} (hq : ∀ u : (Nat → Int32) × (Nat → Int32) × (Nat → Int64), ((∀ x, x < tp → u.2.2 x = lN (RES.1 x)) ∧ ∀ x, x < tp → u.2.1 x = nI (RES.2 x)) → post u) (hE : vE (gG D cI cJ cT) X none W0 post (fun u => none) (fun u => [(tb, .inr (6, [.ref wq, .ref sq, .ref pq, .ref rq, .int m, .int (nI tp), .long (lN sm)])), (wq, .inl (cI, 64, .inl gw)), (sq, .inl (cI, 64, .inl u.1)), (pq, .inl (cI, 64, .inl u.2.1)), (rq, .inl (cJ, 64, .inr (.inl u.2.2)))])) :
    ∀ (k : Nat) (s : Nat → Nat) (A : Nat → Nat) (Q : Nat → Nat) (dn : Nat) (cnt : Nat) (Dn : Nat → Bool) (lg : Nat) (gs : Nat → Int32) (gp : Nat → Int32) (gr : Nat → Int64), tp - dn < k → AI tp sm s Q dn cnt Dn → cnt ≤ tp → flF sm s tp = lg → (∀ x, x < tp → s x < 2 ^ 40) → (∀ d, d < cnt → gs d = nI (Q d)) → (∀ x, x < tp → gp x = nI (A x)) → (∀ x, x < tp → gr x = lN (s x)) → alL tp sm k s A Q dn cnt = RES → V (gG D cI cJ cT) X (rmD 1) cX6_pair 5 RX6 [(tb, .inr (6, [.ref wq, .ref sq, .ref pq, .ref rq, .int m, .int (nI tp), .long (lN sm)])), (wq, .inl (cI, 64, .inl gw)), (sq, .inl (cI, 64, .inl gs)), (pq, .inl (cI, 64, .inl gp)), (rq, .inl (cJ, 64, .inr (.inl gr)))] 0 0 [(0, .ref tb), (1, .int (nI cnt)), (2, .int (nI lg)), (3, .int (nI dn))] 13 [] := by
  intro k
  induction k with
  | zero => intro s A Q dn cnt Dn lg gs gp gr hk hAI hcn hlg hsb hgs hgp hgr hres; have := hAI.2.2.2.2.2.2; omega
  | succ k ih =>
    intro s A Q dn cnt Dn lg gs gp gr hk hAI hcn hlg hsb hgs hgp hgr hres
    have hdc := hAI.2.2.2.2.2.2
    refine v_iload_n 3 dX6_pair_13 rfl rfl ?_
    refine v_iload_n 1 dX6_pair_14 rfl rfl ?_
    refine v_icmp_ge (tgt := 113) dX6_pair_15 (by decide) (fun b15 => ?_) (fun b15 => ?_)
    · have b15 : cnt ≤ dn := (nI_leI (by omega) (by omega)).mp b15
      exact v_vret hE dX6_pair_113 (gs, gp, gr) (hq _ (by rw [← hres, alL, if_neg (by omega)]; exact ⟨hgr, hgp⟩)) rfl rfl
    · have b15 : ¬ (cnt ≤ dn) := fun q => b15 ((nI_leI (by omega) (by omega)).mpr q)
      have hlt : lg < tp := by rw [← hlg]; exact AI_large hAI (by omega)
      have hq0 := hAI.1 dn (Nat.le_refl _) (by omega)
      have hQ0 : Q dn < tp := hq0.1
      have hsQ : s (Q dn) < sm := hq0.2.1
      have hsl : sm ≤ s lg := by have := (flF_spec sm s tp).2.2; rw [hlg] at this; exact this hlt
      have hsb0 := hsb lg hlt
      have hst := AI_step hAI (by omega) (s lg - (sm - s (Q dn))) (by rw [hlg])
      rw [hlg] at hst
      refine v_iload_n 3 dX6_pair_18 rfl rfl ?_
      refine v_bipush (v := nI 64) dX6_pair_19 (by decide) ?_
      refine v_icmp_ge (tgt := 113) dX6_pair_21 (by decide) (fun b21 => absurd b21 (fun q => absurd ((nI_leI (by decide) (by omega)).mp q) (by omega))) (fun b21 => ?_)
      refine v_iload_n 2 dX6_pair_24 rfl rfl ?_
      refine v_aload_n 0 dX6_pair_25 rfl rfl ?_
      refine v_get f_Table_29 0 rfl rfl dX6_pair_26 ?_
      refine v_icmp_ge (tgt := 113) dX6_pair_29 (by decide) (fun b29 => absurd b29 (fun q => absurd ((nI_leI (by omega) (by omega)).mp q) (by omega))) (fun b29 => ?_)
      refine v_aload_n 0 dX6_pair_32 rfl rfl ?_
      refine v_get f_Table_15 0 rfl rfl dX6_pair_33 ?_
      refine v_iload_n 3 dX6_pair_36 rfl rfl ?_
      refine v_iald 0 2 rfl rfl (by omega) (by omega) dX6_pair_37 ?_
      refine v_topi (y := nI (Q dn)) (hgs dn (by omega)) ?_
      refine v_istore (lv' := [(4, .int (nI (Q dn))), (0, .ref tb), (1, .int (nI cnt)), (2, .int (nI lg)), (3, .int (nI dn))]) dX6_pair_38 (by decide) rfl ?_
      refine v_aload_n 1 dX6_pair_40 rfl rfl ?_
      refine v_get f_Table_18 0 rfl rfl dX6_pair_41 ?_
      refine v_iload 0 dX6_pair_44 rfl ?_
      refine v_iload_n 3 dX6_pair_46 rfl rfl ?_
      refine v_iast (ws' := [(tb, .inr (6, [.ref wq, .ref sq, .ref pq, .ref rq, .int m, .int (nI tp), .long (lN sm)])), (wq, .inl (cI, 64, .inl gw)), (sq, .inl (cI, 64, .inl gs)), (pq, .inl (cI, 64, .inl (upd gp ((Q dn)) (nI lg)))), (rq, .inl (cJ, 64, .inr (.inl gr)))]) 0 3 rfl rfl (by omega) (by omega) dX6_pair_47 rfl ?_
      refine v_aload_n 1 dX6_pair_48 rfl rfl ?_
      refine v_get f_Table_21 0 rfl rfl dX6_pair_49 ?_
      refine v_iload_n 3 dX6_pair_52 rfl rfl ?_
      refine v_dup2_11 dX6_pair_53 rfl rfl ?_
      refine v_lald 1 4 rfl rfl (by omega) (by omega) dX6_pair_54 ?_
      refine v_topl (y := lN (s lg)) (hgr lg hlt) ?_
      refine v_aload_n 1 dX6_pair_55 rfl rfl ?_
      refine v_get f_Table_32 0 rfl rfl dX6_pair_56 ?_
      refine v_aload_n 1 dX6_pair_59 rfl rfl ?_
      refine v_get f_Table_21 0 rfl rfl dX6_pair_60 ?_
      refine v_iload 0 dX6_pair_63 rfl ?_
      refine v_lald 1 4 rfl rfl (by omega) (by omega) dX6_pair_65 ?_
      refine v_topl (y := lN (s (Q dn))) (hgr (Q dn) hQ0) ?_
      refine v_lsub dX6_pair_66 ?_
      refine v_topl (y := lN (sm - s (Q dn))) (lN_sub (by omega)) ?_
      refine v_lsub dX6_pair_67 ?_
      refine v_topl (y := lN (s lg - (sm - s (Q dn)))) (lN_sub (by omega)) ?_
      refine v_last (ws' := [(tb, .inr (6, [.ref wq, .ref sq, .ref pq, .ref rq, .int m, .int (nI tp), .long (lN sm)])), (wq, .inl (cI, 64, .inl gw)), (sq, .inl (cI, 64, .inl gs)), (pq, .inl (cI, 64, .inl (upd gp ((Q dn)) (nI lg)))), (rq, .inl (cJ, 64, .inr (.inl (vp_updL gr lg (lN (s lg - (sm - s (Q dn))))))))]) 1 4 rfl rfl (by omega) (by omega) dX6_pair_68 rfl ?_
      refine v_aload_n 1 dX6_pair_69 rfl rfl ?_
      refine v_get f_Table_21 0 rfl rfl dX6_pair_70 ?_
      refine v_iload_n 3 dX6_pair_73 rfl rfl ?_
      refine v_lald 1 4 rfl rfl (by omega) (by omega) dX6_pair_74 ?_
      refine v_topl (y := lN (s lg - (sm - s (Q dn)))) (pk_uLs) ?_
      refine v_aload_n 1 dX6_pair_75 rfl rfl ?_
      refine v_get f_Table_32 0 rfl rfl dX6_pair_76 ?_
      refine v_lcmp dX6_pair_79 ?_
      refine v_if_ge (tgt := 107) dX6_pair_80 (by decide) (fun b80 => ?_) (fun b80 => ?_)
      · have b80 : sm ≤ (s lg - (sm - s (Q dn))) := (z_ge (by omega) (by omega)).mp b80
        refine v_iinc (lv' := [(3, .int (nI (dn + 1))), (4, .int (nI (Q dn))), (0, .ref tb), (1, .int (nI cnt)), (2, .int (nI lg))]) (v := nI (dn + 1)) 4 dX6_pair_107 rfl (nI_1 dn) (by decide) rfl ?_
        refine v_goto (tgt := 13) dX6_pair_110 (by decide) ?_
        refine v_lv [2, 3, 4, 0] rfl ?_
        exact ih (fU s lg (s lg - (sm - s (Q dn)))) (fU A (Q dn) lg) Q (dn + 1) cnt _ lg _ _ _ (by omega) (hst.2 (by omega)) hcn (fl_keep hlg hlt (by omega)) (fU_le hsb (by omega)) hgs (updI_ok hgp) (updL_ok hgr) (by rw [← hres, alL, if_pos (by omega), hlg, if_neg (by omega)])
      · have b80 : ¬ (sm ≤ (s lg - (sm - s (Q dn)))) := fun q => b80 ((z_ge (by omega) (by omega)).mpr q)
        have hs1 := hst.1 (by omega)
        refine v_iload_n 2 dX6_pair_83 rfl rfl ?_
        refine v_bipush (v := nI 64) dX6_pair_84 (by decide) ?_
        refine v_icmp_ge (tgt := 107) dX6_pair_86 (by decide) (fun b86 => absurd b86 (fun q => absurd ((nI_leI (by decide) (by omega)).mp q) (by omega))) (fun b86 => ?_)
        refine v_aload_n 1 dX6_pair_89 rfl rfl ?_
        refine v_get f_Table_15 0 rfl rfl dX6_pair_90 ?_
        refine v_iload_n 2 dX6_pair_93 rfl rfl ?_
        refine v_iload_n 3 dX6_pair_94 rfl rfl ?_
        refine v_iast (ws' := [(tb, .inr (6, [.ref wq, .ref sq, .ref pq, .ref rq, .int m, .int (nI tp), .long (lN sm)])), (wq, .inl (cI, 64, .inl gw)), (sq, .inl (cI, 64, .inl (upd gs cnt (nI lg)))), (pq, .inl (cI, 64, .inl (upd gp ((Q dn)) (nI lg)))), (rq, .inl (cJ, 64, .inr (.inl (vp_updL gr lg (lN (s lg - (sm - s (Q dn))))))))]) 0 2 rfl rfl (by omega) (by omega) dX6_pair_95 rfl ?_
        refine v_iinc (lv' := [(1, .int (nI (cnt + 1))), (4, .int (nI (Q dn))), (0, .ref tb), (2, .int (nI lg)), (3, .int (nI dn))]) (v := nI (cnt + 1)) 2 dX6_pair_96 rfl (nI_1 cnt) (by decide) rfl ?_
        refine v_aload_n 2 dX6_pair_99 rfl rfl ?_
        refine v_iload_n 3 dX6_pair_100 rfl rfl ?_
        refine v_iconst (v := nI 1) dX6_pair_101 (by decide) ?_
        refine v_iadd dX6_pair_102 ?_
        refine v_topi (y := nI (lg + 1)) (nI_1 lg) ?_
        refine v_callV (as := [.int (nI (lg + 1))]) (rest := []) (ws' := fun u => [(tb, .inr (6, [.ref wq, .ref sq, .ref pq, .ref rq, .int m, .int (nI tp), .long (lN sm)])), (wq, .inl (cI, 64, .inl gw)), (sq, .inl (cI, 64, .inl (upd gs cnt (nI lg)))), (pq, .inl (cI, 64, .inl (upd gp ((Q dn)) (nI lg)))), (rq, .inl (cJ, 64, .inr (.inl (vp_updL gr lg (lN (s lg - (sm - s (Q dn))))))))]) m_Table_47 (kX6_firstLarge X.l (tb := tb) (wq := wq) (sq := sq) (pq := pq) (rq := rq) (m := m) (tp := tp) (sm := sm) (i0 := lg + 1) (s := fU s lg (s lg - (sm - s (Q dn)))) (updL_ok hgr) (fU_le hsb (by omega)) htp hsm (by omega) (fl_next hlg (by omega))) k_code_X6_firstLarge [0, 4] 0 rfl rfl rfl rfl dX6_pair_103 (Nat.le_of_ble_eq_true rfl) ⟨rfl, rfl, by decide, by decide⟩ ⟨Nat.zero_le _, Nat.zero_le _⟩ rfl rfl (fun _ => rfl) (fun _ => rfl) ?_
        intro l2 c103
        try dsimp only at c103
        show V (gG D cI cJ cT) X (rmD 1) cX6_pair 5 RX6 [(tb, .inr (6, [.ref wq, .ref sq, .ref pq, .ref rq, .int m, .int (nI tp), .long (lN sm)])), (wq, .inl (cI, 64, .inl gw)), (sq, .inl (cI, 64, .inl (upd gs cnt (nI lg)))), (pq, .inl (cI, 64, .inl (upd gp ((Q dn)) (nI lg)))), (rq, .inl (cJ, 64, .inr (.inl (vp_updL gr lg (lN (s lg - (sm - s (Q dn))))))))] 0 0 [(1, .int (nI (cnt + 1))), (4, .int (nI (Q dn))), (0, .ref tb), (2, .int (nI lg)), (3, .int (nI dn))] 106 [.int (nI l2)]
        refine v_istore_n (lv' := [(2, .int (nI l2)), (1, .int (nI (cnt + 1))), (4, .int (nI (Q dn))), (0, .ref tb), (3, .int (nI dn))]) dX6_pair_106 rfl (by decide) rfl ?_
        refine v_iinc (lv' := [(3, .int (nI (dn + 1))), (2, .int (nI l2)), (1, .int (nI (cnt + 1))), (4, .int (nI (Q dn))), (0, .ref tb)]) (v := nI (dn + 1)) 4 dX6_pair_107 rfl (nI_1 dn) (by decide) rfl ?_
        refine v_goto (tgt := 13) dX6_pair_110 (by decide) ?_
        refine v_lv [4, 2, 1, 0] rfl ?_
        exact ih (fU s lg (s lg - (sm - s (Q dn)))) (fU A (Q dn) lg) (fU Q cnt lg) (dn + 1) (cnt + 1) _ l2 _ _ _ (by omega) hs1.1 (by omega) c103 (fU_le hsb (by omega)) (fun d hd => upd_ok hgs rfl d hd) (updI_ok hgp) (updL_ok hgr) (by rw [← hres, alL, if_pos (by omega), hlg, if_pos (by omega)])
set_option maxRecDepth 100000 in
set_option maxHeartbeats 4000000 in
theorem kX6_pair {D : va_G} {cI cJ cT : ClassId} (l : Launch) {tb wq sq pq rq : Nat} {m : Int32} {tp sm : Nat} {gw gs gp : Nat → Int32} {gr : Nat → Int64} {W : Nat → Nat} (hW : ∀ x, x < 64 → gw x = nI (W x)) (hWb : ∀ x, x < 64 → W x < 2 ^ 31) (htp : tp ≤ 64) (hsm : sm < 2 ^ 40) (hsum : sumN (fun i => tp * W i) tp = tp * sm) : Fn (S := (Nat → Int32) × (Nat → Int32) × (Nat → Int64)) (gG D cI cJ cT) l yX6_pair (.code yX6_pair cX6_pair 5 none) (rmD 1) [.ref tb] [(tb, .inr (6, [.ref wq, .ref sq, .ref pq, .ref rq, .int m, .int (nI tp), .long (lN sm)])), (wq, .inl (cI, 64, .inl gw)), (sq, .inl (cI, 64, .inl gs)), (pq, .inl (cI, 64, .inl gp)), (rq, .inl (cJ, 64, .inr (.inl gr)))] (fun u => (∀ x, x < tp → u.2.2 x = lN ((alS W tp sm).1 x)) ∧ ∀ x, x < tp → u.2.1 x = nI ((alS W tp sm).2 x)) (fun u => none) (fun u => [(tb, .inr (6, [.ref wq, .ref sq, .ref pq, .ref rq, .int m, .int (nI tp), .long (lN sm)])), (wq, .inl (cI, 64, .inl gw)), (sq, .inl (cI, 64, .inl u.1)), (pq, .inl (cI, 64, .inl u.2.1)), (rq, .inl (cJ, 64, .inr (.inl u.2.2)))]) := by
  refine Fn.intro (by decide) (Nat.le_of_ble_eq_true rfl) ?_
  intro X hX hE hin
  subst hX
  show V (gG D cI cJ cT) X _ cX6_pair 5 RX6 _ 0 0 [(0, .ref tb)] 0 []
  refine v_aload_n 0 dX6_pair_0 rfl rfl ?_
  refine v_callV (as := []) (rest := []) (ws' := fun u => [(tb, .inr (6, [.ref wq, .ref sq, .ref pq, .ref rq, .int m, .int (nI tp), .long (lN sm)])), (wq, .inl (cI, 64, .inl gw)), (sq, .inl (cI, 64, .inl u.1)), (pq, .inl (cI, 64, .inl u.2.1)), (rq, .inl (cJ, 64, .inr (.inl u.2.2)))]) m_Table_43 (kX6_takeShares X.l (tb := tb) (wq := wq) (sq := sq) (pq := pq) (rq := rq) (m := m) (tp := tp) (sm := sm) (gw := gw) (gs := gs) (gp := gp) (gr := gr) (W := W) hW hWb htp hsm) k_code_X6_takeShares [0, 1, 2, 3, 4] 0 rfl rfl rfl rfl dX6_pair_1 (Nat.le_of_ble_eq_true rfl) ⟨rfl, rfl, by decide, by decide⟩ ⟨Nat.zero_le _, Nat.zero_le _⟩ rfl rfl (fun _ => rfl) (fun _ => rfl) ?_
  intro u1 c1
  obtain ⟨g1, g2, g3⟩ := u1
  try dsimp only at c1
  show V (gG D cI cJ cT) X (rmD 1) cX6_pair 5 RX6 [(tb, .inr (6, [.ref wq, .ref sq, .ref pq, .ref rq, .int m, .int (nI tp), .long (lN sm)])), (wq, .inl (cI, 64, .inl gw)), (sq, .inl (cI, 64, .inl g1)), (pq, .inl (cI, 64, .inl g2)), (rq, .inl (cJ, 64, .inr (.inl g3)))] 0 0 [(0, .ref tb)] 4 [.int (nI (smQ sm (fun i => tp * W i) tp).2)]
  obtain ⟨hg1, hg2, hg3⟩ := c1
  have hmul : ∀ x, x < tp → tp * W x < 2 ^ 40 := fun x hx => Nat.lt_of_le_of_lt (Nat.mul_le_mul htp (Nat.le_of_lt (hWb x (by omega)))) (by decide)
  have hqs := smQ_spec sm (fun i => tp * W i) tp
  have hqn := cntN_le (fun i => decide (tp * W i < sm)) tp
  refine v_istore_n (lv' := [(1, .int (nI (smQ sm (fun i => tp * W i) tp).2)), (0, .ref tb)]) dX6_pair_4 rfl (by decide) rfl ?_
  refine v_aload_n 1 dX6_pair_5 rfl rfl ?_
  refine v_iconst (v := nI 0) dX6_pair_6 (by decide) ?_
  refine v_callV (as := [.int (nI 0)]) (rest := []) (ws' := fun u => [(tb, .inr (6, [.ref wq, .ref sq, .ref pq, .ref rq, .int m, .int (nI tp), .long (lN sm)])), (wq, .inl (cI, 64, .inl gw)), (sq, .inl (cI, 64, .inl g1)), (pq, .inl (cI, 64, .inl g2)), (rq, .inl (cJ, 64, .inr (.inl g3)))]) m_Table_47 (kX6_firstLarge X.l (tb := tb) (wq := wq) (sq := sq) (pq := pq) (rq := rq) (m := m) (tp := tp) (sm := sm) (i0 := 0) (s := (fun i => tp * W i)) hg3 hmul htp hsm (by omega) (fun x hx => absurd hx (Nat.not_lt_zero x))) k_code_X6_firstLarge [0, 4] 0 rfl rfl rfl rfl dX6_pair_7 (Nat.le_of_ble_eq_true rfl) ⟨rfl, rfl, by decide, by decide⟩ ⟨Nat.zero_le _, Nat.zero_le _⟩ rfl rfl (fun _ => rfl) (fun _ => rfl) ?_
  intro l2 c7
  try dsimp only at c7
  show V (gG D cI cJ cT) X (rmD 1) cX6_pair 5 RX6 [(tb, .inr (6, [.ref wq, .ref sq, .ref pq, .ref rq, .int m, .int (nI tp), .long (lN sm)])), (wq, .inl (cI, 64, .inl gw)), (sq, .inl (cI, 64, .inl g1)), (pq, .inl (cI, 64, .inl g2)), (rq, .inl (cJ, 64, .inr (.inl g3)))] 0 0 [(1, .int (nI (smQ sm (fun i => tp * W i) tp).2)), (0, .ref tb)] 10 [.int (nI l2)]
  refine v_istore_n (lv' := [(2, .int (nI l2)), (1, .int (nI (smQ sm (fun i => tp * W i) tp).2)), (0, .ref tb)]) dX6_pair_10 rfl (by decide) rfl ?_
  refine v_iconst (v := nI 0) dX6_pair_11 (by decide) ?_
  refine v_istore_n (lv' := [(3, .int (nI 0)), (2, .int (nI l2)), (1, .int (nI (smQ sm (fun i => tp * W i) tp).2)), (0, .ref tb)]) dX6_pair_12 rfl (by decide) rfl ?_
  refine v_lv [3, 2, 1, 0] rfl ?_
  exact kX6_pair_loop htp hsm (fun u hu => hu) hE (tp + 1) (fun i => tp * W i) (fun i => i) (smQ sm (fun i => tp * W i) tp).1 0 (smQ sm (fun i => tp * W i) tp).2 (fun _ => false) l2 g1 g2 g3 (by omega) (AI_start hsum) (by rw [hqs.1]; exact hqn) c7 hmul hg1 hg2 hg3 rfl
theorem topN_fix {F : Nat → Nat} {t : Nat} (h : t = 0 ∨ ¬ F (t - 1) = 0) : topN F t = t := by
  rcases h with h | h
  · rw [h]; rfl
  · rcases Nat.eq_zero_or_pos t with q | q
    · rw [q]; rfl
    · obtain ⟨t, rfl⟩ : ∃ j, t = j + 1 := ⟨t - 1, by omega⟩
      simp only [topN]
      rw [if_neg (by simpa using h)]
theorem topN_down {F : Nat → Nat} {t : Nat} (h0 : 0 < t) (h : F (t - 1) = 0) : topN F t = topN F (t - 1) := by
  obtain ⟨t, rfl⟩ : ∃ j, t = j + 1 := ⟨t - 1, by omega⟩
  simp only [topN]
  rw [if_pos (by simpa using h)]
  rfl
theorem sum_top {W : Nat → Nat} : sumN (fun i => topN W 64 * W i) (topN W 64) = topN W 64 * sumN W 64 := by
  rw [sumN_mul]
  have h1 := topN_le W 64
  have h2 := sumN_top (F := W) (64 - topN W 64) (topN W 64) (fun x a b => topN_0 W 64 x a (by omega))
  rw [show topN W 64 + (64 - topN W 64) = 64 by omega] at h2
  rw [h2]
theorem sum_lt {W : Nat → Nat} (h : ∀ x, x < 64 → W x < 2 ^ 31) : sumN W 64 < 2 ^ 40 := by
  have := sumN_le (F := W) (M := 2 ^ 31) 64 (fun x hx => Nat.le_of_lt (h x hx))
  omega
set_option maxRecDepth 100000 in
set_option maxHeartbeats 4000000 in
theorem kX6_prep_loop {D : va_G} {cI cJ cT : ClassId} {X : vX} {tb wq sq pq rq : Nat} {m : Int32} {mm : Nat} {gw gs gp : Nat → Int32} {gr : Nat → Int64} {W : Nat → Nat} (hW : ∀ x, x < 64 → gw x = nI (W x)) (hWb : ∀ x, x < 64 → W x < 2 ^ 31) (hmm : mm ≤ 1) {W0 : va_W} {post : (Nat → Int32) × (Nat → Int32) × (Nat → Int64) → Prop} (hq : ∀ u, ((mm = 0 → u = (gs, gp, gr)) ∧ (mm = 1 → (∀ x, x < (topN W 64) → u.2.2 x = lN ((alS W (topN W 64) (sumN W 64)).1 x)) ∧ ∀ x, x < (topN W 64) → u.2.1 x = nI ((alS W (topN W 64) (sumN W 64)).2 x))) → post u) (hE : vE (gG D cI cJ cT) X none W0 post (fun u => none) (fun u => [(tb, .inr (6, [.ref wq, .ref sq, .ref pq, .ref rq, .int (nI mm), .int (nI ((topN W 64))), .long (lN ((sumN W 64)))])), (wq, .inl (cI, 64, .inl gw)), (sq, .inl (cI, 64, .inl u.1)), (pq, .inl (cI, 64, .inl u.2.1)), (rq, .inl (cJ, 64, .inr (.inl u.2.2)))])) :
    ∀ (k : Nat) (t : Nat), t < k → t ≤ 64 → topN W 64 = topN W t → V (gG D cI cJ cT) X (rmD 2) cX6_prepare 2 RX6 [(tb, .inr (6, [.ref wq, .ref sq, .ref pq, .ref rq, .int (nI mm), .int (nI t), .long (lN (sumN W 64))])), (wq, .inl (cI, 64, .inl gw)), (sq, .inl (cI, 64, .inl gs)), (pq, .inl (cI, 64, .inl gp)), (rq, .inl (cJ, 64, .inr (.inl gr)))] 0 0 [(0, .ref tb), (1, .int (nI mm))] 19 [] := by
  intro k
  induction k with
  | zero => intro t hk ht hT; omega
  | succ k ih =>
    intro t hk ht hT
    refine v_aload_n 0 dX6_prepare_19 rfl rfl ?_
    refine v_get f_Table_29 0 rfl rfl dX6_prepare_20 ?_
    refine v_if_le (tgt := 53) dX6_prepare_23 (by decide) (fun b23 => ?_) (fun b23 => ?_)
    · have b23 : t ≤ 0 := ((show nI t ≤ 0 ↔ t ≤ 0 from nI_leI (b := 0) (by omega) (by decide))).mp b23
      have hfx : topN W 64 = t := by rw [hT]; exact topN_fix (by omega)
      subst hfx
      refine v_aload_n 0 dX6_prepare_53 rfl rfl ?_
      refine v_get f_Table_25 0 rfl rfl dX6_prepare_54 ?_
      refine v_iconst (v := nI 1) dX6_prepare_57 (by decide) ?_
      refine v_icmp_ne (tgt := 65) dX6_prepare_58 (by decide) (fun b58 => ?_) (fun b58 => ?_)
      · have b58 : ¬ (mm = 1) := fun q => b58 ((nI_eq (by omega) (by decide)).mpr q)
        exact v_vret hE dX6_prepare_65 (gs, gp, gr) (hq _ ⟨fun _ => rfl, fun h => absurd h b58⟩) rfl rfl
      · have b58 : mm = 1 := (nI_eq (by omega) (by decide)).mp b58
        refine v_aload_n 0 dX6_prepare_61 rfl rfl ?_
        refine v_callV (as := []) (rest := []) (ws' := fun u => [(tb, .inr (6, [.ref wq, .ref sq, .ref pq, .ref rq, .int (nI mm), .int (nI (topN W 64)), .long (lN (sumN W 64))])), (wq, .inl (cI, 64, .inl gw)), (sq, .inl (cI, 64, .inl u.1)), (pq, .inl (cI, 64, .inl u.2.1)), (rq, .inl (cJ, 64, .inr (.inl u.2.2)))]) m_Table_40 (kX6_pair X.l (tb := tb) (wq := wq) (sq := sq) (pq := pq) (rq := rq) (m := nI mm) (tp := topN W 64) (sm := sumN W 64) (gw := gw) (gs := gs) (gp := gp) (gr := gr) (W := W) hW hWb (topN_le W 64) (sum_lt hWb) sum_top) k_code_X6_pair [0, 1, 2, 3, 4] 0 rfl rfl rfl rfl dX6_prepare_62 (Nat.le_of_ble_eq_true rfl) ⟨rfl, rfl, by decide, by decide⟩ ⟨Nat.zero_le _, Nat.zero_le _⟩ rfl rfl (fun _ => rfl) (fun _ => rfl) ?_
        intro u62 c62
        obtain ⟨g1, g2, g3⟩ := u62
        try dsimp only at c62
        show V (gG D cI cJ cT) X (rmD 2) cX6_prepare 2 RX6 [(tb, .inr (6, [.ref wq, .ref sq, .ref pq, .ref rq, .int (nI mm), .int (nI (topN W 64)), .long (lN (sumN W 64))])), (wq, .inl (cI, 64, .inl gw)), (sq, .inl (cI, 64, .inl g1)), (pq, .inl (cI, 64, .inl g2)), (rq, .inl (cJ, 64, .inr (.inl g3)))] 0 0 [(0, .ref tb), (1, .int (nI mm))] 65 []
        exact v_vret hE dX6_prepare_65 (g1, g2, g3) (hq _ ⟨fun h => by omega, fun _ => c62⟩) rfl rfl
    · have b23 : ¬ (t ≤ 0) := fun q => b23 (((show nI t ≤ 0 ↔ t ≤ 0 from nI_leI (b := 0) (by omega) (by decide))).mpr q)
      refine v_aload_n 0 dX6_prepare_26 rfl rfl ?_
      refine v_get f_Table_9 0 rfl rfl dX6_prepare_27 ?_
      refine v_aload_n 0 dX6_prepare_30 rfl rfl ?_
      refine v_get f_Table_29 0 rfl rfl dX6_prepare_31 ?_
      refine v_iconst (v := nI 1) dX6_prepare_34 (by decide) ?_
      refine v_isub dX6_prepare_35 ?_
      refine v_topi (y := nI (t - 1)) (pk_sub (by omega)) ?_
      refine v_iald 0 1 rfl rfl (by omega) (by omega) dX6_prepare_36 ?_
      refine v_topi (y := nI (W (t - 1))) (hW (t - 1) (by omega)) ?_
      have hwt := hWb (t - 1) (by omega)
      refine v_if_ne (tgt := 53) dX6_prepare_37 (by decide) (fun b37 => ?_) (fun b37 => ?_)
      · have b37 : ¬ (W (t - 1) = 0) := fun q => b37 (((show nI (W (t - 1)) = 0 ↔ W (t - 1) = 0 from nI_eq (b := 0) (by omega) (by decide))).mpr q)
        have hfx : topN W 64 = t := by rw [hT]; exact topN_fix (Or.inr b37)
        subst hfx
        refine v_aload_n 0 dX6_prepare_53 rfl rfl ?_
        refine v_get f_Table_25 0 rfl rfl dX6_prepare_54 ?_
        refine v_iconst (v := nI 1) dX6_prepare_57 (by decide) ?_
        refine v_icmp_ne (tgt := 65) dX6_prepare_58 (by decide) (fun b58 => ?_) (fun b58 => ?_)
        · have b58 : ¬ (mm = 1) := fun q => b58 ((nI_eq (by omega) (by decide)).mpr q)
          exact v_vret hE dX6_prepare_65 (gs, gp, gr) (hq _ ⟨fun _ => rfl, fun h => absurd h b58⟩) rfl rfl
        · have b58 : mm = 1 := (nI_eq (by omega) (by decide)).mp b58
          refine v_aload_n 0 dX6_prepare_61 rfl rfl ?_
          refine v_callV (as := []) (rest := []) (ws' := fun u => [(tb, .inr (6, [.ref wq, .ref sq, .ref pq, .ref rq, .int (nI mm), .int (nI (topN W 64)), .long (lN (sumN W 64))])), (wq, .inl (cI, 64, .inl gw)), (sq, .inl (cI, 64, .inl u.1)), (pq, .inl (cI, 64, .inl u.2.1)), (rq, .inl (cJ, 64, .inr (.inl u.2.2)))]) m_Table_40 (kX6_pair X.l (tb := tb) (wq := wq) (sq := sq) (pq := pq) (rq := rq) (m := nI mm) (tp := topN W 64) (sm := sumN W 64) (gw := gw) (gs := gs) (gp := gp) (gr := gr) (W := W) hW hWb (topN_le W 64) (sum_lt hWb) sum_top) k_code_X6_pair [0, 1, 2, 3, 4] 0 rfl rfl rfl rfl dX6_prepare_62 (Nat.le_of_ble_eq_true rfl) ⟨rfl, rfl, by decide, by decide⟩ ⟨Nat.zero_le _, Nat.zero_le _⟩ rfl rfl (fun _ => rfl) (fun _ => rfl) ?_
          intro u62 c62
          obtain ⟨g1, g2, g3⟩ := u62
          try dsimp only at c62
          show V (gG D cI cJ cT) X (rmD 2) cX6_prepare 2 RX6 [(tb, .inr (6, [.ref wq, .ref sq, .ref pq, .ref rq, .int (nI mm), .int (nI (topN W 64)), .long (lN (sumN W 64))])), (wq, .inl (cI, 64, .inl gw)), (sq, .inl (cI, 64, .inl g1)), (pq, .inl (cI, 64, .inl g2)), (rq, .inl (cJ, 64, .inr (.inl g3)))] 0 0 [(0, .ref tb), (1, .int (nI mm))] 65 []
          exact v_vret hE dX6_prepare_65 (g1, g2, g3) (hq _ ⟨fun h => by omega, fun _ => c62⟩) rfl rfl
      · have b37 : W (t - 1) = 0 := ((show nI (W (t - 1)) = 0 ↔ W (t - 1) = 0 from nI_eq (b := 0) (by omega) (by decide))).mp b37
        refine v_aload_n 0 dX6_prepare_40 rfl rfl ?_
        refine v_dup dX6_prepare_41 rfl ?_
        refine v_get f_Table_29 0 rfl rfl dX6_prepare_42 ?_
        refine v_iconst (v := nI 1) dX6_prepare_45 (by decide) ?_
        refine v_isub dX6_prepare_46 ?_
        refine v_topi (y := nI (t - 1)) (pk_sub (by omega)) ?_
        refine v_put (ws' := [(tb, .inr (6, [.ref wq, .ref sq, .ref pq, .ref rq, .int (nI mm), .int (nI (t - 1)), .long (lN (sumN W 64))])), (wq, .inl (cI, 64, .inl gw)), (sq, .inl (cI, 64, .inl gs)), (pq, .inl (cI, 64, .inl gp)), (rq, .inl (cJ, 64, .inr (.inl gr)))]) fw_Table_29 0 rfl (rfl) (rfl) (Nat.le_of_ble_eq_true rfl) dX6_prepare_47 rfl ?_
        refine v_goto (tgt := 19) dX6_prepare_50 (by decide) ?_
        refine v_lv [0, 1] rfl ?_
        exact ih (t - 1) (by omega) (by omega) (by rw [hT]; exact topN_down (by omega) b37)
set_option maxRecDepth 100000 in
set_option maxHeartbeats 4000000 in
theorem kX6_prepare {D : va_G} {cI cJ cT : ClassId} (l : Launch) {tb wq sq pq rq : Nat} {m : Int32} {tp sm mm : Nat} {gw gs gp : Nat → Int32} {gr : Nat → Int64} {W : Nat → Nat} (hW : ∀ x, x < 64 → gw x = nI (W x)) (hWb : ∀ x, x < 64 → W x < 2 ^ 31) (hmm : mm ≤ 1) : Fn (S := (Nat → Int32) × (Nat → Int32) × (Nat → Int64)) (gG D cI cJ cT) l yX6_prepare (.code yX6_prepare cX6_prepare 2 none) (rmD 2) [.ref tb, .int (nI mm)] [(tb, .inr (6, [.ref wq, .ref sq, .ref pq, .ref rq, .int m, .int (nI tp), .long (lN sm)])), (wq, .inl (cI, 64, .inl gw)), (sq, .inl (cI, 64, .inl gs)), (pq, .inl (cI, 64, .inl gp)), (rq, .inl (cJ, 64, .inr (.inl gr)))] (fun u => (mm = 0 → u = (gs, gp, gr)) ∧ (mm = 1 → (∀ x, x < (topN W 64) → u.2.2 x = lN ((alS W (topN W 64) (sumN W 64)).1 x)) ∧ ∀ x, x < (topN W 64) → u.2.1 x = nI ((alS W (topN W 64) (sumN W 64)).2 x))) (fun u => none) (fun u => [(tb, .inr (6, [.ref wq, .ref sq, .ref pq, .ref rq, .int (nI mm), .int (nI ((topN W 64))), .long (lN ((sumN W 64)))])), (wq, .inl (cI, 64, .inl gw)), (sq, .inl (cI, 64, .inl u.1)), (pq, .inl (cI, 64, .inl u.2.1)), (rq, .inl (cJ, 64, .inr (.inl u.2.2)))]) := by
  refine Fn.intro (by decide) (Nat.le_of_ble_eq_true rfl) ?_
  intro X hX hE hin
  subst hX
  show V (gG D cI cJ cT) X _ cX6_prepare 2 RX6 _ 0 0 [(0, .ref tb), (1, .int (nI mm))] 0 []
  refine v_aload_n 0 dX6_prepare_0 rfl rfl ?_
  refine v_iload_n 1 dX6_prepare_1 rfl rfl ?_
  refine v_put (ws' := [(tb, .inr (6, [.ref wq, .ref sq, .ref pq, .ref rq, .int (nI mm), .int (nI tp), .long (lN sm)])), (wq, .inl (cI, 64, .inl gw)), (sq, .inl (cI, 64, .inl gs)), (pq, .inl (cI, 64, .inl gp)), (rq, .inl (cJ, 64, .inr (.inl gr)))]) fw_Table_25 0 rfl (rfl) (rfl) (Nat.le_of_ble_eq_true rfl) dX6_prepare_2 rfl ?_
  refine v_aload_n 0 dX6_prepare_5 rfl rfl ?_
  refine v_aload_n 0 dX6_prepare_6 rfl rfl ?_
  refine v_callV (as := []) (rest := [.ref tb]) (ws' := fun u => [(tb, .inr (6, [.ref wq, .ref sq, .ref pq, .ref rq, .int (nI mm), .int (nI tp), .long (lN sm)])), (wq, .inl (cI, 64, .inl gw)), (sq, .inl (cI, 64, .inl gs)), (pq, .inl (cI, 64, .inl gp)), (rq, .inl (cJ, 64, .inr (.inl gr)))]) m_Table_36 (kX6_sumOfWeights X.l (tb := tb) (wq := wq) (sq := sq) (pq := pq) (rq := rq) (m := nI mm) (tp := tp) (sm := sm) (gw := gw) (W := W) hW hWb) k_code_X6_sumOfWeights [0, 1] 0 rfl rfl rfl rfl dX6_prepare_7 (Nat.le_of_ble_eq_true rfl) ⟨rfl, rfl, by decide, by decide⟩ ⟨Nat.zero_le _, Nat.zero_le _⟩ rfl rfl (fun _ => rfl) (fun _ => rfl) ?_
  intro uu c7
  try dsimp only at c7
  show V (gG D cI cJ cT) X (rmD 2) cX6_prepare 2 RX6 [(tb, .inr (6, [.ref wq, .ref sq, .ref pq, .ref rq, .int (nI mm), .int (nI tp), .long (lN sm)])), (wq, .inl (cI, 64, .inl gw)), (sq, .inl (cI, 64, .inl gs)), (pq, .inl (cI, 64, .inl gp)), (rq, .inl (cJ, 64, .inr (.inl gr)))] 0 0 [(0, .ref tb), (1, .int (nI mm))] 10 [.long (lN (sumN W 64)), .ref tb]
  refine v_put (ws' := [(tb, .inr (6, [.ref wq, .ref sq, .ref pq, .ref rq, .int (nI mm), .int (nI tp), .long (lN (sumN W 64))])), (wq, .inl (cI, 64, .inl gw)), (sq, .inl (cI, 64, .inl gs)), (pq, .inl (cI, 64, .inl gp)), (rq, .inl (cJ, 64, .inr (.inl gr)))]) fw_Table_32 0 rfl (rfl) (rfl) (Nat.le_of_ble_eq_true rfl) dX6_prepare_10 rfl ?_
  refine v_aload_n 0 dX6_prepare_13 rfl rfl ?_
  refine v_bipush (v := nI 64) dX6_prepare_14 (by decide) ?_
  refine v_put (ws' := [(tb, .inr (6, [.ref wq, .ref sq, .ref pq, .ref rq, .int (nI mm), .int (nI 64), .long (lN (sumN W 64))])), (wq, .inl (cI, 64, .inl gw)), (sq, .inl (cI, 64, .inl gs)), (pq, .inl (cI, 64, .inl gp)), (rq, .inl (cJ, 64, .inr (.inl gr)))]) fw_Table_29 0 rfl (rfl) (rfl) (Nat.le_of_ble_eq_true rfl) dX6_prepare_16 rfl ?_
  refine v_lv [0, 1] rfl ?_
  exact kX6_prep_loop (m := m) hW hWb hmm (fun u hu => hu) hE 65 64 (by omega) (by omega) rfl
