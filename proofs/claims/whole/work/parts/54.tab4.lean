set_option maxRecDepth 100000 in
set_option maxHeartbeats 4000000 in
theorem kX6_pickByAlias {D : va_G} {cI cJ cT : ClassId} (l : Launch) {tb wq sq pq rq d w n : Nat} {m : Int32} {f : Nat → Int32} {fr p e : Nat} {dr : Bool} {tp sm : Nat} {gp : Nat → Int32} {gr : Nat → Int64} {L A : Nat → Nat} (hp : p ≤ e) (he : e ≤ 32 * n) (hn : n ≤ 512) (hdr : dr = true → p = e) (htp0 : 0 < tp) (htp : tp ≤ 64) (hsm : sm < 2 ^ 40) (hR : ∀ x, x < tp → gr x = lN (L x)) (hL : ∀ x, x < tp → L x ≤ sm) (hA : ∀ x, x < tp → gp x = nI (A x)) (hAb : ∀ x, x < tp → A x < 64) : Fn (S := Nat × Nat × Bool) (gG D cI cJ cT) l yX6_pickByAlias (.code yX6_pickByAlias cX6_pickByAlias 3 (some .int)) (rmD 2) [.ref tb, .ref d] [(tb, .inr (6, [.ref wq, .ref sq, .ref pq, .ref rq, .int m, .int (nI tp), .long (lN sm)])), (pq, .inl (cI, 64, .inl gp)), (rq, .inl (cJ, 64, .inr (.inl gr))), (d, .inr (0, [.ref w, .int (nI fr), .int (nI p), .int (nI e), .int (dI dr)])), (w, .inl (cI, n, .inl f))] (fun u => Rl (sAl (bitW f) e tp sm L A p) e p dr u ∧ u.1 < 64) (fun u => some (.int (nI u.1))) (fun u => [(tb, .inr (6, [.ref wq, .ref sq, .ref pq, .ref rq, .int m, .int (nI tp), .long (lN sm)])), (pq, .inl (cI, 64, .inl gp)), (rq, .inl (cJ, 64, .inr (.inl gr))), (d, .inr (0, [.ref w, .int (nI fr), .int (nI u.2.1), .int (nI e), .int (dI u.2.2)])), (w, .inl (cI, n, .inl f))]) := by
  refine Fn.intro (by decide) (Nat.le_of_ble_eq_true rfl) ?_
  intro X hX hE hin
  subst hX
  show V (gG D cI cJ cT) X _ cX6_pickByAlias 3 RX6 _ 0 0 [(0, .ref tb), (1, .ref d)] 0 []
  refine v_aload_n 1 dX6_pickByAlias_0 rfl rfl ?_
  refine v_aload_n 0 dX6_pickByAlias_1 rfl rfl ?_
  refine v_get f_Table_29 0 rfl rfl dX6_pickByAlias_2 ?_
  refine v_i2l (v := lN tp) dX6_pickByAlias_5 (nI_l (by omega)) ?_
  refine v_callV (as := [.long (lN tp)]) (rest := []) (ws' := fun u => [(tb, .inr (6, [.ref wq, .ref sq, .ref pq, .ref rq, .int m, .int (nI tp), .long (lN sm)])), (pq, .inl (cI, 64, .inl gp)), (rq, .inl (cJ, 64, .inr (.inl gr))), (d, .inr (0, [.ref w, .int (nI fr), .int (nI u.2.1), .int (nI e), .int (dI u.2.2)])), (w, .inl (cI, n, .inl f))]) m_Table_58 (kX0_uniform X.l (d := d) (w := w) (n := n) (f := f) (fr := fr) (p := p) (e := e) (dr := dr) (nn := tp) (by omega) he hn hdr htp0 (by omega)) k_code_X0_uniform [3, 4] 3 rfl rfl rfl rfl dX6_pickByAlias_6 (Nat.le_of_ble_eq_true rfl) ⟨rfl, rfl, by decide, by decide⟩ ⟨Nat.zero_le _, Nat.zero_le _⟩ rfl rfl (fun _ => rfl) (fun _ => rfl) ?_
  intro u6 c6
  obtain ⟨c, p1, d1⟩ := u6
  try dsimp only at c6
  show V (gG D cI cJ cT) X (rmD 2) cX6_pickByAlias 3 RX6 [(tb, .inr (6, [.ref wq, .ref sq, .ref pq, .ref rq, .int m, .int (nI tp), .long (lN sm)])), (pq, .inl (cI, 64, .inl gp)), (rq, .inl (cJ, 64, .inr (.inl gr))), (d, .inr (0, [.ref w, .int (nI fr), .int (nI p1), .int (nI e), .int (dI d1)])), (w, .inl (cI, n, .inl f))] 0 0 [(0, .ref tb), (1, .ref d)] 9 [.long (lN c)]
  have hc : c < tp := c6.2
  have hp1 := Rl_p c6.1
  have hLc := hL c hc
  refine v_l2i (v := nI c) dX6_pickByAlias_9 (lN_i c) ?_
  refine v_istore_n (lv' := [(2, .int (nI c)), (0, .ref tb), (1, .ref d)]) dX6_pickByAlias_10 rfl (by decide) rfl ?_
  refine v_iload_n 0 dX6_pickByAlias_11 rfl rfl ?_
  refine v_if_lt (tgt := 23) dX6_pickByAlias_12 (by decide) (fun b12 => absurd b12 (nI_pos (by omega))) (fun b12 => ?_)
  refine v_iload_n 0 dX6_pickByAlias_15 rfl rfl ?_
  refine v_aload_n 1 dX6_pickByAlias_16 rfl rfl ?_
  refine v_get f_Table_29 0 rfl rfl dX6_pickByAlias_17 ?_
  refine v_icmp_lt (tgt := 25) dX6_pickByAlias_20 (by decide) (fun b20 => ?_) (fun b20 => absurd ((nI_ltI (by omega) (by omega)).mpr hc) b20)
  refine v_aload_n 2 dX6_pickByAlias_25 rfl rfl ?_
  refine v_aload_n 1 dX6_pickByAlias_26 rfl rfl ?_
  refine v_get f_Table_21 0 rfl rfl dX6_pickByAlias_27 ?_
  refine v_iload_n 0 dX6_pickByAlias_30 rfl rfl ?_
  refine v_lald 1 2 rfl rfl (by omega) (by omega) dX6_pickByAlias_31 ?_
  refine v_topl (y := lN (L c)) (hR c hc) ?_
  refine v_aload_n 1 dX6_pickByAlias_32 rfl rfl ?_
  refine v_get f_Table_32 0 rfl rfl dX6_pickByAlias_33 ?_
  refine v_callV (as := [.long (lN (L c)), .long (lN sm)]) (rest := []) (ws' := fun u => [(tb, .inr (6, [.ref wq, .ref sq, .ref pq, .ref rq, .int m, .int (nI tp), .long (lN sm)])), (pq, .inl (cI, 64, .inl gp)), (rq, .inl (cJ, 64, .inr (.inl gr))), (d, .inr (0, [.ref w, .int (nI fr), .int (nI u.2.1), .int (nI e), .int (dI u.2.2)])), (w, .inl (cI, n, .inl f))]) m_Table_64 (kX0_coin X.l (d := d) (w := w) (n := n) (f := f) (fr := fr) (p := p1) (e := e) (dr := d1) (num := (L c)) (den := sm) (by omega) he hn hp1.2.2 (by omega) (by omega)) k_code_X0_coin [3, 4] 3 rfl rfl rfl rfl dX6_pickByAlias_36 (Nat.le_of_ble_eq_true rfl) ⟨rfl, rfl, by decide, by decide⟩ ⟨Nat.zero_le _, Nat.zero_le _⟩ rfl rfl (fun _ => rfl) (fun _ => rfl) ?_
  intro u36 c36
  obtain ⟨z, p2, d2⟩ := u36
  try dsimp only at c36
  show V (gG D cI cJ cT) X (rmD 2) cX6_pickByAlias 3 RX6 [(tb, .inr (6, [.ref wq, .ref sq, .ref pq, .ref rq, .int m, .int (nI tp), .long (lN sm)])), (pq, .inl (cI, 64, .inl gp)), (rq, .inl (cJ, 64, .inr (.inl gr))), (d, .inr (0, [.ref w, .int (nI fr), .int (nI p2), .int (nI e), .int (dI d2)])), (w, .inl (cI, n, .inl f))] 0 0 [(2, .int (nI c)), (0, .ref tb), (1, .ref d)] 39 [.int (nI z)]
  have hz : z ≤ 1 := c36.2.1
  refine v_iconst (v := nI 1) dX6_pickByAlias_39 (by decide) ?_
  refine v_icmp_ne (tgt := 47) dX6_pickByAlias_40 (by decide) (fun b40 => ?_) (fun b40 => ?_)
  · have b40 : ¬ (z = 1) := fun q => b40 ((nI_eq (by omega) (by decide)).mpr q)
    refine v_aload_n 1 dX6_pickByAlias_47 rfl rfl ?_
    refine v_get f_Table_18 0 rfl rfl dX6_pickByAlias_48 ?_
    refine v_iload_n 0 dX6_pickByAlias_51 rfl rfl ?_
    refine v_iald 0 1 rfl rfl (by omega) (by omega) dX6_pickByAlias_52 ?_
    refine v_topi (y := nI (A c)) (hA c hc) ?_
    exact v_iret hE dX6_pickByAlias_53 (A c, p2, d2) ⟨by have := sAl_go (A := A) c6.1 c36.1; rw [if_neg b40] at this; exact this, hAb c hc⟩ rfl rfl
  · have b40 : z = 1 := (nI_eq (by omega) (by decide)).mp b40
    refine v_iload_n 0 dX6_pickByAlias_43 rfl rfl ?_
    refine v_goto (tgt := 53) dX6_pickByAlias_44 (by decide) ?_
    exact v_iret hE dX6_pickByAlias_53 (c, p2, d2) ⟨by have := sAl_go (A := A) c6.1 c36.1; rw [if_pos b40] at this; exact this, by show c < 64; omega⟩ rfl rfl
theorem updL_2 {gr : Nat → Int64} {i : Nat} {a c : Int64} : vp_updL (vp_updL gr i a) i c = vp_updL gr i c := by
  funext x
  unfold vp_updL
  by_cases h : x = i <;> simp [h]
set_option maxRecDepth 100000 in
set_option maxHeartbeats 4000000 in
theorem kX6_level {D : va_G} {cI cJ cT : ClassId} {X : vX} {tb wq sq pq rq d w n : Nat} {m : Int32} {f : Nat → Int32} {fr e : Nat} {tp sm p j : Nat} {dr : Bool} {gw : Nat → Int32} (htp0 : 0 < tp) (htp : tp ≤ 64) (hsm0 : 0 < sm) (hsm : sm < 2 ^ 40) {W0 : va_W} {post : (Nat → Int64) × Nat × Nat × Bool → Prop} (hE : vE (gG D cI cJ cT) X (some .int) W0 post (fun u => some (.int (nI u.2.1))) (fun u => [(tb, .inr (6, [.ref wq, .ref sq, .ref pq, .ref rq, .int m, .int (nI tp), .long (lN sm)])), (wq, .inl (cI, 64, .inl gw)), (rq, .inl (cJ, 64, .inr (.inl u.1))), (d, .inr (0, [.ref w, .int (nI fr), .int (nI u.2.2.1), .int (nI e), .int (dI u.2.2.2)])), (w, .inl (cI, n, .inl f))])) :
    ∀ (k i : Nat) (r : Nat → Nat) (dd : Nat) (gr : Nat → Int64), tp - i < k → i ≤ tp → TbM sm tp i r dd → (∀ x, x < tp → gr x = lN (r x)) → (∀ (o : Nat) (r2 : Nat → Nat) (d2 : Nat) (g : Nat → Int64), o < tp → tsc sm (tp - i) i r dd = (some o, r2, d2) → post (g, o, p, dr)) → (∀ (r2 : Nat → Nat) (d2 : Nat) (g2 : Nat → Int64), tsc sm (tp - i) i r dd = (none, r2, d2) → TbI sm tp r2 d2 → (∀ x, x < tp → g2 x = lN (r2 x)) → V (gG D cI cJ cT) X (rmD 1) cX6_pickByTree 5 RX6 [(tb, .inr (6, [.ref wq, .ref sq, .ref pq, .ref rq, .int m, .int (nI tp), .long (lN sm)])), (wq, .inl (cI, 64, .inl gw)), (rq, .inl (cJ, 64, .inr (.inl g2))), (d, .inr (0, [.ref w, .int (nI fr), .int (nI p), .int (nI e), .int (dI dr)])), (w, .inl (cI, n, .inl f))] 0 0 [(0, .ref tb), (1, .ref d), (2, .int (nI d2)), (3, .int (nI j))] 163 []) → V (gG D cI cJ cT) X (rmD 1) cX6_pickByTree 5 RX6 [(tb, .inr (6, [.ref wq, .ref sq, .ref pq, .ref rq, .int m, .int (nI tp), .long (lN sm)])), (wq, .inl (cI, 64, .inl gw)), (rq, .inl (cJ, 64, .inr (.inl gr))), (d, .inr (0, [.ref w, .int (nI fr), .int (nI p), .int (nI e), .int (dI dr)])), (w, .inl (cI, n, .inl f))] 0 0 [(0, .ref tb), (1, .ref d), (2, .int (nI dd)), (3, .int (nI j)), (4, .int (nI i))] 92 [] := by
  intro k
  induction k with
  | zero => intro i r dd gr h1; omega
  | succ k ih =>
    intro i r dd gr hk hi hM hgr hq1 hq2
    refine v_iload 4 dX6_pickByTree_92 rfl ?_
    refine v_aload_n 0 dX6_pickByTree_94 rfl rfl ?_
    refine v_get f_Table_29 0 rfl rfl dX6_pickByTree_95 ?_
    refine v_icmp_ge (tgt := 163) dX6_pickByTree_98 (by decide) (fun b98 => ?_) (fun b98 => ?_)
    · have b98 : tp ≤ i := (nI_leI (by omega) (by omega)).mp b98
      refine v_lv [0, 1, 2, 3] rfl ?_
      exact hq2 r dd gr (tsc_end b98) (by rw [show i = tp by omega] at hM; exact TbM_end hM) hgr
    · have b98 : ¬ (tp ≤ i) := fun q => b98 ((nI_leI (by omega) (by omega)).mpr q)
      have hri := hM.1 i (by omega)
      have hdl := TbM_lt hM htp0
      refine v_aload_n 0 dX6_pickByTree_101 rfl rfl ?_
      refine v_get f_Table_21 0 rfl rfl dX6_pickByTree_102 ?_
      refine v_iload 4 dX6_pickByTree_105 rfl ?_
      refine v_dup2_11 dX6_pickByTree_107 rfl rfl ?_
      refine v_lald 1 2 rfl rfl (by omega) (by omega) dX6_pickByTree_108 ?_
      refine v_topl (y := lN (r i)) (hgr i (by omega)) ?_
      refine v_aload_n 0 dX6_pickByTree_109 rfl rfl ?_
      refine v_get f_Table_21 0 rfl rfl dX6_pickByTree_110 ?_
      refine v_iload 4 dX6_pickByTree_113 rfl ?_
      refine v_lald 1 2 rfl rfl (by omega) (by omega) dX6_pickByTree_115 ?_
      refine v_topl (y := lN (r i)) (hgr i (by omega)) ?_
      refine v_ladd dX6_pickByTree_116 ?_
      refine v_topl (y := lN (2 * r i)) (lN_dbl _) ?_
      refine v_last (ws' := [(tb, .inr (6, [.ref wq, .ref sq, .ref pq, .ref rq, .int m, .int (nI tp), .long (lN sm)])), (wq, .inl (cI, 64, .inl gw)), (rq, .inl (cJ, 64, .inr (.inl (vp_updL gr i (lN (2 * r i)))))), (d, .inr (0, [.ref w, .int (nI fr), .int (nI p), .int (nI e), .int (dI dr)])), (w, .inl (cI, n, .inl f))]) 1 2 rfl rfl (by omega) (by omega) dX6_pickByTree_117 rfl ?_
      refine v_aload_n 0 dX6_pickByTree_118 rfl rfl ?_
      refine v_get f_Table_21 0 rfl rfl dX6_pickByTree_119 ?_
      refine v_iload 4 dX6_pickByTree_122 rfl ?_
      refine v_lald 1 2 rfl rfl (by omega) (by omega) dX6_pickByTree_124 ?_
      refine v_topl (y := lN (2 * r i)) (pk_uLs) ?_
      refine v_aload_n 0 dX6_pickByTree_125 rfl rfl ?_
      refine v_get f_Table_32 0 rfl rfl dX6_pickByTree_126 ?_
      refine v_lcmp dX6_pickByTree_129 ?_
      refine v_if_lt (tgt := 157) dX6_pickByTree_130 (by decide) (fun b130 => ?_) (fun b130 => ?_)
      · have b130 : 2 * r i < sm := (z_lt (by omega) (by omega)).mp b130
        refine v_iinc (lv' := [(4, .int (nI (i + 1))), (0, .ref tb), (1, .ref d), (2, .int (nI dd)), (3, .int (nI j))]) (v := nI (i + 1)) 4 dX6_pickByTree_157 rfl (nI_1 i) (by decide) rfl ?_
        refine v_goto (tgt := 92) dX6_pickByTree_160 (by decide) ?_
        refine v_lv [1, 2, 3, 4, 0] rfl ?_
        exact ih (i + 1) (fU r i (2 * r i)) dd _ (by omega) (by omega) (TbM_low hM (by omega) (by omega)) (updL_ok hgr) (fun o r2 d2 g ho h => hq1 o r2 d2 g ho (by rw [tsc_low (by omega) (by omega)]; exact h)) (fun r2 d2 g2 h => hq2 r2 d2 g2 (by rw [tsc_low (by omega) (by omega)]; exact h))
      · have b130 : ¬ (2 * r i < sm) := fun q => b130 ((z_lt (by omega) (by omega)).mpr q)
        refine v_aload_n 0 dX6_pickByTree_133 rfl rfl ?_
        refine v_get f_Table_21 0 rfl rfl dX6_pickByTree_134 ?_
        refine v_iload 4 dX6_pickByTree_137 rfl ?_
        refine v_dup2_11 dX6_pickByTree_139 rfl rfl ?_
        refine v_lald 1 2 rfl rfl (by omega) (by omega) dX6_pickByTree_140 ?_
        refine v_topl (y := lN (2 * r i)) (pk_uLs) ?_
        refine v_aload_n 0 dX6_pickByTree_141 rfl rfl ?_
        refine v_get f_Table_32 0 rfl rfl dX6_pickByTree_142 ?_
        refine v_lsub dX6_pickByTree_145 ?_
        refine v_topl (y := lN (2 * r i - sm)) (lN_sub (by omega)) ?_
        refine v_last (ws' := [(tb, .inr (6, [.ref wq, .ref sq, .ref pq, .ref rq, .int m, .int (nI tp), .long (lN sm)])), (wq, .inl (cI, 64, .inl gw)), (rq, .inl (cJ, 64, .inr (.inl (vp_updL (vp_updL gr i (lN (2 * r i))) i (lN (2 * r i - sm)))))), (d, .inr (0, [.ref w, .int (nI fr), .int (nI p), .int (nI e), .int (dI dr)])), (w, .inl (cI, n, .inl f))]) 1 2 rfl rfl (by omega) (by omega) dX6_pickByTree_146 rfl ?_
        refine v_iload_n 2 dX6_pickByTree_147 rfl rfl ?_
        refine v_if_ne (tgt := 154) dX6_pickByTree_148 (by decide) (fun b148 => ?_) (fun b148 => ?_)
        · have b148 : ¬ (dd = 0) := fun q => b148 (((show nI dd = 0 ↔ dd = 0 from nI_eq (b := 0) (by omega) (by decide))).mpr q)
          refine v_iinc (lv' := [(2, .int (nI (dd - 1))), (0, .ref tb), (1, .ref d), (3, .int (nI j)), (4, .int (nI i))]) (v := nI (dd - 1)) 2 dX6_pickByTree_154 rfl (sb_m1 (by omega)) (by decide) rfl ?_
          refine v_iinc (lv' := [(4, .int (nI (i + 1))), (2, .int (nI (dd - 1))), (0, .ref tb), (1, .ref d), (3, .int (nI j))]) (v := nI (i + 1)) 4 dX6_pickByTree_157 rfl (nI_1 i) (by decide) rfl ?_
          refine v_goto (tgt := 92) dX6_pickByTree_160 (by decide) ?_
          refine v_lv [2, 3, 1, 4, 0] rfl ?_
          exact ih (i + 1) (fU r i (2 * r i - sm)) (dd - 1) _ (by omega) (by omega) (TbM_high hM hsm0 (by omega) (by omega) b148) (by rw [updL_2]; exact updL_ok hgr) (fun o r2 d2 g ho h => hq1 o r2 d2 g ho (by rw [tsc_high (by omega) (by omega) b148]; exact h)) (fun r2 d2 g2 h => hq2 r2 d2 g2 (by rw [tsc_high (by omega) (by omega) b148]; exact h))
        · have b148 : dd = 0 := ((show nI dd = 0 ↔ dd = 0 from nI_eq (b := 0) (by omega) (by decide))).mp b148
          refine v_iload 4 dX6_pickByTree_151 rfl ?_
          exact v_iret hE dX6_pickByTree_153 (_, i, p, dr) (hq1 i _ _ _ (by omega) (tsc_out (by omega) (by omega) b148)) rfl rfl
theorem tb_go {b : Nat → Nat} {e S N k p p1 d r1 d' : Nat} {r r' : Nat → Nat} {dr d1 : Bool} {u : Nat × Nat × Bool} (hb : (p < e ∧ r1 = b p ∧ p1 = p + 1 ∧ d1 = false) ∨ (p = e ∧ p1 = e ∧ r1 = 0 ∧ d1 = true)) (hd : dr = false) (ht : tsc S (N - 0) 0 r (2 * d + r1) = (none, r', d')) (h : Rl (sTbL b e S N k r' d' p1) e p1 d1 u) : Rl (sTbL b e S N (k + 1) r d p) e p dr u := by
  rcases hb with ⟨h1, h2, h3, h4⟩ | ⟨h1, h2, h3, h4⟩
  · rw [h2, Nat.sub_zero] at ht
    exact Rl_go hd h4 (by omega) (by rw [sTb_none h1 ht, h3]) h
  · exact Rl_end h4 (by omega) (fun _ => sTb_dry (by omega)) h
theorem tb_out {b : Nat → Nat} {e S N k p p1 d r1 d' o : Nat} {r r' : Nat → Nat} {dr d1 : Bool} (hb : (p < e ∧ r1 = b p ∧ p1 = p + 1 ∧ d1 = false) ∨ (p = e ∧ p1 = e ∧ r1 = 0 ∧ d1 = true)) (hd : dr = false) (ht : tsc S (N - 0) 0 r (2 * d + r1) = (some o, r', d')) : Rl (sTbL b e S N (k + 1) r d p) e p dr (o, p1, d1) := by
  rcases hb with ⟨h1, h2, h3, h4⟩ | ⟨h1, h2, h3, h4⟩
  · rw [h2, Nat.sub_zero] at ht
    exact Rl_some h4 hd (by rw [sTb_some h1 ht, h3]) (by omega) (by omega)
  · exact Rl_dry ⟨h1, h2, h4⟩ (sTb_dry (by omega))
theorem tb_adv {b : Nat → Nat} {e k p p1 r1 : Nat} {dr d1 : Bool} (hb : (p < e ∧ r1 = b p ∧ p1 = p + 1 ∧ d1 = false) ∨ (p = e ∧ p1 = e ∧ r1 = 0 ∧ d1 = true)) (hk : e - p + (if dr = true then 0 else 1) < k + 1) (hdf : dr = false := by assumption) : e - p1 + (if d1 = true then 0 else 1) < k := by
  rw [hdf, if_neg (by decide)] at hk
  rcases hb with ⟨h1, h2, h3, h4⟩ | ⟨h1, h2, h3, h4⟩
  · rw [h4, if_neg (by decide)]; omega
  · rw [h4, if_pos rfl]; omega
set_option maxRecDepth 100000 in
set_option maxHeartbeats 4000000 in
theorem kX6_tree_loop {D : va_G} {cI cJ cT : ClassId} {X : vX} {tb wq sq pq rq d w n : Nat} {m : Int32} {f : Nat → Int32} {fr e : Nat} {tp sm : Nat} {gw : Nat → Int32} (he : e ≤ 32 * n) (hn : n ≤ 512) (htp0 : 0 < tp) (htp : tp ≤ 64) (hsm0 : 0 < sm) (hsm : sm < 2 ^ 40) {W0 : va_W} {post : (Nat → Int64) × Nat × Nat × Bool → Prop} (hE : vE (gG D cI cJ cT) X (some .int) W0 post (fun u => some (.int (nI u.2.1))) (fun u => [(tb, .inr (6, [.ref wq, .ref sq, .ref pq, .ref rq, .int m, .int (nI tp), .long (lN sm)])), (wq, .inl (cI, 64, .inl gw)), (rq, .inl (cJ, 64, .inr (.inl u.1))), (d, .inr (0, [.ref w, .int (nI fr), .int (nI u.2.2.1), .int (nI e), .int (dI u.2.2.2)])), (w, .inl (cI, n, .inl f))])) :
    ∀ (k : Nat) (r : Nat → Nat) (dd p j : Nat) (dr : Bool) (gr : Nat → Int64), e - p + (if dr = true then 0 else 1) < k → TbI sm tp r dd → (∀ x, x < tp → gr x = lN (r x)) → p ≤ e → (dr = true → p = e) → j + k ≤ 100000 → (∀ u, Rl (sTbL (bitW f) e sm tp k r dd p) e p dr (u.2.1, u.2.2.1, u.2.2.2) ∧ u.2.1 < 64 → post u) → V (gG D cI cJ cT) X (rmD 1) cX6_pickByTree 5 RX6 [(tb, .inr (6, [.ref wq, .ref sq, .ref pq, .ref rq, .int m, .int (nI tp), .long (lN sm)])), (wq, .inl (cI, 64, .inl gw)), (rq, .inl (cJ, 64, .inr (.inl gr))), (d, .inr (0, [.ref w, .int (nI fr), .int (nI p), .int (nI e), .int (dI dr)])), (w, .inl (cI, n, .inl f))] 0 0 [(0, .ref tb), (1, .ref d), (2, .int (nI dd)), (3, .int (nI j))] 67 [] := by
  intro k
  induction k with
  | zero => intro r dd p j dr gr h1; omega
  | succ k ih =>
    intro r dd p j dr gr hk hI hgr hp hdr hj hq
    refine v_iload_n 3 dX6_pickByTree_67 rfl rfl ?_
    refine v_ldc (v := nI 1000000) k_c_Table_68 dX6_pickByTree_68 ?_
    refine v_icmp_ge (tgt := 169) dX6_pickByTree_70 (by decide) (fun b70 => absurd b70 (fun q => absurd ((nI_leI (by decide) (by omega)).mp q) (by omega))) (fun b70 => ?_)
    refine v_aload_n 1 dX6_pickByTree_73 rfl rfl ?_
    refine v_get f_Table_69 3 rfl rfl dX6_pickByTree_74 ?_
    refine v_if_ne (tgt := 169) dX6_pickByTree_77 (by decide) (fun b77 => ?_) (fun b77 => ?_)
    · have b77 : ¬ (dr = false) := fun q => b77 ((dI_0 dr).mpr q)
      refine v_iconst (v := nI 0) dX6_pickByTree_169 (by decide) ?_
      exact v_iret hE dX6_pickByTree_170 (gr, 0, p, dr) (hq _ ⟨Rl_over (by simpa using b77) (hdr (by simpa using b77)), by show 0 < 64; decide⟩) rfl rfl
    · have b77 : dr = false := (dI_0 dr).mp b77
      have hdl := TbI_lt hI htp0
      refine v_iload_n 2 dX6_pickByTree_80 rfl rfl ?_
      refine v_iload_n 2 dX6_pickByTree_81 rfl rfl ?_
      refine v_aload_n 1 dX6_pickByTree_82 rfl rfl ?_
      refine v_callV (as := []) (rest := [.int (nI dd), .int (nI dd)]) (ws' := fun u => [(tb, .inr (6, [.ref wq, .ref sq, .ref pq, .ref rq, .int m, .int (nI tp), .long (lN sm)])), (wq, .inl (cI, 64, .inl gw)), (rq, .inl (cJ, 64, .inr (.inl gr))), (d, .inr (0, [.ref w, .int (nI fr), .int (nI u.2.1), .int (nI e), .int (dI u.2.2)])), (w, .inl (cI, n, .inl f))]) m_Table_73 (kX0_nextBit X.l (d := d) (w := w) (n := n) (f := f) (fr := fr) (p := p) (e := e) (dr := dr) hp he hn) k_code_X0_nextBit [3, 4] 3 rfl rfl rfl rfl dX6_pickByTree_83 (Nat.le_of_ble_eq_true rfl) ⟨rfl, rfl, by decide, by decide⟩ ⟨Nat.zero_le _, Nat.zero_le _⟩ rfl rfl (fun _ => rfl) (fun _ => rfl) ?_
      intro u83 c83
      obtain ⟨r1, p1, d1⟩ := u83
      try dsimp only at c83
      show V (gG D cI cJ cT) X (rmD 1) cX6_pickByTree 5 RX6 [(tb, .inr (6, [.ref wq, .ref sq, .ref pq, .ref rq, .int m, .int (nI tp), .long (lN sm)])), (wq, .inl (cI, 64, .inl gw)), (rq, .inl (cJ, 64, .inr (.inl gr))), (d, .inr (0, [.ref w, .int (nI fr), .int (nI p1), .int (nI e), .int (dI d1)])), (w, .inl (cI, n, .inl f))] 0 0 [(0, .ref tb), (1, .ref d), (2, .int (nI dd)), (3, .int (nI j))] 86 [.int (nI r1), .int (nI dd), .int (nI dd)]
      have hr1 : r1 < 2 := Rbit_lt (bitW_lt f) c83
      have hb1 := Rbit_c hp b77 c83
      refine v_iadd dX6_pickByTree_86 ?_
      refine v_iadd dX6_pickByTree_87 ?_
      refine v_topi (y := nI (2 * dd + r1)) (by rw [nI_add, nI_add]; congr 1; omega) ?_
      refine v_istore_n (lv' := [(2, .int (nI (2 * dd + r1))), (0, .ref tb), (1, .ref d), (3, .int (nI j))]) dX6_pickByTree_88 rfl (by decide) rfl ?_
      refine v_iconst (v := nI 0) dX6_pickByTree_89 (by decide) ?_
      refine v_istore (lv' := [(4, .int (nI 0)), (2, .int (nI (2 * dd + r1))), (0, .ref tb), (1, .ref d), (3, .int (nI j))]) dX6_pickByTree_90 (by decide) rfl ?_
      refine v_lv [2, 3, 1, 4, 0] rfl ?_
      refine kX6_level htp0 htp hsm0 hsm hE (tp + 1) 0 r (2 * dd + r1) gr (by omega) (by omega) (TbM_start hI hr1) hgr (fun o r2 d2 g ho ht2 => hq (g, o, p1, d1) ⟨tb_out hb1 b77 ht2, by show o < 64; omega⟩) (fun r2 d2 g2 ht2 hI2 hg2 => ?_)
      refine v_iinc (lv' := [(3, .int (nI (j + 1))), (0, .ref tb), (1, .ref d), (2, .int (nI d2))]) (v := nI (j + 1)) 3 dX6_pickByTree_163 rfl (nI_1 j) (by decide) rfl ?_
      refine v_goto (tgt := 67) dX6_pickByTree_166 (by decide) ?_
      refine v_lv [1, 2, 3, 0] rfl ?_
      exact ih r2 d2 p1 (j + 1) d1 g2 (tb_adv hb1 hk) hI2 hg2 (Rbit_le hp c83) (Rb_e hb1) (by omega) (fun u hu => hq u ⟨tb_go hb1 b77 ht2 hu.1, hu.2⟩)
set_option maxRecDepth 100000 in
set_option maxHeartbeats 4000000 in
theorem kX6_tree_start {D : va_G} {cI cJ cT : ClassId} {X : vX} {tb wq sq pq rq d w n : Nat} {m : Int32} {f : Nat → Int32} {fr e : Nat} {tp sm p : Nat} {dr : Bool} {gw : Nat → Int32} {W : Nat → Nat} (he : e ≤ 32 * n) (hn : n ≤ 512) (htp0 : 0 < tp) (htp : tp ≤ 64) (hsm0 : 0 < sm) (hsm : sm < 2 ^ 40) (hp : p ≤ e) (hdr : dr = true → p = e) (hW : ∀ x, x < 64 → gw x = nI (W x)) (hWb : ∀ x, x < 64 → W x < 2 ^ 31) (hI0 : TbI sm tp W 0) {W0 : va_W} {post : (Nat → Int64) × Nat × Nat × Bool → Prop} (hE : vE (gG D cI cJ cT) X (some .int) W0 post (fun u => some (.int (nI u.2.1))) (fun u => [(tb, .inr (6, [.ref wq, .ref sq, .ref pq, .ref rq, .int m, .int (nI tp), .long (lN sm)])), (wq, .inl (cI, 64, .inl gw)), (rq, .inl (cJ, 64, .inr (.inl u.1))), (d, .inr (0, [.ref w, .int (nI fr), .int (nI u.2.2.1), .int (nI e), .int (dI u.2.2.2)])), (w, .inl (cI, n, .inl f))])) (hq : ∀ u, Rl (sTbL (bitW f) e sm tp (e - p + 2) W 0 p) e p dr (u.2.1, u.2.2.1, u.2.2.2) ∧ u.2.1 < 64 → post u) :
    ∀ (k i : Nat) (gr : Nat → Int64), tp - i < k → i ≤ tp → (∀ x, x < i → gr x = lN (W x)) → V (gG D cI cJ cT) X (rmD 1) cX6_pickByTree 5 RX6 [(tb, .inr (6, [.ref wq, .ref sq, .ref pq, .ref rq, .int m, .int (nI tp), .long (lN sm)])), (wq, .inl (cI, 64, .inl gw)), (rq, .inl (cJ, 64, .inr (.inl gr))), (d, .inr (0, [.ref w, .int (nI fr), .int (nI p), .int (nI e), .int (dI dr)])), (w, .inl (cI, n, .inl f))] 0 0 [(0, .ref tb), (1, .ref d), (2, .int (nI i))] 36 [] := by
  intro k
  induction k with
  | zero => intro i gr h1; omega
  | succ k ih =>
    intro i gr hk hi hgr
    refine v_iload_n 2 dX6_pickByTree_36 rfl rfl ?_
    refine v_aload_n 0 dX6_pickByTree_37 rfl rfl ?_
    refine v_get f_Table_29 0 rfl rfl dX6_pickByTree_38 ?_
    refine v_icmp_ge (tgt := 63) dX6_pickByTree_41 (by decide) (fun b41 => ?_) (fun b41 => ?_)
    · have b41 : tp ≤ i := (nI_leI (by omega) (by omega)).mp b41
      refine v_iconst (v := nI 0) dX6_pickByTree_63 (by decide) ?_
      refine v_istore_n (lv' := [(2, .int (nI 0)), (0, .ref tb), (1, .ref d)]) dX6_pickByTree_64 rfl (by decide) rfl ?_
      refine v_iconst (v := nI 0) dX6_pickByTree_65 (by decide) ?_
      refine v_istore_n (lv' := [(3, .int (nI 0)), (2, .int (nI 0)), (0, .ref tb), (1, .ref d)]) dX6_pickByTree_66 rfl (by decide) rfl ?_
      refine v_lv [2, 3, 1, 0] rfl ?_
      exact kX6_tree_loop he hn htp0 htp hsm0 hsm hE (e - p + 2) W 0 p 0 dr gr (by split <;> omega) hI0 (fun x hx => hgr x (by omega)) hp hdr (by omega) hq
    · have b41 : ¬ (tp ≤ i) := fun q => b41 ((nI_leI (by omega) (by omega)).mpr q)
      refine v_aload_n 0 dX6_pickByTree_44 rfl rfl ?_
      refine v_get f_Table_21 0 rfl rfl dX6_pickByTree_45 ?_
      refine v_iload_n 2 dX6_pickByTree_48 rfl rfl ?_
      refine v_aload_n 0 dX6_pickByTree_49 rfl rfl ?_
      refine v_get f_Table_9 0 rfl rfl dX6_pickByTree_50 ?_
      refine v_iload_n 2 dX6_pickByTree_53 rfl rfl ?_
      refine v_iald 0 1 rfl rfl (by omega) (by omega) dX6_pickByTree_54 ?_
      refine v_topi (y := nI (W i)) (hW i (by omega)) ?_
      have hwi := hWb i (by omega)
      refine v_i2l (v := lN (W i)) dX6_pickByTree_55 (nI_l (by omega)) ?_
      refine v_last (ws' := [(tb, .inr (6, [.ref wq, .ref sq, .ref pq, .ref rq, .int m, .int (nI tp), .long (lN sm)])), (wq, .inl (cI, 64, .inl gw)), (rq, .inl (cJ, 64, .inr (.inl (vp_updL gr i (lN (W i)))))), (d, .inr (0, [.ref w, .int (nI fr), .int (nI p), .int (nI e), .int (dI dr)])), (w, .inl (cI, n, .inl f))]) 1 2 rfl rfl (by omega) (by omega) dX6_pickByTree_56 rfl ?_
      refine v_iinc (lv' := [(2, .int (nI (i + 1))), (0, .ref tb), (1, .ref d)]) (v := nI (i + 1)) 2 dX6_pickByTree_57 rfl (nI_1 i) (by decide) rfl ?_
      refine v_goto (tgt := 36) dX6_pickByTree_60 (by decide) ?_
      refine v_lv [1, 2, 0] rfl ?_
      exact ih (i + 1) _ (by omega) (by omega) (fun x hx => sh_ok (s := W) hgr x hx)
theorem TbI_start {W : Nat → Nat} (h0 : 0 < sumN W 64) (hne : ¬ W (topN W 64 - 1) = sumN W 64) : 0 < topN W 64 ∧ TbI (sumN W 64) (topN W 64) W 0 := by
  have h1 := topN_le W 64
  have h2 := sumN_top (F := W) (64 - topN W 64) (topN W 64) (fun x a b => topN_0 W 64 x a (by omega))
  rw [show topN W 64 + (64 - topN W 64) = 64 by omega] at h2
  have hpos : 0 < topN W 64 := by
    rcases Nat.eq_zero_or_pos (topN W 64) with q | q
    · have h9 : sumN W 0 = 0 := rfl
      rw [q, h9] at h2; omega
    · exact q
  refine ⟨hpos, fun x hx => ?_, 1, by rw [Nat.one_mul]; exact h2.symm, by decide⟩
  have hle := sumN_ge (F := W) 64 x (by omega)
  rcases Nat.lt_or_ge (W x) (sumN W 64) with q | q
  · exact q
  · by_cases hx1 : x = topN W 64 - 1
    · rw [hx1] at q hle; omega
    · have h3 := topN_pos W 64 hpos
      have h4 := sumN_fU (F := W) (i := x) (v := 0) 64 (by omega)
      have h5 := sumN_ge (F := fU W x 0) 64 (topN W 64 - 1) (by omega)
      have h6 : fU W x 0 (topN W 64 - 1) = W (topN W 64 - 1) := by simp [fU, show ¬ topN W 64 - 1 = x from fun q => hx1 q.symm]
      rw [h6] at h5
      omega
set_option maxRecDepth 100000 in
set_option maxHeartbeats 4000000 in
theorem kX6_pickByTree {D : va_G} {cI cJ cT : ClassId} (l : Launch) {tb wq sq pq rq d w n : Nat} {m : Int32} {f : Nat → Int32} {fr p e : Nat} {dr : Bool} {tp sm : Nat} {gw : Nat → Int32} {gr : Nat → Int64} {W : Nat → Nat} (hp : p ≤ e) (he : e ≤ 32 * n) (hn : n ≤ 512) (hdr : dr = true → p = e) (htp0 : 0 < tp) (htp : tp ≤ 64) (hsm0 : 0 < sm) (hsm : sm < 2 ^ 40) (hW : ∀ x, x < 64 → gw x = nI (W x)) (hWb : ∀ x, x < 64 → W x < 2 ^ 31) (htpe : tp = topN W 64) (hsme : sm = sumN W 64) : Fn (S := (Nat → Int64) × Nat × Nat × Bool) (gG D cI cJ cT) l yX6_pickByTree (.code yX6_pickByTree cX6_pickByTree 5 (some .int)) (rmD 1) [.ref tb, .ref d] [(tb, .inr (6, [.ref wq, .ref sq, .ref pq, .ref rq, .int m, .int (nI tp), .long (lN sm)])), (wq, .inl (cI, 64, .inl gw)), (rq, .inl (cJ, 64, .inr (.inl gr))), (d, .inr (0, [.ref w, .int (nI fr), .int (nI p), .int (nI e), .int (dI dr)])), (w, .inl (cI, n, .inl f))] (fun u => Rl (sTb (bitW f) e W p) e p dr (u.2.1, u.2.2.1, u.2.2.2) ∧ u.2.1 < 64) (fun u => some (.int (nI u.2.1))) (fun u => [(tb, .inr (6, [.ref wq, .ref sq, .ref pq, .ref rq, .int m, .int (nI tp), .long (lN sm)])), (wq, .inl (cI, 64, .inl gw)), (rq, .inl (cJ, 64, .inr (.inl u.1))), (d, .inr (0, [.ref w, .int (nI fr), .int (nI u.2.2.1), .int (nI e), .int (dI u.2.2.2)])), (w, .inl (cI, n, .inl f))]) := by
  refine Fn.intro (by decide) (Nat.le_of_ble_eq_true rfl) ?_
  intro X hX hE hin
  subst hX
  show V (gG D cI cJ cT) X _ cX6_pickByTree 5 RX6 _ 0 0 [(0, .ref tb), (1, .ref d)] 0 []
  refine v_aload_n 0 dX6_pickByTree_0 rfl rfl ?_
  refine v_get f_Table_29 0 rfl rfl dX6_pickByTree_1 ?_
  refine v_if_le (tgt := 34) dX6_pickByTree_4 (by decide) (fun b4 => absurd b4 (fun q => absurd ((show nI tp ≤ 0 ↔ tp ≤ 0 from nI_leI (b := 0) (by omega) (by decide)).mp q) (by omega))) (fun b4 => ?_)
  refine v_aload_n 0 dX6_pickByTree_7 rfl rfl ?_
  refine v_get f_Table_9 0 rfl rfl dX6_pickByTree_8 ?_
  refine v_aload_n 0 dX6_pickByTree_11 rfl rfl ?_
  refine v_get f_Table_29 0 rfl rfl dX6_pickByTree_12 ?_
  refine v_iconst (v := nI 1) dX6_pickByTree_15 (by decide) ?_
  refine v_isub dX6_pickByTree_16 ?_
  refine v_topi (y := nI (tp - 1)) (pk_sub (by omega)) ?_
  refine v_iald 0 1 rfl rfl (by omega) (by omega) dX6_pickByTree_17 ?_
  refine v_topi (y := nI (W (tp - 1))) (hW (tp - 1) (by omega)) ?_
  have hwt := hWb (tp - 1) (by omega)
  refine v_i2l (v := lN (W (tp - 1))) dX6_pickByTree_18 (nI_l (by omega)) ?_
  refine v_aload_n 0 dX6_pickByTree_19 rfl rfl ?_
  refine v_get f_Table_32 0 rfl rfl dX6_pickByTree_20 ?_
  refine v_lcmp dX6_pickByTree_23 ?_
  refine v_if_ne (tgt := 34) dX6_pickByTree_24 (by decide) (fun b24 => ?_) (fun b24 => ?_)
  · have b24 : ¬ (W (tp - 1) = sm) := fun q => b24 ((z_eq (by omega) (by omega)).mpr q)
    refine v_iconst (v := nI 0) dX6_pickByTree_34 (by decide) ?_
    refine v_istore_n (lv' := [(2, .int (nI 0)), (0, .ref tb), (1, .ref d)]) dX6_pickByTree_35 rfl (by decide) rfl ?_
    refine v_lv [1, 2, 0] rfl ?_
    exact kX6_tree_start he hn htp0 htp (by omega) hsm hp hdr hW hWb (by rw [htpe, hsme]; exact (TbI_start (by omega) (by rw [← htpe, ← hsme]; exact b24)).2) hE (fun u hu => ⟨by rw [sTb, ← htpe, ← hsme, if_neg b24]; exact hu.1, hu.2⟩) (tp + 1) 0 gr (by omega) (by omega) (fun x hx => absurd hx (Nat.not_lt_zero x))
  · have b24 : W (tp - 1) = sm := (z_eq (by omega) (by omega)).mp b24
    refine v_aload_n 0 dX6_pickByTree_27 rfl rfl ?_
    refine v_get f_Table_29 0 rfl rfl dX6_pickByTree_28 ?_
    refine v_iconst (v := nI 1) dX6_pickByTree_31 (by decide) ?_
    refine v_isub dX6_pickByTree_32 ?_
    refine v_topi (y := nI (tp - 1)) (pk_sub (by omega)) ?_
    exact v_iret hE dX6_pickByTree_33 (gr, tp - 1, p, dr) ⟨Rl_here hp hdr (by rw [sTb, ← htpe, ← hsme, if_pos b24]), by show tp - 1 < 64; omega⟩ rfl rfl
theorem alL_ok {n S : Nat} : ∀ (k : Nat) (s A Q : Nat → Nat) (dn cnt : Nat) (D : Nat → Bool), AI n S s Q dn cnt D → n - dn < k → (∀ x, x < n → A x < n) → ∀ x, x < n → (alL n S k s A Q dn cnt).1 x ≤ S ∧ (alL n S k s A Q dn cnt).2 x < n := by
  intro k
  induction k with
  | zero => intro s A Q dn cnt D hAI hk; omega
  | succ k ih =>
    intro s A Q dn cnt D hAI hk hA
    simp only [alL]
    by_cases hd : dn < cnt
    · rw [if_pos hd]
      have hlt := AI_large hAI hd
      have hst := AI_step hAI hd _ rfl
      have hcn : cnt ≤ n := by rw [← hAI.2.2.2.2.2.1]; exact cntN_le _ n
      have hA' : ∀ x, x < n → fU A (Q dn) (flF S s n) x < n := by
        intro x hx
        unfold fU
        split
        · exact hlt
        · exact hA x hx
      split
      · rename_i hv
        exact ih _ _ _ _ _ _ (hst.1 hv).1 (by omega) hA'
      · rename_i hv
        exact ih _ _ _ _ _ _ (hst.2 hv) (by omega) hA'
    · rw [if_neg hd]
      intro x hx
      refine ⟨?_, hA x hx⟩
      cases hD : D x
      · exact Nat.le_of_eq (AI_end hAI hd x hx hD)
      · exact Nat.le_of_lt (hAI.2.2.2.1 x hx hD)
theorem alS_ok {W : Nat → Nat} : ∀ x, x < topN W 64 → (alS W (topN W 64) (sumN W 64)).1 x ≤ sumN W 64 ∧ (alS W (topN W 64) (sumN W 64)).2 x < topN W 64 :=
  alL_ok _ _ _ _ _ _ _ (AI_start sum_top) (by omega) (fun x hx => hx)
def sTab (b : Nat → Nat) (e : Nat) (W : Nat → Nat) (mm p : Nat) : Option (Nat × Nat) := if mm = 0 then sTb b e W p else sAl b e (topN W 64) (sumN W 64) (alS W (topN W 64) (sumN W 64)).1 (alS W (topN W 64) (sumN W 64)).2 p
theorem top_pos {W : Nat → Nat} (h0 : 0 < sumN W 64) : 0 < topN W 64 := by
  have h1 := topN_le W 64
  have h2 := sumN_top (F := W) (64 - topN W 64) (topN W 64) (fun x a b => topN_0 W 64 x a (by omega))
  rw [show topN W 64 + (64 - topN W 64) = 64 by omega] at h2
  rcases Nat.eq_zero_or_pos (topN W 64) with q | q
  · have h9 : sumN W 0 = 0 := rfl
    rw [q, h9] at h2; omega
  · exact q
set_option maxRecDepth 100000 in
set_option maxHeartbeats 4000000 in
theorem kX6_pick {D : va_G} {cI cJ cT : ClassId} (l : Launch) {tb wq sq pq rq d w n : Nat} {m : Int32} {f : Nat → Int32} {fr p e : Nat} {dr : Bool} {mm : Nat} {gw gp : Nat → Int32} {gr : Nat → Int64} {W : Nat → Nat} (hp : p ≤ e) (he : e ≤ 32 * n) (hn : n ≤ 512) (hdr : dr = true → p = e) (hmm : mm ≤ 1) (h0 : 0 < sumN W 64) (hW : ∀ x, x < 64 → gw x = nI (W x)) (hWb : ∀ x, x < 64 → W x < 2 ^ 31) (hal : mm = 1 → (∀ x, x < topN W 64 → gr x = lN ((alS W (topN W 64) (sumN W 64)).1 x)) ∧ ∀ x, x < topN W 64 → gp x = nI ((alS W (topN W 64) (sumN W 64)).2 x)) : Fn (S := (Nat → Int64) × Nat × Nat × Bool) (gG D cI cJ cT) l yX6_pick (.code yX6_pick cX6_pick 2 (some .int)) (rmD 3) [.ref tb, .ref d] [(tb, .inr (6, [.ref wq, .ref sq, .ref pq, .ref rq, .int (nI mm), .int (nI ((topN W 64))), .long (lN ((sumN W 64)))])), (wq, .inl (cI, 64, .inl gw)), (pq, .inl (cI, 64, .inl gp)), (rq, .inl (cJ, 64, .inr (.inl gr))), (d, .inr (0, [.ref w, .int (nI fr), .int (nI p), .int (nI e), .int (dI dr)])), (w, .inl (cI, n, .inl f))] (fun u => Rl (sTab (bitW f) e W mm p) e p dr (u.2.1, u.2.2.1, u.2.2.2) ∧ u.2.1 < 64 ∧ (mm = 1 → u.1 = gr)) (fun u => some (.int (nI u.2.1))) (fun u => [(tb, .inr (6, [.ref wq, .ref sq, .ref pq, .ref rq, .int (nI mm), .int (nI ((topN W 64))), .long (lN ((sumN W 64)))])), (wq, .inl (cI, 64, .inl gw)), (pq, .inl (cI, 64, .inl gp)), (rq, .inl (cJ, 64, .inr (.inl u.1))), (d, .inr (0, [.ref w, .int (nI fr), .int (nI u.2.2.1), .int (nI e), .int (dI u.2.2.2)])), (w, .inl (cI, n, .inl f))]) := by
  refine Fn.intro (by decide) (Nat.le_of_ble_eq_true rfl) ?_
  intro X hX hE hin
  subst hX
  show V (gG D cI cJ cT) X _ cX6_pick 2 RX6 _ 0 0 [(0, .ref tb), (1, .ref d)] 0 []
  refine v_aload_n 0 dX6_pick_0 rfl rfl ?_
  refine v_get f_Table_25 0 rfl rfl dX6_pick_1 ?_
  refine v_if_ne (tgt := 15) dX6_pick_4 (by decide) (fun b4 => ?_) (fun b4 => ?_)
  · have b4 : ¬ (mm = 0) := fun q => b4 (((show nI mm = 0 ↔ mm = 0 from nI_eq (b := 0) (by omega) (by decide))).mpr q)
    refine v_aload_n 0 dX6_pick_15 rfl rfl ?_
    refine v_aload_n 1 dX6_pick_16 rfl rfl ?_
    refine v_callV (as := [.ref d]) (rest := []) (ws' := fun u => [(tb, .inr (6, [.ref wq, .ref sq, .ref pq, .ref rq, .int (nI mm), .int (nI ((topN W 64))), .long (lN ((sumN W 64)))])), (wq, .inl (cI, 64, .inl gw)), (pq, .inl (cI, 64, .inl gp)), (rq, .inl (cJ, 64, .inr (.inl gr))), (d, .inr (0, [.ref w, .int (nI fr), .int (nI u.2.1), .int (nI e), .int (dI u.2.2)])), (w, .inl (cI, n, .inl f))]) m_Table_55 (kX6_pickByAlias X.l (tb := tb) (wq := wq) (sq := sq) (pq := pq) (rq := rq) (m := nI mm) (d := d) (w := w) (n := n) (f := f) (fr := fr) (p := p) (e := e) (dr := dr) (tp := topN W 64) (sm := sumN W 64) (gp := gp) (gr := gr) (L := (alS W (topN W 64) (sumN W 64)).1) (A := (alS W (topN W 64) (sumN W 64)).2) hp he hn hdr (top_pos h0) (topN_le W 64) (sum_lt hWb) (hal (by omega)).1 (fun x hx => (alS_ok x hx).1) (hal (by omega)).2 (fun x hx => Nat.lt_of_lt_of_le (alS_ok x hx).2 (topN_le W 64))) k_code_X6_pickByAlias [0, 2, 3, 4, 5] 0 rfl rfl rfl rfl dX6_pick_17 (Nat.le_of_ble_eq_true rfl) ⟨rfl, rfl, by decide, by decide⟩ ⟨Nat.zero_le _, Nat.zero_le _⟩ rfl rfl (fun _ => rfl) (fun _ => rfl) ?_
    intro u17 c17
    obtain ⟨r1, p1, d1⟩ := u17
    try dsimp only at c17
    show V (gG D cI cJ cT) X (rmD 3) cX6_pick 2 RX6 [(tb, .inr (6, [.ref wq, .ref sq, .ref pq, .ref rq, .int (nI mm), .int (nI ((topN W 64))), .long (lN ((sumN W 64)))])), (wq, .inl (cI, 64, .inl gw)), (pq, .inl (cI, 64, .inl gp)), (rq, .inl (cJ, 64, .inr (.inl gr))), (d, .inr (0, [.ref w, .int (nI fr), .int (nI p1), .int (nI e), .int (dI d1)])), (w, .inl (cI, n, .inl f))] 0 0 [(0, .ref tb), (1, .ref d)] 20 [.int (nI r1)]
    exact v_iret hE dX6_pick_20 (gr, r1, p1, d1) ⟨by rw [sTab, if_neg b4]; exact c17.1, c17.2, fun _ => rfl⟩ rfl rfl
  · have b4 : mm = 0 := ((show nI mm = 0 ↔ mm = 0 from nI_eq (b := 0) (by omega) (by decide))).mp b4
    refine v_aload_n 0 dX6_pick_7 rfl rfl ?_
    refine v_aload_n 1 dX6_pick_8 rfl rfl ?_
    refine v_callV (as := [.ref d]) (rest := []) (ws' := fun u => [(tb, .inr (6, [.ref wq, .ref sq, .ref pq, .ref rq, .int (nI mm), .int (nI ((topN W 64))), .long (lN ((sumN W 64)))])), (wq, .inl (cI, 64, .inl gw)), (pq, .inl (cI, 64, .inl gp)), (rq, .inl (cJ, 64, .inr (.inl u.1))), (d, .inr (0, [.ref w, .int (nI fr), .int (nI u.2.2.1), .int (nI e), .int (dI u.2.2.2)])), (w, .inl (cI, n, .inl f))]) m_Table_51 (kX6_pickByTree X.l (tb := tb) (wq := wq) (sq := sq) (pq := pq) (rq := rq) (m := nI mm) (d := d) (w := w) (n := n) (f := f) (fr := fr) (p := p) (e := e) (dr := dr) (tp := topN W 64) (sm := sumN W 64) (gw := gw) (gr := gr) (W := W) hp he hn hdr (top_pos h0) (topN_le W 64) h0 (sum_lt hWb) hW hWb rfl rfl) k_code_X6_pickByTree [0, 1, 3, 4, 5] 0 rfl rfl rfl rfl dX6_pick_9 (Nat.le_of_ble_eq_true rfl) ⟨rfl, rfl, by decide, by decide⟩ ⟨Nat.zero_le _, Nat.zero_le _⟩ rfl rfl (fun _ => rfl) (fun _ => rfl) ?_
    intro u9 c9
    obtain ⟨g1, r1, p1, d1⟩ := u9
    try dsimp only at c9
    show V (gG D cI cJ cT) X (rmD 3) cX6_pick 2 RX6 [(tb, .inr (6, [.ref wq, .ref sq, .ref pq, .ref rq, .int (nI mm), .int (nI ((topN W 64))), .long (lN ((sumN W 64)))])), (wq, .inl (cI, 64, .inl gw)), (pq, .inl (cI, 64, .inl gp)), (rq, .inl (cJ, 64, .inr (.inl g1))), (d, .inr (0, [.ref w, .int (nI fr), .int (nI p1), .int (nI e), .int (dI d1)])), (w, .inl (cI, n, .inl f))] 0 0 [(0, .ref tb), (1, .ref d)] 12 [.int (nI r1)]
    refine v_goto (tgt := 20) dX6_pick_12 (by decide) ?_
    exact v_iret hE dX6_pick_20 (g1, r1, p1, d1) ⟨by rw [sTab, if_pos b4]; exact c9.1, c9.2, fun h => by omega⟩ rfl rfl
