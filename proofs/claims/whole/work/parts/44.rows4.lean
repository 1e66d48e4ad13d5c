theorem bcase (d : Bool) : d = false ∨ d = true := by cases d <;> simp
theorem ht_le (F : Nat → Nat) : ∀ a, ht F a ≤ (ul F a).length := by
  intro a
  induction a with
  | zero => exact Nat.le_refl _
  | succ a ih =>
    by_cases h : F a = 1
    · simp only [ht, ul, h, if_true, List.length_append, List.length_singleton]; omega
    · simp only [ht, ul, h, if_false]; omega
theorem ul_lt {F : Nat → Nat} {n a : Nat} (hV : Vp F (2 * n)) (ha : a < 2 * n) (hF : F a = 1) : (ul F a).length < n := by
  have h1 := ul_len hV.1 (2 * n) (Nat.le_refl _)
  rw [hV.2] at h1
  have h2 := (ul_mono (F := F) (2 * n - (a + 1)) (a + 1)).1
  rw [show a + 1 + (2 * n - (a + 1)) = 2 * n by omega] at h2
  have h3 : (ul F (a + 1)).length = (ul F a).length + 1 := by simp [ul, hF]
  omega
theorem ul_le {F : Nat → Nat} {n a : Nat} (hV : Vp F (2 * n)) (ha : a ≤ 2 * n) : (ul F a).length ≤ n := by
  have h1 := ul_len hV.1 (2 * n) (Nat.le_refl _)
  rw [hV.2] at h1
  have h2 := (ul_mono (F := F) (2 * n - a) a).1
  rw [show a + (2 * n - a) = 2 * n by omega] at h2
  omega
theorem sPatL_le1 {b : Nat → Nat} {e N : Nat} : ∀ (r a h p : Nat) (F : Nat → Nat) (q : (Nat → Nat) × Nat), a + r = N → (∀ x, x < a → F x ≤ 1) → sPatL b e r a h F p = some q → ∀ x, x < N → q.1 x ≤ 1 := by
  intro r
  induction r with
  | zero => intro a h p F q ha hF hs x hx; cases hs; exact hF x (by omega)
  | succ r ih =>
    intro a h p F q ha hF hs
    simp only [sPatL] at hs
    split at hs
    · cases hs
    · rename_i q0 hq0
      refine ih (a + 1) _ _ _ _ (by omega) (fun x hx => ?_) hs
      unfold fU
      split
      · exact sCoin_le1 hq0
      · exact hF x (by omega)
theorem sPat_le1 {b : Nat → Nat} {e n p : Nat} {q : (Nat → Nat) × Nat} (h : sPat b e n p = some q) : ∀ x, x < 2 * n → q.1 x ≤ 1 :=
  sPatL_le1 (2 * n) 0 0 p (fun _ => 0) q (by omega) (fun x hx => absurd hx (Nat.not_lt_zero x)) h
set_option maxRecDepth 100000 in
set_option maxHeartbeats 4000000 in
theorem kX4_tree_loop {D : va_G} {cI cJ cT : ClassId} {X : vX} {o d w n : Nat} {f : Nat → Int32} {fr e : Nat} {st us pe it : Nat} {n0 sz p : Nat} {dr : Bool} {gs : Nat → Int32} {F : Nat → Nat} (hn0 : n0 ≤ 128) (hd : dr = false) (hV : Vp F (2 * n0)) (hF1 : ∀ x, x < 2 * n0 → F x ≤ 1) (hgs : ∀ x, x < 2 * n0 → gs x = nI (F x)) {W0 : va_W} {post : (Nat → Int32) × (Nat → Int32) × (Nat → Int32) × (Nat → Int32) × Nat × Bool → Prop} (hq : ∀ gu gp gi, (∀ j, j < n0 → gi j = nI (treeF F (2 * n0) j)) → post (gs, gu, gp, gi, p, dr)) (hE : vE (gG D cI cJ cT) X (some .int) W0 post (fun u => some (.int (nI n0))) (fun u => [(o, .inr (4, [.ref d, .ref st, .ref us, .ref pe, .ref it, .int (nI n0)])), (d, .inr (0, [.ref w, .int (nI fr), .int (nI u.2.2.2.2.1), .int (nI e), .int (dI u.2.2.2.2.2)])), (w, .inl (cI, n, .inl f)), (st, .inl (cI, 256, .inl u.1)), (us, .inl (cI, 128, .inl u.2.1)), (pe, .inl (cI, 128, .inl u.2.2.1)), (it, .inl (cI, 256, .inl u.2.2.2.1))])) :
    ∀ (k : Nat) (a : Nat) (c : Nat) (h : Nat) (gu : Nat → Int32) (gp : Nat → Int32) (gi : Nat → Int32), 2 * n0 - a < k → a ≤ 2 * n0 → c = (ul F a).length → h = ht F a → TI F a gu gp gi → V (gG D cI cJ cT) X (rmD 3) cX4_tree 6 RX4 [(o, .inr (4, [.ref d, .ref st, .ref us, .ref pe, .ref it, .int (nI sz)])), (d, .inr (0, [.ref w, .int (nI fr), .int (nI p), .int (nI e), .int (dI dr)])), (w, .inl (cI, n, .inl f)), (st, .inl (cI, 256, .inl gs)), (us, .inl (cI, 128, .inl gu)), (pe, .inl (cI, 128, .inl gp)), (it, .inl (cI, 256, .inl gi))] 0 0 [(0, .ref o), (1, .int (nI n0)), (2, .int (nI c)), (3, .int (nI h)), (4, .int (nI a))] 12 [] := by
  intro k
  induction k with
  | zero => intro a c h gu gp gi hk ha hc hh hTI; omega
  | succ k ih =>
    intro a c h gu gp gi hk ha hc hh hTI
    refine v_iload 4 dX4_tree_12 rfl ?_
    refine v_iconst (v := nI 2) dX4_tree_14 (by decide) ?_
    refine v_iload_n 1 dX4_tree_15 rfl rfl ?_
    refine v_imul dX4_tree_16 ?_
    refine v_topi (y := nI (2 * n0)) (pk_mul 2 n0) ?_
    refine v_icmp_ge (tgt := 112) dX4_tree_17 (by decide) (fun b17 => ?_) (fun b17 => ?_)
    · have b17 : 2 * n0 ≤ a := (nI_leI (by omega) (by omega)).mp b17
      refine v_aload_n 0 dX4_tree_112 rfl rfl ?_
      refine v_iload_n 1 dX4_tree_113 rfl rfl ?_
      refine v_put (ws' := [(o, .inr (4, [.ref d, .ref st, .ref us, .ref pe, .ref it, .int (nI n0)])), (d, .inr (0, [.ref w, .int (nI fr), .int (nI p), .int (nI e), .int (dI dr)])), (w, .inl (cI, n, .inl f)), (st, .inl (cI, 256, .inl gs)), (us, .inl (cI, 128, .inl gu)), (pe, .inl (cI, 128, .inl gp)), (it, .inl (cI, 256, .inl gi))]) fw_Rows_24 0 rfl (rfl) (rfl) (Nat.le_of_ble_eq_true rfl) dX4_tree_114 rfl ?_
      refine v_aload_n 0 dX4_tree_117 rfl rfl ?_
      refine v_get f_Rows_24 0 rfl rfl dX4_tree_118 ?_
      exact v_iret hE dX4_tree_121 (gs, gu, gp, gi, p, dr) (hq gu gp gi (TI_end hV (by rw [show 2 * n0 = a by omega]; exact hTI))) rfl rfl
    · have b17 : ¬ (2 * n0 ≤ a) := fun q => b17 ((nI_leI (by omega) (by omega)).mpr q)
      refine v_aload_n 0 dX4_tree_20 rfl rfl ?_
      refine v_get f_Rows_28 0 rfl rfl dX4_tree_21 ?_
      refine v_get f_Rows_34 1 rfl rfl dX4_tree_24 ?_
      refine v_if_ne (tgt := 112) dX4_tree_27 (by decide) (fun b27 => absurd b27 (fun q => q ((dI_0 dr).mpr hd))) (fun b27 => ?_)
      have hFa := hF1 a (by omega)
      have hcl : c ≤ n0 := by rw [hc]; exact ul_le hV (by omega)
      have hhc : h ≤ c := by rw [hc, hh]; exact ht_le F a
      refine v_aload_n 0 dX4_tree_30 rfl rfl ?_
      refine v_get f_Rows_9 0 rfl rfl dX4_tree_31 ?_
      refine v_iload 4 dX4_tree_34 rfl ?_
      refine v_iald 0 3 rfl rfl (by omega) (by omega) dX4_tree_36 ?_
      refine v_topi (y := nI (F a)) (hgs a (by omega)) ?_
      refine v_iconst (v := nI 1) dX4_tree_37 (by decide) ?_
      refine v_icmp_ne (tgt := 70) dX4_tree_38 (by decide) (fun b38 => ?_) (fun b38 => ?_)
      · have b38 : ¬ (F a = 1) := fun q => b38 ((nI_eq (by omega) (by decide)).mpr q)
        have hh0 : 0 < h := by rw [hh]; exact hV.1 a (by omega) b38
        obtain ⟨j, hj1, hj2, -, -⟩ := hTI.2.1 (ht F a - 1) (by omega)
        have hjU := (ul_mem a j hj1).2
        refine v_iload_n 3 dX4_tree_70 rfl rfl ?_
        refine v_if_le (tgt := 106) dX4_tree_71 (by decide) (fun b71 => absurd b71 (fun q => absurd ((show nI h ≤ 0 ↔ h ≤ 0 from nI_leI (b := 0) (by omega) (by decide)).mp q) (by omega))) (fun b71 => ?_)
        refine v_iinc (lv' := [(3, .int (nI (h - 1))), (0, .ref o), (1, .int (nI n0)), (2, .int (nI c)), (4, .int (nI a))]) (v := nI (h - 1)) 3 dX4_tree_74 rfl (sb_m1 hh0) (by decide) rfl ?_
        refine v_aload_n 1 dX4_tree_77 rfl rfl ?_
        refine v_get f_Rows_18 0 rfl rfl dX4_tree_78 ?_
        refine v_iload_n 0 dX4_tree_81 rfl rfl ?_
        refine v_iald 0 5 rfl rfl (by omega) (by omega) dX4_tree_82 ?_
        refine v_topi (y := nI j) (by rw [hh]; exact hj2) ?_
        refine v_istore (lv' := [(5, .int (nI j)), (3, .int (nI (h - 1))), (0, .ref o), (1, .int (nI n0)), (2, .int (nI c)), (4, .int (nI a))]) dX4_tree_83 (by decide) rfl ?_
        refine v_aload_n 2 dX4_tree_85 rfl rfl ?_
        refine v_get f_Rows_21 0 rfl rfl dX4_tree_86 ?_
        refine v_iload 0 dX4_tree_89 rfl ?_
        refine v_iload 5 dX4_tree_91 rfl ?_
        refine v_aload_n 2 dX4_tree_93 rfl rfl ?_
        refine v_get f_Rows_15 0 rfl rfl dX4_tree_94 ?_
        refine v_iload 0 dX4_tree_97 rfl ?_
        refine v_iald 0 4 rfl rfl (by omega) (by omega) dX4_tree_99 ?_
        refine v_topi (y := nI ((ul F a).getD j 0)) (hTI.1 j hj1) ?_
        refine v_isub dX4_tree_100 ?_
        refine v_topi (y := nI (a - ((ul F a).getD j 0))) (pk_sub (by omega)) ?_
        refine v_iconst (v := nI 1) dX4_tree_101 (by decide) ?_
        refine v_isub dX4_tree_102 ?_
        refine v_topi (y := nI (a - ((ul F a).getD j 0) - 1)) (pk_sub (by omega)) ?_
        refine v_iconst (v := nI 2) dX4_tree_103 (by decide) ?_
        refine v_idiv dX4_tree_104 (by decide) ?_
        refine v_topi (y := nI ((a - ((ul F a).getD j 0) - 1) / 2)) (pk_div (by omega) (by decide) (by decide)) ?_
        refine v_iast (ws' := [(o, .inr (4, [.ref d, .ref st, .ref us, .ref pe, .ref it, .int (nI sz)])), (d, .inr (0, [.ref w, .int (nI fr), .int (nI p), .int (nI e), .int (dI dr)])), (w, .inl (cI, n, .inl f)), (st, .inl (cI, 256, .inl gs)), (us, .inl (cI, 128, .inl gu)), (pe, .inl (cI, 128, .inl gp)), (it, .inl (cI, 256, .inl (upd gi j (nI ((a - ((ul F a).getD j 0) - 1) / 2)))))]) 0 6 rfl rfl (by omega) (by omega) dX4_tree_105 rfl ?_
        refine v_iinc (lv' := [(4, .int (nI (a + 1))), (5, .int (nI j)), (3, .int (nI (h - 1))), (0, .ref o), (1, .int (nI n0)), (2, .int (nI c))]) (v := nI (a + 1)) 5 dX4_tree_106 rfl (nI_1 a) (by decide) rfl ?_
        refine v_goto (tgt := 12) dX4_tree_109 (by decide) ?_
        refine v_lv [3, 4, 5, 2, 0] rfl ?_
        exact ih (a + 1) c (h - 1) gu gp _ (by omega) (by omega) (by rw [hc]; simp [ul, b38]) (by rw [hh]; simp [ht, b38]) (TI_down (by omega) hTI b38 (by omega) hj1 hj2)
      · have b38 : F a = 1 := (nI_eq (by omega) (by decide)).mp b38
        have hcn : c < n0 := by rw [hc]; exact ul_lt hV (by omega) b38
        refine v_iload_n 2 dX4_tree_41 rfl rfl ?_
        refine v_iload_n 1 dX4_tree_42 rfl rfl ?_
        refine v_icmp_ge (tgt := 70) dX4_tree_43 (by decide) (fun b43 => absurd b43 (fun q => absurd ((nI_leI (by omega) (by omega)).mp q) (by omega))) (fun b43 => ?_)
        refine v_aload_n 0 dX4_tree_46 rfl rfl ?_
        refine v_get f_Rows_15 0 rfl rfl dX4_tree_47 ?_
        refine v_iload_n 2 dX4_tree_50 rfl rfl ?_
        refine v_iload 4 dX4_tree_51 rfl ?_
        refine v_iast (ws' := [(o, .inr (4, [.ref d, .ref st, .ref us, .ref pe, .ref it, .int (nI sz)])), (d, .inr (0, [.ref w, .int (nI fr), .int (nI p), .int (nI e), .int (dI dr)])), (w, .inl (cI, n, .inl f)), (st, .inl (cI, 256, .inl gs)), (us, .inl (cI, 128, .inl (upd gu c (nI a)))), (pe, .inl (cI, 128, .inl gp)), (it, .inl (cI, 256, .inl gi))]) 0 4 rfl rfl (by omega) (by omega) dX4_tree_53 rfl ?_
        refine v_aload_n 0 dX4_tree_54 rfl rfl ?_
        refine v_get f_Rows_18 0 rfl rfl dX4_tree_55 ?_
        refine v_iload_n 3 dX4_tree_58 rfl rfl ?_
        refine v_iload_n 2 dX4_tree_59 rfl rfl ?_
        refine v_iast (ws' := [(o, .inr (4, [.ref d, .ref st, .ref us, .ref pe, .ref it, .int (nI sz)])), (d, .inr (0, [.ref w, .int (nI fr), .int (nI p), .int (nI e), .int (dI dr)])), (w, .inl (cI, n, .inl f)), (st, .inl (cI, 256, .inl gs)), (us, .inl (cI, 128, .inl (upd gu c (nI a)))), (pe, .inl (cI, 128, .inl (upd gp h (nI c)))), (it, .inl (cI, 256, .inl gi))]) 0 5 rfl rfl (by omega) (by omega) dX4_tree_60 rfl ?_
        refine v_iinc (lv' := [(3, .int (nI (h + 1))), (0, .ref o), (1, .int (nI n0)), (2, .int (nI c)), (4, .int (nI a))]) (v := nI (h + 1)) 3 dX4_tree_61 rfl (nI_1 h) (by decide) rfl ?_
        refine v_iinc (lv' := [(2, .int (nI (c + 1))), (3, .int (nI (h + 1))), (0, .ref o), (1, .int (nI n0)), (4, .int (nI a))]) (v := nI (c + 1)) 3 dX4_tree_64 rfl (nI_1 c) (by decide) rfl ?_
        refine v_goto (tgt := 106) dX4_tree_67 (by decide) ?_
        refine v_iinc (lv' := [(4, .int (nI (a + 1))), (2, .int (nI (c + 1))), (3, .int (nI (h + 1))), (0, .ref o), (1, .int (nI n0))]) (v := nI (a + 1)) 4 dX4_tree_106 rfl (nI_1 a) (by decide) rfl ?_
        refine v_goto (tgt := 12) dX4_tree_109 (by decide) ?_
        refine v_lv [3, 4, 1, 2, 0] rfl ?_
        exact ih (a + 1) (c + 1) (h + 1) _ _ gi (by omega) (by omega) (by rw [hc]; simp [ul, b38]) (by rw [hh]; simp [ht, b38]) (by rw [hc, hh]; exact TI_up hTI b38)
theorem tre_map2 {b : Nat → Nat} {e n0 p p1 : Nat} {dr : Bool} {F : Nat → Nat} {m : (Nat → Nat) → Prop} {gi : Nat → Int32} {d1 : Bool} (h : Rg (sPat b e n0 p) e p dr m p1 d1) (hF : sPat b e n0 p = some (F, p1)) (hj : ∀ j, j < n0 → gi j = nI (treeF F (2 * n0) j)) : Rg (sTre b e n0 p) e p dr (fun G => ∀ x, x < n0 → gi x = nI (G x)) p1 d1 :=
  Rg_map h (fun _ _ _ _ _ => ⟨_, by rw [sTre, hF], hj⟩) (fun _ ho => by rw [sTre, ho])
theorem tre_map {b : Nat → Nat} {e n0 p p1 : Nat} {dr d1 : Bool} {m : (Nat → Nat) → Prop} {gi : Nat → Int32} (h : Rg (sPat b e n0 p) e p dr m p1 d1) (hd : d1 = false → False) : Rg (sTre b e n0 p) e p dr (fun G => ∀ x, x < n0 → gi x = nI (G x)) p1 d1 :=
  Rg_map h (fun _ h _ _ _ => (hd h).elim) (fun _ ho => by rw [sTre, ho])
set_option maxRecDepth 100000 in
set_option maxHeartbeats 4000000 in
theorem kX4_tree {D : va_G} {cI cJ cT : ClassId} (l : Launch) {o d w n : Nat} {f : Nat → Int32} {fr p e : Nat} {dr : Bool} {st us pe it : Nat} {n0 sz : Nat} {gs gu gp gi : Nat → Int32} (hp : p ≤ e) (he : e ≤ 32 * n) (hn : n ≤ 512) (hdr : dr = true → p = e) (hn0 : n0 ≤ 128) : Fn (S := (Nat → Int32) × (Nat → Int32) × (Nat → Int32) × (Nat → Int32) × Nat × Bool) (gG D cI cJ cT) l yX4_tree (.code yX4_tree cX4_tree 6 (some .int)) (rmD 3) [.ref o, .int (nI n0)] [(o, .inr (4, [.ref d, .ref st, .ref us, .ref pe, .ref it, .int (nI sz)])), (d, .inr (0, [.ref w, .int (nI fr), .int (nI p), .int (nI e), .int (dI dr)])), (w, .inl (cI, n, .inl f)), (st, .inl (cI, 256, .inl gs)), (us, .inl (cI, 128, .inl gu)), (pe, .inl (cI, 128, .inl gp)), (it, .inl (cI, 256, .inl gi))] (fun u => Rg (sTre (bitW f) e n0 p) e p dr (fun G => ∀ x, x < n0 → u.2.2.2.1 x = nI (G x)) u.2.2.2.2.1 u.2.2.2.2.2) (fun u => some (.int (nI n0))) (fun u => [(o, .inr (4, [.ref d, .ref st, .ref us, .ref pe, .ref it, .int (nI n0)])), (d, .inr (0, [.ref w, .int (nI fr), .int (nI u.2.2.2.2.1), .int (nI e), .int (dI u.2.2.2.2.2)])), (w, .inl (cI, n, .inl f)), (st, .inl (cI, 256, .inl u.1)), (us, .inl (cI, 128, .inl u.2.1)), (pe, .inl (cI, 128, .inl u.2.2.1)), (it, .inl (cI, 256, .inl u.2.2.2.1))]) := by
  refine Fn.intro (by decide) (Nat.le_of_ble_eq_true rfl) ?_
  intro X hX hE hin
  subst hX
  show V (gG D cI cJ cT) X _ cX4_tree 6 RX4 _ 0 0 [(0, .ref o), (1, .int (nI n0))] 0 []
  refine v_aload_n 0 dX4_tree_0 rfl rfl ?_
  refine v_iload_n 1 dX4_tree_1 rfl rfl ?_
  refine v_callV (as := [.int (nI n0)]) (rest := []) (ws' := fun u => [(o, .inr (4, [.ref d, .ref st, .ref us, .ref pe, .ref it, .int (nI sz)])), (d, .inr (0, [.ref w, .int (nI fr), .int (nI u.2.1), .int (nI e), .int (dI u.2.2)])), (w, .inl (cI, n, .inl f)), (st, .inl (cI, 256, .inl u.1)), (us, .inl (cI, 128, .inl gu)), (pe, .inl (cI, 128, .inl gp)), (it, .inl (cI, 256, .inl gi))]) m_Rows_52 (kX4_walk X.l (o := o) (d := d) (w := w) (n := n) (f := f) (fr := fr) (p := p) (e := e) (dr := dr) (st := st) (us := us) (pe := pe) (it := it) (n0 := n0) (sz := sz) (gs := gs) hp he hn hdr hn0) k_code_X4_walk [0, 1, 2, 3] 0 rfl rfl rfl rfl dX4_tree_2 (Nat.le_of_ble_eq_true rfl) ⟨rfl, rfl, by decide, by decide⟩ ⟨Nat.zero_le _, Nat.zero_le _⟩ rfl rfl (fun _ => rfl) (fun _ => rfl) ?_
  intro u2 c2
  obtain ⟨g1, p1, d1⟩ := u2
  try dsimp only at c2
  show V (gG D cI cJ cT) X (rmD 3) cX4_tree 6 RX4 [(o, .inr (4, [.ref d, .ref st, .ref us, .ref pe, .ref it, .int (nI sz)])), (d, .inr (0, [.ref w, .int (nI fr), .int (nI p1), .int (nI e), .int (dI d1)])), (w, .inl (cI, n, .inl f)), (st, .inl (cI, 256, .inl g1)), (us, .inl (cI, 128, .inl gu)), (pe, .inl (cI, 128, .inl gp)), (it, .inl (cI, 256, .inl gi))] 0 0 [(0, .ref o), (1, .int (nI n0))] 5 []
  refine v_iconst (v := nI 0) dX4_tree_5 (by decide) ?_
  refine v_istore_n (lv' := [(2, .int (nI 0)), (0, .ref o), (1, .int (nI n0))]) dX4_tree_6 rfl (by decide) rfl ?_
  refine v_iconst (v := nI 0) dX4_tree_7 (by decide) ?_
  refine v_istore_n (lv' := [(3, .int (nI 0)), (2, .int (nI 0)), (0, .ref o), (1, .int (nI n0))]) dX4_tree_8 rfl (by decide) rfl ?_
  refine v_iconst (v := nI 0) dX4_tree_9 (by decide) ?_
  refine v_istore (lv' := [(4, .int (nI 0)), (3, .int (nI 0)), (2, .int (nI 0)), (0, .ref o), (1, .int (nI n0))]) dX4_tree_10 (by decide) rfl ?_
  rcases bcase d1 with hd1 | hd1
  · obtain ⟨-, F, hF, hm⟩ := Rg_f c2 hd1
    refine v_lv [3, 4, 2, 1, 0] rfl ?_
    exact kX4_tree_loop hn0 hd1 (sPat_ok hF) (sPat_le1 hF) hm (fun gu gp gi hj => tre_map2 c2 hF hj) hE (2 * n0 + 1) 0 0 0 gu gp gi (by omega) (by omega) rfl rfl TI_0
  · refine v_iload 0 dX4_tree_12 rfl ?_
    refine v_iconst (v := nI 2) dX4_tree_14 (by decide) ?_
    refine v_iload_n 4 dX4_tree_15 rfl rfl ?_
    refine v_imul dX4_tree_16 ?_
    refine v_topi (y := nI (2 * n0)) (pk_mul 2 n0) ?_
    refine v_icmp_ge (tgt := 112) dX4_tree_17 (by decide) (fun b17 => ?_) (fun b17 => ?_)
    · refine v_aload_n 3 dX4_tree_112 rfl rfl ?_
      refine v_iload_n 4 dX4_tree_113 rfl rfl ?_
      refine v_put (ws' := [(o, .inr (4, [.ref d, .ref st, .ref us, .ref pe, .ref it, .int (nI n0)])), (d, .inr (0, [.ref w, .int (nI fr), .int (nI p1), .int (nI e), .int (dI d1)])), (w, .inl (cI, n, .inl f)), (st, .inl (cI, 256, .inl g1)), (us, .inl (cI, 128, .inl gu)), (pe, .inl (cI, 128, .inl gp)), (it, .inl (cI, 256, .inl gi))]) fw_Rows_24 0 rfl (rfl) (rfl) (Nat.le_of_ble_eq_true rfl) dX4_tree_114 rfl ?_
      refine v_aload_n 3 dX4_tree_117 rfl rfl ?_
      refine v_get f_Rows_24 0 rfl rfl dX4_tree_118 ?_
      exact v_iret hE dX4_tree_121 (g1, gu, gp, gi, p1, d1) (tre_map c2 (fun h => absurd (hd1.symm.trans h) (by decide))) rfl rfl
    · refine v_aload_n 3 dX4_tree_20 rfl rfl ?_
      refine v_get f_Rows_28 0 rfl rfl dX4_tree_21 ?_
      refine v_get f_Rows_34 1 rfl rfl dX4_tree_24 ?_
      refine v_if_ne (tgt := 112) dX4_tree_27 (by decide) (fun b27 => ?_) (fun b27 => absurd b27 (fun q => absurd ((dI_0 d1).mp q) (by rw [hd1]; decide)))
      refine v_aload_n 3 dX4_tree_112 rfl rfl ?_
      refine v_iload_n 4 dX4_tree_113 rfl rfl ?_
      refine v_put (ws' := [(o, .inr (4, [.ref d, .ref st, .ref us, .ref pe, .ref it, .int (nI n0)])), (d, .inr (0, [.ref w, .int (nI fr), .int (nI p1), .int (nI e), .int (dI d1)])), (w, .inl (cI, n, .inl f)), (st, .inl (cI, 256, .inl g1)), (us, .inl (cI, 128, .inl gu)), (pe, .inl (cI, 128, .inl gp)), (it, .inl (cI, 256, .inl gi))]) fw_Rows_24 0 rfl (rfl) (rfl) (Nat.le_of_ble_eq_true rfl) dX4_tree_114 rfl ?_
      refine v_aload_n 3 dX4_tree_117 rfl rfl ?_
      refine v_get f_Rows_24 0 rfl rfl dX4_tree_118 ?_
      exact v_iret hE dX4_tree_121 (g1, gu, gp, gi, p1, d1) (tre_map c2 (fun h => absurd (hd1.symm.trans h) (by decide))) rfl rfl
