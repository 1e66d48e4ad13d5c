set_option maxRecDepth 100000 in
set_option maxHeartbeats 4000000 in
theorem kX1_binomial_loop {D : va_G} {cI cJ cT : ClassId} {X : vX} {q d w n : Nat} {f : Nat → Int32} {fr e : Nat} {nn num den : Nat} (he : e ≤ 32 * n) (hn : n ≤ 512) (hnn : nn ≤ 1000) (hnum : num ≤ den) (hden : den < 2 ^ 31) {W0 : va_W} {post : Nat × Nat × Bool → Prop} (hE : vE (gG D cI cJ cT) X (some .int) W0 post (fun u => some (.int (nI u.1))) (fun u => [(q, .inr (1, [.ref d])), (d, .inr (0, [.ref w, .int (nI fr), .int (nI u.2.1), .int (nI e), .int (dI u.2.2)])), (w, .inl (cI, n, .inl f))])) :
    ∀ (k : Nat) (c : Nat) (i : Nat) (p : Nat) (dr : Bool), i ≤ nn → nn - i < k → c ≤ i → p ≤ e → (dr = true → p = e) → (∀ u, Rl (sBin (bitW f) e num den (nn - i) c p) e p dr u ∧ u.1 ≤ nn → post u) → V (gG D cI cJ cT) X (rmD 2) cX1_binomial 6 RX1 [(q, .inr (1, [.ref d])), (d, .inr (0, [.ref w, .int (nI fr), .int (nI p), .int (nI e), .int (dI dr)])), (w, .inl (cI, n, .inl f))] 0 0 [(0, .ref q), (1, .int (nI nn)), (2, .int (nI num)), (3, .int (nI den)), (4, .int (nI c)), (5, .int (nI i))] 6 [] := by
  intro k
  induction k with
  | zero => intro c i p dr hi hk hc hp hdr hq; omega
  | succ k ih =>
    intro c i p dr hi hk hc hp hdr hq
    refine v_iload 5 dX1_binomial_6 rfl ?_
    refine v_iload_n 1 dX1_binomial_8 rfl rfl ?_
    refine v_icmp_ge (tgt := 44) dX1_binomial_9 (by decide) (fun b9 => ?_) (fun b9 => ?_)
    · have b9 : nn ≤ i := (nI_leI (by omega) (by omega)).mp b9
      refine v_iload 4 dX1_binomial_44 rfl ?_
      exact v_iret hE dX1_binomial_46 (c, p, dr) (hq _ ⟨Rl_here hp hdr (sBin_end b9), by show c ≤ nn; omega⟩) rfl rfl
    · have b9 : ¬ (nn ≤ i) := fun q => b9 ((nI_leI (by omega) (by omega)).mpr q)
      refine v_aload_n 0 dX1_binomial_12 rfl rfl ?_
      refine v_get f_Laws_9 0 rfl rfl dX1_binomial_13 ?_
      refine v_get f_Laws_15 1 rfl rfl dX1_binomial_16 ?_
      refine v_if_ne (tgt := 44) dX1_binomial_19 (by decide) (fun b19 => ?_) (fun b19 => ?_)
      · have b19 : ¬ (dr = false) := fun q => b19 ((dI_0 dr).mpr q)
        refine v_iload 4 dX1_binomial_44 rfl ?_
        exact v_iret hE dX1_binomial_46 (c, p, dr) (hq _ ⟨Rl_over (by simpa using b19) (hdr (by simpa using b19)), by show c ≤ nn; omega⟩) rfl rfl
      · have b19 : dr = false := (dI_0 dr).mp b19
        refine v_iload 4 dX1_binomial_22 rfl ?_
        refine v_aload_n 0 dX1_binomial_24 rfl rfl ?_
        refine v_get f_Laws_9 0 rfl rfl dX1_binomial_25 ?_
        refine v_iload_n 2 dX1_binomial_28 rfl rfl ?_
        refine v_i2l (v := lN num) dX1_binomial_29 (nI_l (by omega)) ?_
        refine v_iload_n 3 dX1_binomial_30 rfl rfl ?_
        refine v_i2l (v := lN den) dX1_binomial_31 (nI_l (by omega)) ?_
        refine v_callV (as := [.long (lN num), .long (lN den)]) (rest := [.int (nI c)]) (ws' := fun u => [(q, .inr (1, [.ref d])), (d, .inr (0, [.ref w, .int (nI fr), .int (nI u.2.1), .int (nI e), .int (dI u.2.2)])), (w, .inl (cI, n, .inl f))]) m_Laws_21 (kX0_coin X.l (d := d) (w := w) (n := n) (f := f) (fr := fr) (p := p) (e := e) (dr := dr) (num := num) (den := den) (by omega) he hn hdr (by omega) (by omega)) k_code_X0_coin [1, 2] 1 rfl rfl rfl rfl dX1_binomial_32 (Nat.le_of_ble_eq_true rfl) ⟨rfl, rfl, by decide, by decide⟩ ⟨Nat.zero_le _, Nat.zero_le _⟩ rfl rfl (fun _ => rfl) (fun _ => rfl) ?_
        intro u32 c32
        obtain ⟨r1, p1, d1⟩ := u32
        try dsimp only at c32
        show V (gG D cI cJ cT) X (rmD 2) cX1_binomial 6 RX1 [(q, .inr (1, [.ref d])), (d, .inr (0, [.ref w, .int (nI fr), .int (nI p1), .int (nI e), .int (dI d1)])), (w, .inl (cI, n, .inl f))] 0 0 [(0, .ref q), (1, .int (nI nn)), (2, .int (nI num)), (3, .int (nI den)), (4, .int (nI c)), (5, .int (nI i))] 35 [.int (nI r1), .int (nI c)]
        have hr1 : r1 ≤ 1 := c32.2.1
        refine v_iadd dX1_binomial_35 ?_
        refine v_topi (y := nI (c + r1)) (nI_add _ _) ?_
        refine v_istore (lv' := [(4, .int (nI (c + r1))), (0, .ref q), (1, .int (nI nn)), (2, .int (nI num)), (3, .int (nI den)), (5, .int (nI i))]) dX1_binomial_36 (by decide) rfl ?_
        refine v_iinc (lv' := [(5, .int (nI (i + 1))), (4, .int (nI (c + r1))), (0, .ref q), (1, .int (nI nn)), (2, .int (nI num)), (3, .int (nI den))]) (v := nI (i + 1)) 5 dX1_binomial_38 rfl (nI_1 i) (by decide) rfl ?_
        refine v_goto (tgt := 6) dX1_binomial_41 (by decide) ?_
        refine v_lv [2, 3, 4, 5, 1, 0] rfl ?_
        exact ih (c + r1) (i + 1) p1 d1 (by omega) (by omega) (by omega) (Rl_p c32.1).2.1 (Rl_p c32.1).2.2 (fun u hu => hq u ⟨sBin_go (by omega) c32.1 hu.1, hu.2⟩)
set_option maxRecDepth 100000 in
set_option maxHeartbeats 4000000 in
theorem kX1_binomial {D : va_G} {cI cJ cT : ClassId} (l : Launch) {q d w n : Nat} {f : Nat → Int32} {fr p e : Nat} {dr : Bool} {nn num den : Nat} (hp : p ≤ e) (he : e ≤ 32 * n) (hn : n ≤ 512) (hdr : dr = true → p = e) (hnn : nn ≤ 1000) (hnum : num ≤ den) (hden : den < 2 ^ 31) : Fn (S := Nat × Nat × Bool) (gG D cI cJ cT) l yX1_binomial (.code yX1_binomial cX1_binomial 6 (some .int)) (rmD 2) [.ref q, .int (nI nn), .int (nI num), .int (nI den)] [(q, .inr (1, [.ref d])), (d, .inr (0, [.ref w, .int (nI fr), .int (nI p), .int (nI e), .int (dI dr)])), (w, .inl (cI, n, .inl f))] (fun u => Rl (sBin (bitW f) e num den nn 0 p) e p dr u ∧ u.1 ≤ nn) (fun u => some (.int (nI u.1))) (fun u => [(q, .inr (1, [.ref d])), (d, .inr (0, [.ref w, .int (nI fr), .int (nI u.2.1), .int (nI e), .int (dI u.2.2)])), (w, .inl (cI, n, .inl f))]) := by
  refine Fn.intro (by decide) (Nat.le_of_ble_eq_true rfl) ?_
  intro X hX hE hin
  subst hX
  show V (gG D cI cJ cT) X _ cX1_binomial 6 RX1 _ 0 0 [(0, .ref q), (1, .int (nI nn)), (2, .int (nI num)), (3, .int (nI den))] 0 []
  refine v_iconst (v := nI 0) dX1_binomial_0 (by decide) ?_
  refine v_istore (lv' := [(4, .int (nI 0)), (0, .ref q), (1, .int (nI nn)), (2, .int (nI num)), (3, .int (nI den))]) dX1_binomial_1 (by decide) rfl ?_
  refine v_iconst (v := nI 0) dX1_binomial_3 (by decide) ?_
  refine v_istore (lv' := [(5, .int (nI 0)), (4, .int (nI 0)), (0, .ref q), (1, .int (nI nn)), (2, .int (nI num)), (3, .int (nI den))]) dX1_binomial_4 (by decide) rfl ?_
  refine v_lv [2, 3, 4, 5, 1, 0] rfl ?_
  exact kX1_binomial_loop he hn hnn hnum hden hE (nn + 1) 0 0 p dr (by omega) (by omega) (by omega) hp hdr (fun u hu => hu)
set_option maxRecDepth 100000 in
set_option maxHeartbeats 4000000 in
theorem kX1_geometric_loop {D : va_G} {cI cJ cT : ClassId} {X : vX} {q d w n : Nat} {f : Nat → Int32} {fr e : Nat} {num den cap : Nat} (he : e ≤ 32 * n) (hn : n ≤ 512) (hcap : cap ≤ 100000) (hnum : num ≤ den) (hden : den < 2 ^ 31) {W0 : va_W} {post : Nat × Nat × Bool → Prop} (hE : vE (gG D cI cJ cT) X (some .int) W0 post (fun u => some (.int (nI u.1))) (fun u => [(q, .inr (1, [.ref d])), (d, .inr (0, [.ref w, .int (nI fr), .int (nI u.2.1), .int (nI e), .int (dI u.2.2)])), (w, .inl (cI, n, .inl f))])) :
    ∀ (k : Nat) (c : Nat) (p : Nat) (dr : Bool), c ≤ cap → cap - c < k → p ≤ e → (dr = true → p = e) → (∀ u, Rl (sGeo (bitW f) e num den (cap - c) c p) e p dr u ∧ u.1 ≤ cap → post u) → V (gG D cI cJ cT) X (rmD 2) cX1_geometric 5 RX1 [(q, .inr (1, [.ref d])), (d, .inr (0, [.ref w, .int (nI fr), .int (nI p), .int (nI e), .int (dI dr)])), (w, .inl (cI, n, .inl f))] 0 0 [(0, .ref q), (1, .int (nI num)), (2, .int (nI den)), (3, .int (nI cap)), (4, .int (nI c))] 9 [] := by
  intro k
  induction k with
  | zero => intro c p dr hi hk hp hdr hq; omega
  | succ k ih =>
    intro c p dr hi hk hp hdr hq
    refine v_iload 4 dX1_geometric_9 rfl ?_
    refine v_iload_n 3 dX1_geometric_11 rfl rfl ?_
    refine v_icmp_ge (tgt := 45) dX1_geometric_12 (by decide) (fun b12 => ?_) (fun b12 => ?_)
    · have b12 : cap ≤ c := (nI_leI (by omega) (by omega)).mp b12
      refine v_iload 4 dX1_geometric_45 rfl ?_
      exact v_iret hE dX1_geometric_47 (c, p, dr) (hq _ ⟨Rl_here hp hdr (sGeo_end b12), by show c ≤ cap; omega⟩) rfl rfl
    · have b12 : ¬ (cap ≤ c) := fun q => b12 ((nI_leI (by omega) (by omega)).mpr q)
      refine v_aload_n 0 dX1_geometric_15 rfl rfl ?_
      refine v_get f_Laws_9 0 rfl rfl dX1_geometric_16 ?_
      refine v_get f_Laws_15 1 rfl rfl dX1_geometric_19 ?_
      refine v_if_ne (tgt := 45) dX1_geometric_22 (by decide) (fun b22 => ?_) (fun b22 => ?_)
      · have b22 : ¬ (dr = false) := fun q => b22 ((dI_0 dr).mpr q)
        refine v_iload 4 dX1_geometric_45 rfl ?_
        exact v_iret hE dX1_geometric_47 (c, p, dr) (hq _ ⟨Rl_over (by simpa using b22) (hdr (by simpa using b22)), by show c ≤ cap; omega⟩) rfl rfl
      · have b22 : dr = false := (dI_0 dr).mp b22
        refine v_aload_n 0 dX1_geometric_25 rfl rfl ?_
        refine v_get f_Laws_9 0 rfl rfl dX1_geometric_26 ?_
        refine v_iload_n 1 dX1_geometric_29 rfl rfl ?_
        refine v_i2l (v := lN num) dX1_geometric_30 (nI_l (by omega)) ?_
        refine v_iload_n 2 dX1_geometric_31 rfl rfl ?_
        refine v_i2l (v := lN den) dX1_geometric_32 (nI_l (by omega)) ?_
        refine v_callV (as := [.long (lN num), .long (lN den)]) (rest := []) (ws' := fun u => [(q, .inr (1, [.ref d])), (d, .inr (0, [.ref w, .int (nI fr), .int (nI u.2.1), .int (nI e), .int (dI u.2.2)])), (w, .inl (cI, n, .inl f))]) m_Laws_21 (kX0_coin X.l (d := d) (w := w) (n := n) (f := f) (fr := fr) (p := p) (e := e) (dr := dr) (num := num) (den := den) (by omega) he hn hdr (by omega) (by omega)) k_code_X0_coin [1, 2] 1 rfl rfl rfl rfl dX1_geometric_33 (Nat.le_of_ble_eq_true rfl) ⟨rfl, rfl, by decide, by decide⟩ ⟨Nat.zero_le _, Nat.zero_le _⟩ rfl rfl (fun _ => rfl) (fun _ => rfl) ?_
        intro u33 c33
        obtain ⟨r1, p1, d1⟩ := u33
        try dsimp only at c33
        show V (gG D cI cJ cT) X (rmD 2) cX1_geometric 5 RX1 [(q, .inr (1, [.ref d])), (d, .inr (0, [.ref w, .int (nI fr), .int (nI p1), .int (nI e), .int (dI d1)])), (w, .inl (cI, n, .inl f))] 0 0 [(0, .ref q), (1, .int (nI num)), (2, .int (nI den)), (3, .int (nI cap)), (4, .int (nI c))] 36 [.int (nI r1)]
        have hr1 : r1 ≤ 1 := c33.2.1
        refine v_if_ne (tgt := 45) dX1_geometric_36 (by decide) (fun b36 => ?_) (fun b36 => ?_)
        · have b36 : ¬ (r1 = 0) := fun q => b36 (((show nI r1 = 0 ↔ r1 = 0 from nI_eq (b := 0) (by omega) (by decide))).mpr q)
          refine v_iload 4 dX1_geometric_45 rfl ?_
          exact v_iret hE dX1_geometric_47 (c, p1, d1) (hq _ ⟨sGeo_out (by omega) c33.1 b36, by show c ≤ cap; omega⟩) rfl rfl
        · have b36 : r1 = 0 := ((show nI r1 = 0 ↔ r1 = 0 from nI_eq (b := 0) (by omega) (by decide))).mp b36
          refine v_iinc (lv' := [(4, .int (nI (c + 1))), (0, .ref q), (1, .int (nI num)), (2, .int (nI den)), (3, .int (nI cap))]) (v := nI (c + 1)) 4 dX1_geometric_39 rfl (nI_1 c) (by decide) rfl ?_
          refine v_goto (tgt := 9) dX1_geometric_42 (by decide) ?_
          refine v_lv [1, 2, 3, 4, 0] rfl ?_
          exact ih (c + 1) p1 d1 (by omega) (by omega) (Rl_p c33.1).2.1 (Rl_p c33.1).2.2 (fun u hu => hq u ⟨sGeo_go (by omega) c33.1 b36 hu.1, hu.2⟩)
set_option maxRecDepth 100000 in
set_option maxHeartbeats 4000000 in
theorem kX1_geometric {D : va_G} {cI cJ cT : ClassId} (l : Launch) {q d w n : Nat} {f : Nat → Int32} {fr p e : Nat} {dr : Bool} {num den cap : Nat} (hp : p ≤ e) (he : e ≤ 32 * n) (hn : n ≤ 512) (hdr : dr = true → p = e) (hcap : cap ≤ 100000) (hnum : num ≤ den) (hden : den < 2 ^ 31) : Fn (S := Nat × Nat × Bool) (gG D cI cJ cT) l yX1_geometric (.code yX1_geometric cX1_geometric 5 (some .int)) (rmD 2) [.ref q, .int (nI num), .int (nI den), .int (nI cap)] [(q, .inr (1, [.ref d])), (d, .inr (0, [.ref w, .int (nI fr), .int (nI p), .int (nI e), .int (dI dr)])), (w, .inl (cI, n, .inl f))] (fun u => Rl (sGeo (bitW f) e num den cap 0 p) e p dr u ∧ u.1 ≤ cap) (fun u => some (.int (nI u.1))) (fun u => [(q, .inr (1, [.ref d])), (d, .inr (0, [.ref w, .int (nI fr), .int (nI u.2.1), .int (nI e), .int (dI u.2.2)])), (w, .inl (cI, n, .inl f))]) := by
  refine Fn.intro (by decide) (Nat.le_of_ble_eq_true rfl) ?_
  intro X hX hE hin
  subst hX
  show V (gG D cI cJ cT) X _ cX1_geometric 5 RX1 _ 0 0 [(0, .ref q), (1, .int (nI num)), (2, .int (nI den)), (3, .int (nI cap))] 0 []
  refine v_iload_n 1 dX1_geometric_0 rfl rfl ?_
  refine v_if_ne (tgt := 6) dX1_geometric_1 (by decide) (fun b1 => ?_) (fun b1 => ?_)
  · have b1 : ¬ (num = 0) := fun q => b1 (((show nI num = 0 ↔ num = 0 from nI_eq (b := 0) (by omega) (by decide))).mpr q)
    refine v_iconst (v := nI 0) dX1_geometric_6 (by decide) ?_
    refine v_istore (lv' := [(4, .int (nI 0)), (0, .ref q), (1, .int (nI num)), (2, .int (nI den)), (3, .int (nI cap))]) dX1_geometric_7 (by decide) rfl ?_
    refine v_lv [1, 2, 3, 4, 0] rfl ?_
    exact kX1_geometric_loop he hn hcap hnum hden hE (cap + 1) 0 p dr (by omega) (by omega) hp hdr (fun u hu => hu)
  · have b1 : num = 0 := ((show nI num = 0 ↔ num = 0 from nI_eq (b := 0) (by omega) (by decide))).mp b1
    refine v_iload_n 3 dX1_geometric_4 rfl rfl ?_
    exact v_iret hE dX1_geometric_5 (cap, p, dr) (⟨Rl_here hp hdr (by rw [b1, sGeo_0, Nat.zero_add]), Nat.le_refl _⟩) rfl rfl
set_option maxRecDepth 100000 in
set_option maxHeartbeats 4000000 in
theorem kX1_hyper_loop {D : va_G} {cI cJ cT : ClassId} {X : vX} {q d w n : Nat} {f : Nat → Int32} {fr e : Nat} {aa bb kk : Nat} (he : e ≤ 32 * n) (hn : n ≤ 512) (hkk : kk ≤ 200000) {W0 : va_W} {post : Nat × Nat × Bool → Prop} (hE : vE (gG D cI cJ cT) X (some .int) W0 post (fun u => some (.int (nI u.1))) (fun u => [(q, .inr (1, [.ref d])), (d, .inr (0, [.ref w, .int (nI fr), .int (nI u.2.1), .int (nI e), .int (dI u.2.2)])), (w, .inl (cI, n, .inl f))])) :
    ∀ (k : Nat) (g : Nat) (h : Nat) (c : Nat) (lf : Nat) (p : Nat) (dr : Bool), g ≤ 100000 → h ≤ 100000 → lf ≤ g + h → c + lf ≤ kk → lf < k → p ≤ e → (dr = true → p = e) → (∀ u, Rl (sHyp (bitW f) e lf g h c p) e p dr u ∧ u.1 ≤ kk → post u) → V (gG D cI cJ cT) X (rmD 2) cX1_hyper 8 RX1 [(q, .inr (1, [.ref d])), (d, .inr (0, [.ref w, .int (nI fr), .int (nI p), .int (nI e), .int (dI dr)])), (w, .inl (cI, n, .inl f))] 0 0 [(0, .ref q), (1, .int (nI aa)), (2, .int (nI bb)), (3, .int (nI kk)), (4, .int (nI g)), (5, .int (nI h)), (6, .int (nI c)), (7, .int (nI lf))] 12 [] := by
  intro k
  induction k with
  | zero => intro g h c lf p dr hg hh hlf hc hk hp hdr hq; omega
  | succ k ih =>
    intro g h c lf p dr hg hh hlf hc hk hp hdr hq
    refine v_iload 7 dX1_hyper_12 rfl ?_
    refine v_if_le (tgt := 91) dX1_hyper_14 (by decide) (fun b14 => ?_) (fun b14 => ?_)
    · have b14 : lf ≤ 0 := ((show nI lf ≤ 0 ↔ lf ≤ 0 from nI_leI (b := 0) (by omega) (by decide))).mp b14
      refine v_iload 6 dX1_hyper_91 rfl ?_
      exact v_iret hE dX1_hyper_93 (c, p, dr) (hq _ ⟨Rl_here hp hdr (by rw [show lf = 0 by omega]; rfl), by show c ≤ kk; omega⟩) rfl rfl
    · have b14 : ¬ (lf ≤ 0) := fun q => b14 (((show nI lf ≤ 0 ↔ lf ≤ 0 from nI_leI (b := 0) (by omega) (by decide))).mpr q)
      refine v_aload_n 0 dX1_hyper_17 rfl rfl ?_
      refine v_get f_Laws_9 0 rfl rfl dX1_hyper_18 ?_
      refine v_get f_Laws_15 1 rfl rfl dX1_hyper_21 ?_
      refine v_if_ne (tgt := 91) dX1_hyper_24 (by decide) (fun b24 => ?_) (fun b24 => ?_)
      · have b24 : ¬ (dr = false) := fun q => b24 ((dI_0 dr).mpr q)
        refine v_iload 6 dX1_hyper_91 rfl ?_
        exact v_iret hE dX1_hyper_93 (c, p, dr) (hq _ ⟨Rl_over (by simpa using b24) (hdr (by simpa using b24)), by show c ≤ kk; omega⟩) rfl rfl
      · have b24 : dr = false := (dI_0 dr).mp b24
        refine v_iload 4 dX1_hyper_27 rfl ?_
        refine v_if_eq (tgt := 37) dX1_hyper_29 (by decide) (fun b29 => ?_) (fun b29 => ?_)
        · have b29 : g = 0 := ((show nI g = 0 ↔ g = 0 from nI_eq (b := 0) (by omega) (by decide))).mp b29
          refine v_iload 4 dX1_hyper_37 rfl ?_
          refine v_if_ne (tgt := 47) dX1_hyper_39 (by decide) (fun b39 => ?_) (fun b39 => ?_)
          · have b39 : ¬ (g = 0) := fun q => b39 (((show nI g = 0 ↔ g = 0 from nI_eq (b := 0) (by omega) (by decide))).mpr q)
            refine v_iload 6 dX1_hyper_47 rfl ?_
            refine v_iload 7 dX1_hyper_49 rfl ?_
            refine v_iadd dX1_hyper_51 ?_
            refine v_topi (y := nI (c + lf)) (nI_add _ _) ?_
            exact v_iret hE dX1_hyper_52 (c + lf, p, dr) (hq _ ⟨Rl_here hp hdr (by first | (rw [b34, sHyp_h0 _ _ _ (by omega)]) | omega), by show c + lf ≤ kk; omega⟩) rfl rfl
          · have b39 : g = 0 := ((show nI g = 0 ↔ g = 0 from nI_eq (b := 0) (by omega) (by decide))).mp b39
            refine v_iload 6 dX1_hyper_42 rfl ?_
            refine v_goto (tgt := 52) dX1_hyper_44 (by decide) ?_
            exact v_iret hE dX1_hyper_52 (c, p, dr) (hq _ ⟨Rl_here hp hdr (by rw [show g = 0 by omega, sHyp_g0]), by show c ≤ kk; omega⟩) rfl rfl
        · have b29 : ¬ (g = 0) := fun q => b29 (((show nI g = 0 ↔ g = 0 from nI_eq (b := 0) (by omega) (by decide))).mpr q)
          refine v_iload 5 dX1_hyper_32 rfl ?_
          refine v_if_ne (tgt := 53) dX1_hyper_34 (by decide) (fun b34 => ?_) (fun b34 => ?_)
          · have b34 : ¬ (h = 0) := fun q => b34 (((show nI h = 0 ↔ h = 0 from nI_eq (b := 0) (by omega) (by decide))).mpr q)
            refine v_aload_n 0 dX1_hyper_53 rfl rfl ?_
            refine v_get f_Laws_9 0 rfl rfl dX1_hyper_54 ?_
            refine v_iload 4 dX1_hyper_57 rfl ?_
            refine v_i2l (v := lN g) dX1_hyper_59 (nI_l (by omega)) ?_
            refine v_iload 4 dX1_hyper_60 rfl ?_
            refine v_iload 5 dX1_hyper_62 rfl ?_
            refine v_iadd dX1_hyper_64 ?_
            refine v_topi (y := nI (g + h)) (nI_add _ _) ?_
            refine v_i2l (v := lN (g + h)) dX1_hyper_65 (nI_l (by omega)) ?_
            refine v_callV (as := [.long (lN g), .long (lN (g + h))]) (rest := []) (ws' := fun u => [(q, .inr (1, [.ref d])), (d, .inr (0, [.ref w, .int (nI fr), .int (nI u.2.1), .int (nI e), .int (dI u.2.2)])), (w, .inl (cI, n, .inl f))]) m_Laws_21 (kX0_coin X.l (d := d) (w := w) (n := n) (f := f) (fr := fr) (p := p) (e := e) (dr := dr) (num := g) (den := (g + h)) (by omega) he hn hdr (by omega) (by omega)) k_code_X0_coin [1, 2] 1 rfl rfl rfl rfl dX1_hyper_66 (Nat.le_of_ble_eq_true rfl) ⟨rfl, rfl, by decide, by decide⟩ ⟨Nat.zero_le _, Nat.zero_le _⟩ rfl rfl (fun _ => rfl) (fun _ => rfl) ?_
            intro u66 c66
            obtain ⟨r1, p1, d1⟩ := u66
            try dsimp only at c66
            show V (gG D cI cJ cT) X (rmD 2) cX1_hyper 8 RX1 [(q, .inr (1, [.ref d])), (d, .inr (0, [.ref w, .int (nI fr), .int (nI p1), .int (nI e), .int (dI d1)])), (w, .inl (cI, n, .inl f))] 0 0 [(0, .ref q), (1, .int (nI aa)), (2, .int (nI bb)), (3, .int (nI kk)), (4, .int (nI g)), (5, .int (nI h)), (6, .int (nI c)), (7, .int (nI lf))] 69 [.int (nI r1)]
            have hr1 : r1 ≤ 1 := c66.2.1
            refine v_iconst (v := nI 1) dX1_hyper_69 (by decide) ?_
            refine v_icmp_ne (tgt := 82) dX1_hyper_70 (by decide) (fun b70 => ?_) (fun b70 => ?_)
            · have b70 : ¬ (r1 = 1) := fun q => b70 ((nI_eq (by omega) (by decide)).mpr q)
              refine v_iinc (lv' := [(5, .int (nI (h - 1))), (0, .ref q), (1, .int (nI aa)), (2, .int (nI bb)), (3, .int (nI kk)), (4, .int (nI g)), (6, .int (nI c)), (7, .int (nI lf))]) (v := nI (h - 1)) 5 dX1_hyper_82 rfl (sb_m1 (by omega)) (by decide) rfl ?_
              refine v_iinc (lv' := [(7, .int (nI (lf - 1))), (5, .int (nI (h - 1))), (0, .ref q), (1, .int (nI aa)), (2, .int (nI bb)), (3, .int (nI kk)), (4, .int (nI g)), (6, .int (nI c))]) (v := nI (lf - 1)) 7 dX1_hyper_85 rfl (sb_m1 (by omega)) (by decide) rfl ?_
              refine v_goto (tgt := 12) dX1_hyper_88 (by decide) ?_
              refine v_lv [2, 3, 4, 5, 6, 1, 7, 0] rfl ?_
              exact ih g (h - 1) c (lf - 1) p1 d1 (by omega) (by omega) (by omega) (by omega) (by omega) (Rl_p c66.1).2.1 (Rl_p c66.1).2.2 (fun u hu => hq u ⟨sHyp_go0 (by omega) c66.1 b70 hu.1, hu.2⟩)
            · have b70 : r1 = 1 := (nI_eq (by omega) (by decide)).mp b70
              refine v_iinc (lv' := [(4, .int (nI (g - 1))), (0, .ref q), (1, .int (nI aa)), (2, .int (nI bb)), (3, .int (nI kk)), (5, .int (nI h)), (6, .int (nI c)), (7, .int (nI lf))]) (v := nI (g - 1)) 4 dX1_hyper_73 rfl (sb_m1 (by omega)) (by decide) rfl ?_
              refine v_iinc (lv' := [(6, .int (nI (c + 1))), (4, .int (nI (g - 1))), (0, .ref q), (1, .int (nI aa)), (2, .int (nI bb)), (3, .int (nI kk)), (5, .int (nI h)), (7, .int (nI lf))]) (v := nI (c + 1)) 6 dX1_hyper_76 rfl (nI_1 c) (by decide) rfl ?_
              refine v_goto (tgt := 85) dX1_hyper_79 (by decide) ?_
              refine v_iinc (lv' := [(7, .int (nI (lf - 1))), (6, .int (nI (c + 1))), (4, .int (nI (g - 1))), (0, .ref q), (1, .int (nI aa)), (2, .int (nI bb)), (3, .int (nI kk)), (5, .int (nI h))]) (v := nI (lf - 1)) 7 dX1_hyper_85 rfl (sb_m1 (by omega)) (by decide) rfl ?_
              refine v_goto (tgt := 12) dX1_hyper_88 (by decide) ?_
              refine v_lv [3, 4, 5, 6, 2, 7, 1, 0] rfl ?_
              exact ih (g - 1) h (c + 1) (lf - 1) p1 d1 (by omega) (by omega) (by omega) (by omega) (by omega) (Rl_p c66.1).2.1 (Rl_p c66.1).2.2 (fun u hu => hq u ⟨sHyp_go1 (by omega) c66.1 b70 hu.1, hu.2⟩)
          · have b34 : h = 0 := ((show nI h = 0 ↔ h = 0 from nI_eq (b := 0) (by omega) (by decide))).mp b34
            refine v_iload 4 dX1_hyper_37 rfl ?_
            refine v_if_ne (tgt := 47) dX1_hyper_39 (by decide) (fun b39 => ?_) (fun b39 => ?_)
            · have b39 : ¬ (g = 0) := fun q => b39 (((show nI g = 0 ↔ g = 0 from nI_eq (b := 0) (by omega) (by decide))).mpr q)
              refine v_iload 6 dX1_hyper_47 rfl ?_
              refine v_iload 7 dX1_hyper_49 rfl ?_
              refine v_iadd dX1_hyper_51 ?_
              refine v_topi (y := nI (c + lf)) (nI_add _ _) ?_
              exact v_iret hE dX1_hyper_52 (c + lf, p, dr) (hq _ ⟨Rl_here hp hdr (by first | (rw [b34, sHyp_h0 _ _ _ (by omega)]) | omega), by show c + lf ≤ kk; omega⟩) rfl rfl
            · have b39 : g = 0 := ((show nI g = 0 ↔ g = 0 from nI_eq (b := 0) (by omega) (by decide))).mp b39
              refine v_iload 6 dX1_hyper_42 rfl ?_
              refine v_goto (tgt := 52) dX1_hyper_44 (by decide) ?_
              exact v_iret hE dX1_hyper_52 (c, p, dr) (hq _ ⟨Rl_here hp hdr (by rw [show g = 0 by omega, sHyp_g0]), by show c ≤ kk; omega⟩) rfl rfl
set_option maxRecDepth 100000 in
set_option maxHeartbeats 4000000 in
theorem kX1_hyper {D : va_G} {cI cJ cT : ClassId} (l : Launch) {q d w n : Nat} {f : Nat → Int32} {fr p e : Nat} {dr : Bool} {aa bb kk : Nat} (hp : p ≤ e) (he : e ≤ 32 * n) (hn : n ≤ 512) (hdr : dr = true → p = e) (haa : aa ≤ 100000) (hbb : bb ≤ 100000) (hkk : kk ≤ aa + bb) : Fn (S := Nat × Nat × Bool) (gG D cI cJ cT) l yX1_hyper (.code yX1_hyper cX1_hyper 8 (some .int)) (rmD 2) [.ref q, .int (nI aa), .int (nI bb), .int (nI kk)] [(q, .inr (1, [.ref d])), (d, .inr (0, [.ref w, .int (nI fr), .int (nI p), .int (nI e), .int (dI dr)])), (w, .inl (cI, n, .inl f))] (fun u => Rl (sHyp (bitW f) e kk aa bb 0 p) e p dr u ∧ u.1 ≤ kk) (fun u => some (.int (nI u.1))) (fun u => [(q, .inr (1, [.ref d])), (d, .inr (0, [.ref w, .int (nI fr), .int (nI u.2.1), .int (nI e), .int (dI u.2.2)])), (w, .inl (cI, n, .inl f))]) := by
  refine Fn.intro (by decide) (Nat.le_of_ble_eq_true rfl) ?_
  intro X hX hE hin
  subst hX
  show V (gG D cI cJ cT) X _ cX1_hyper 8 RX1 _ 0 0 [(0, .ref q), (1, .int (nI aa)), (2, .int (nI bb)), (3, .int (nI kk))] 0 []
  refine v_iload_n 1 dX1_hyper_0 rfl rfl ?_
  refine v_istore (lv' := [(4, .int (nI aa)), (0, .ref q), (1, .int (nI aa)), (2, .int (nI bb)), (3, .int (nI kk))]) dX1_hyper_1 (by decide) rfl ?_
  refine v_iload_n 3 dX1_hyper_3 rfl rfl ?_
  refine v_istore (lv' := [(5, .int (nI bb)), (4, .int (nI aa)), (0, .ref q), (1, .int (nI aa)), (2, .int (nI bb)), (3, .int (nI kk))]) dX1_hyper_4 (by decide) rfl ?_
  refine v_iconst (v := nI 0) dX1_hyper_6 (by decide) ?_
  refine v_istore (lv' := [(6, .int (nI 0)), (5, .int (nI bb)), (4, .int (nI aa)), (0, .ref q), (1, .int (nI aa)), (2, .int (nI bb)), (3, .int (nI kk))]) dX1_hyper_7 (by decide) rfl ?_
  refine v_iload_n 6 dX1_hyper_9 rfl rfl ?_
  refine v_istore (lv' := [(7, .int (nI kk)), (6, .int (nI 0)), (5, .int (nI bb)), (4, .int (nI aa)), (0, .ref q), (1, .int (nI aa)), (2, .int (nI bb)), (3, .int (nI kk))]) dX1_hyper_10 (by decide) rfl ?_
  refine v_lv [4, 5, 6, 7, 3, 2, 1, 0] rfl ?_
  exact kX1_hyper_loop he hn (by omega) hE (kk + 1) aa bb 0 kk p dr haa hbb hkk (by omega) (by omega) hp hdr (fun u hu => hu)
