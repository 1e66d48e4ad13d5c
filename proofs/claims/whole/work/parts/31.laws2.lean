set_option maxRecDepth 100000 in
set_option maxHeartbeats 4000000 in
theorem kX1_ecr_loop {D : va_G} {cI cJ cT : ClassId} {X : vX} {q d w n : Nat} {f : Nat → Int32} {fr e : Nat}  (he : e ≤ 32 * n) (hn : n ≤ 512) {W0 : va_W} {post : Nat × Nat × Bool → Prop} (hE : vE (gG D cI cJ cT) X (some .int) W0 post (fun u => some (.int (nI u.1))) (fun u => [(q, .inr (1, [.ref d])), (d, .inr (0, [.ref w, .int (nI fr), .int (nI u.2.1), .int (nI e), .int (dI u.2.2)])), (w, .inl (cI, n, .inl f))])) :
    ∀ (k : Nat) (c : Nat) (p : Nat) (dr : Bool), e - p < k → p ≤ e → (dr = true → p = e) → c + k ≤ 100000 → (∀ u, Rl (sUrL (bitW f) e k c p) e p dr u ∧ u.1 < 100000 → post u) → V (gG D cI cJ cT) X (rmD 3) cX1_exponentialCoinsInARow 2 RX1 [(q, .inr (1, [.ref d])), (d, .inr (0, [.ref w, .int (nI fr), .int (nI p), .int (nI e), .int (dI dr)])), (w, .inl (cI, n, .inl f))] 0 0 [(0, .ref q), (1, .int (nI c))] 2 [] := by
  intro k
  induction k with
  | zero => intro c p dr hk hp hdr hj hq; omega
  | succ k ih =>
    intro c p dr hk hp hdr hj hq
    refine v_iload_n 1 dX1_exponentialCoinsInARow_2 rfl rfl ?_
    refine v_ldc (v := nI 1000000) k_c_Laws_30 dX1_exponentialCoinsInARow_3 ?_
    refine v_icmp_ge (tgt := 27) dX1_exponentialCoinsInARow_5 (by decide) (fun b5 => absurd b5 (fun q => absurd ((nI_leI (by decide) (by omega)).mp q) (by omega))) (fun b5 => ?_)
    refine v_aload_n 0 dX1_exponentialCoinsInARow_8 rfl rfl ?_
    refine v_get f_Laws_9 0 rfl rfl dX1_exponentialCoinsInARow_9 ?_
    refine v_lconst (v := lN 1) dX1_exponentialCoinsInARow_12 (by decide) ?_
    refine v_lconst (v := lN 1) dX1_exponentialCoinsInARow_13 (by decide) ?_
    refine v_callV (as := [.long (lN 1), .long (lN 1)]) (rest := []) (ws' := fun u => [(q, .inr (1, [.ref d])), (d, .inr (0, [.ref w, .int (nI fr), .int (nI u.2.1), .int (nI e), .int (dI u.2.2)])), (w, .inl (cI, n, .inl f))]) m_Laws_54 (kX0_unitExponentialCoin X.l (d := d) (w := w) (n := n) (f := f) (fr := fr) (p := p) (e := e) (dr := dr) (num := 1) (den := 1) (by omega) he hn hdr (by omega) (by omega) (by omega)) k_code_X0_unitExponentialCoin [1, 2] 1 rfl rfl rfl rfl dX1_exponentialCoinsInARow_14 (Nat.le_of_ble_eq_true rfl) ⟨rfl, rfl, by decide, by decide⟩ ⟨Nat.zero_le _, Nat.zero_le _⟩ rfl rfl (fun _ => rfl) (fun _ => rfl) ?_
    intro u14 c14
    obtain ⟨r1, p1, d1⟩ := u14
    try dsimp only at c14
    show V (gG D cI cJ cT) X (rmD 3) cX1_exponentialCoinsInARow 2 RX1 [(q, .inr (1, [.ref d])), (d, .inr (0, [.ref w, .int (nI fr), .int (nI p1), .int (nI e), .int (dI d1)])), (w, .inl (cI, n, .inl f))] 0 0 [(0, .ref q), (1, .int (nI c))] 17 [.int (nI r1)]
    have hr1 : r1 ≤ 1 := c14.2.1
    refine v_iconst (v := nI 1) dX1_exponentialCoinsInARow_17 (by decide) ?_
    refine v_icmp_ne (tgt := 27) dX1_exponentialCoinsInARow_18 (by decide) (fun b18 => ?_) (fun b18 => ?_)
    · have b18 : ¬ (r1 = 1) := fun q => b18 ((nI_eq (by omega) (by decide)).mpr q)
      refine v_iload_n 1 dX1_exponentialCoinsInARow_27 rfl rfl ?_
      exact v_iret hE dX1_exponentialCoinsInARow_28 (c, p1, d1) (hq _ ⟨sUr_out c14.1 b18, by show c < 100000; omega⟩) rfl rfl
    · have b18 : r1 = 1 := (nI_eq (by omega) (by decide)).mp b18
      have ha := exp_adv c14.1 c14.2.2 (by omega)
      have hp1 := (Rl_p c14.1).2.1
      refine v_iinc (lv' := [(1, .int (nI (c + 1))), (0, .ref q)]) (v := nI (c + 1)) 1 dX1_exponentialCoinsInARow_21 rfl (nI_1 c) (by decide) rfl ?_
      refine v_goto (tgt := 2) dX1_exponentialCoinsInARow_24 (by decide) ?_
      refine v_lv [1, 0] rfl ?_
      exact ih (c + 1) p1 d1 (by omega) hp1 (Rl_p c14.1).2.2 (by omega) (fun u hu => hq u ⟨sUr_go c14.1 b18 hu.1, hu.2⟩)
set_option maxRecDepth 100000 in
set_option maxHeartbeats 4000000 in
theorem kX1_exponentialCoinsInARow {D : va_G} {cI cJ cT : ClassId} (l : Launch) {q d w n : Nat} {f : Nat → Int32} {fr p e : Nat} {dr : Bool} (hp : p ≤ e) (he : e ≤ 32 * n) (hn : n ≤ 512) (hdr : dr = true → p = e) : Fn (S := Nat × Nat × Bool) (gG D cI cJ cT) l yX1_exponentialCoinsInARow (.code yX1_exponentialCoinsInARow cX1_exponentialCoinsInARow 2 (some .int)) (rmD 3) [.ref q] [(q, .inr (1, [.ref d])), (d, .inr (0, [.ref w, .int (nI fr), .int (nI p), .int (nI e), .int (dI dr)])), (w, .inl (cI, n, .inl f))] (fun u => Rl (sUr (bitW f) e p) e p dr u ∧ u.1 < 100000) (fun u => some (.int (nI u.1))) (fun u => [(q, .inr (1, [.ref d])), (d, .inr (0, [.ref w, .int (nI fr), .int (nI u.2.1), .int (nI e), .int (dI u.2.2)])), (w, .inl (cI, n, .inl f))]) := by
  refine Fn.intro (by decide) (Nat.le_of_ble_eq_true rfl) ?_
  intro X hX hE hin
  subst hX
  show V (gG D cI cJ cT) X _ cX1_exponentialCoinsInARow 2 RX1 _ 0 0 [(0, .ref q)] 0 []
  refine v_iconst (v := nI 0) dX1_exponentialCoinsInARow_0 (by decide) ?_
  refine v_istore_n (lv' := [(1, .int (nI 0)), (0, .ref q)]) dX1_exponentialCoinsInARow_1 rfl (by decide) rfl ?_
  refine v_lv [1, 0] rfl ?_
  exact kX1_ecr_loop he hn hE (e - p + 1) 0 p dr (by omega) hp hdr (by omega) (fun u hu => hu)
set_option maxRecDepth 100000 in
set_option maxHeartbeats 4000000 in
theorem kX1_areZero_loop {D : va_G} {cI cJ cT : ClassId} {X : vX} {q d w n : Nat} {f : Nat → Int32} {fr e : Nat} {nn : Nat} (he : e ≤ 32 * n) (hn : n ≤ 512) (hnn : nn < 600000) {W0 : va_W} {post : Nat × Nat × Bool → Prop} (hE : vE (gG D cI cJ cT) X (some .boolean) W0 post (fun u => some (.int (nI u.1))) (fun u => [(q, .inr (1, [.ref d])), (d, .inr (0, [.ref w, .int (nI fr), .int (nI u.2.1), .int (nI e), .int (dI u.2.2)])), (w, .inl (cI, n, .inl f))])) :
    ∀ (k : Nat) (m : Nat) (p : Nat) (dr : Bool), 2 ≤ m ∧ m ≤ 700000 → nn + 1 - m < k → p ≤ e → (dr = true → p = e) → (∀ u, Rl (sZer (bitW f) e (nn + 1 - m) m p) e p dr u ∧ u.1 ≤ 1 → post u) → V (gG D cI cJ cT) X (rmD 2) cX1_areZero 3 RX1 [(q, .inr (1, [.ref d])), (d, .inr (0, [.ref w, .int (nI fr), .int (nI p), .int (nI e), .int (dI dr)])), (w, .inl (cI, n, .inl f))] 0 0 [(0, .ref q), (1, .int (nI nn)), (2, .int (nI m))] 2 [] := by
  intro k
  induction k with
  | zero => intro m p dr hm hk hp hdr hq; omega
  | succ k ih =>
    intro m p dr hm hk hp hdr hq
    refine v_iload_n 2 dX1_areZero_2 rfl rfl ?_
    refine v_iload_n 1 dX1_areZero_3 rfl rfl ?_
    refine v_icmp_gt (tgt := 39) dX1_areZero_4 (by decide) (fun b4 => ?_) (fun b4 => ?_)
    · have b4 : nn < m := (nI_ltI (by omega) (by omega)).mp b4
      refine v_iconst (v := 1) dX1_areZero_39 (by decide) ?_
      exact v_zret hE rfl dX1_areZero_40 (1, p, dr) (hq _ ⟨Rl_here hp hdr (sZer_end b4), Nat.le_refl _⟩) rfl rfl
    · have b4 : ¬ (nn < m) := fun q => b4 ((nI_ltI (by omega) (by omega)).mpr q)
      refine v_aload_n 0 dX1_areZero_7 rfl rfl ?_
      refine v_get f_Laws_9 0 rfl rfl dX1_areZero_8 ?_
      refine v_iload_n 2 dX1_areZero_11 rfl rfl ?_
      refine v_i2l (v := lN m) dX1_areZero_12 (nI_l (by omega)) ?_
      refine v_callV (as := [.long (lN m)]) (rest := []) (ws' := fun u => [(q, .inr (1, [.ref d])), (d, .inr (0, [.ref w, .int (nI fr), .int (nI u.2.1), .int (nI e), .int (dI u.2.2)])), (w, .inl (cI, n, .inl f))]) m_Laws_38 (kX0_uniform X.l (d := d) (w := w) (n := n) (f := f) (fr := fr) (p := p) (e := e) (dr := dr) (nn := m) (by omega) he hn hdr (by omega) (by omega)) k_code_X0_uniform [1, 2] 1 rfl rfl rfl rfl dX1_areZero_13 (Nat.le_of_ble_eq_true rfl) ⟨rfl, rfl, by decide, by decide⟩ ⟨Nat.zero_le _, Nat.zero_le _⟩ rfl rfl (fun _ => rfl) (fun _ => rfl) ?_
      intro u13 c13
      obtain ⟨r1, p1, d1⟩ := u13
      try dsimp only at c13
      show V (gG D cI cJ cT) X (rmD 2) cX1_areZero 3 RX1 [(q, .inr (1, [.ref d])), (d, .inr (0, [.ref w, .int (nI fr), .int (nI p1), .int (nI e), .int (dI d1)])), (w, .inl (cI, n, .inl f))] 0 0 [(0, .ref q), (1, .int (nI nn)), (2, .int (nI m))] 16 [.long (lN r1)]
      have hr1 : r1 < m := c13.2
      refine v_lconst (v := lN 0) dX1_areZero_16 (by decide) ?_
      refine v_lcmp dX1_areZero_17 ?_
      refine v_if_ne (tgt := 31) dX1_areZero_18 (by decide) (fun b18 => ?_) (fun b18 => ?_)
      · have b18 : ¬ (r1 = 0) := fun q => b18 ((z_eq (by omega) (by decide)).mpr q)
        refine v_iconst (v := 0) dX1_areZero_31 (by decide) ?_
        exact v_zret hE rfl dX1_areZero_32 (0, p1, d1) (hq _ ⟨sZer_out (by omega) c13.1 b18, Nat.zero_le _⟩) rfl rfl
      · have b18 : r1 = 0 := (z_eq (by omega) (by decide)).mp b18
        refine v_aload_n 0 dX1_areZero_21 rfl rfl ?_
        refine v_get f_Laws_9 0 rfl rfl dX1_areZero_22 ?_
        refine v_get f_Laws_15 1 rfl rfl dX1_areZero_25 ?_
        refine v_if_eq (tgt := 33) dX1_areZero_28 (by decide) (fun b28 => ?_) (fun b28 => ?_)
        · have b28 : d1 = false := (dI_0 d1).mp b28
          refine v_iinc (lv' := [(2, .int (nI (m + 1))), (0, .ref q), (1, .int (nI nn))]) (v := nI (m + 1)) 2 dX1_areZero_33 rfl (nI_1 m) (by decide) rfl ?_
          refine v_goto (tgt := 2) dX1_areZero_36 (by decide) ?_
          refine v_lv [1, 2, 0] rfl ?_
          exact ih (m + 1) p1 d1 (by omega) (by omega) (Rl_p c13.1).2.1 (Rl_p c13.1).2.2 (fun u hu => hq u ⟨sZer_go (by omega) c13.1 b18 hu.1, hu.2⟩)
        · have b28 : ¬ (d1 = false) := fun q => b28 ((dI_0 d1).mpr q)
          refine v_iconst (v := 0) dX1_areZero_31 (by decide) ?_
          exact v_zret hE rfl dX1_areZero_32 (0, p1, d1) (hq _ ⟨sZer_dry (by omega) c13.1 (by simpa using b28), Nat.zero_le _⟩) rfl rfl
set_option maxRecDepth 100000 in
set_option maxHeartbeats 4000000 in
theorem kX1_areZero {D : va_G} {cI cJ cT : ClassId} (l : Launch) {q d w n : Nat} {f : Nat → Int32} {fr p e : Nat} {dr : Bool} {nn : Nat} (hp : p ≤ e) (he : e ≤ 32 * n) (hn : n ≤ 512) (hdr : dr = true → p = e) (hnn : nn < 600000) : Fn (S := Nat × Nat × Bool) (gG D cI cJ cT) l yX1_areZero (.code yX1_areZero cX1_areZero 3 (some .boolean)) (rmD 2) [.ref q, .int (nI nn)] [(q, .inr (1, [.ref d])), (d, .inr (0, [.ref w, .int (nI fr), .int (nI p), .int (nI e), .int (dI dr)])), (w, .inl (cI, n, .inl f))] (fun u => Rl (sZer (bitW f) e (nn + 1 - 2) 2 p) e p dr u ∧ u.1 ≤ 1) (fun u => some (.int (nI u.1))) (fun u => [(q, .inr (1, [.ref d])), (d, .inr (0, [.ref w, .int (nI fr), .int (nI u.2.1), .int (nI e), .int (dI u.2.2)])), (w, .inl (cI, n, .inl f))]) := by
  refine Fn.intro (by decide) (Nat.le_of_ble_eq_true rfl) ?_
  intro X hX hE hin
  subst hX
  show V (gG D cI cJ cT) X _ cX1_areZero 3 RX1 _ 0 0 [(0, .ref q), (1, .int (nI nn))] 0 []
  refine v_iconst (v := nI 2) dX1_areZero_0 (by decide) ?_
  refine v_istore_n (lv' := [(2, .int (nI 2)), (0, .ref q), (1, .int (nI nn))]) dX1_areZero_1 rfl (by decide) rfl ?_
  refine v_lv [1, 2, 0] rfl ?_
  exact kX1_areZero_loop he hn hnn hE (nn + 1) 2 p dr (by omega) (by omega) hp hdr (fun u hu => hu)
theorem onc_adv {b : Nat → Nat} {e num den k p r1 p1 p2 : Nat} {dr d1 d2 : Bool} (h0 : 0 < num) (hn : num < den) (h1 : Rl (sRow b e num den p) e p dr (r1, p1, d1)) (hd : dr = false) (hp2 : p1 ≤ p2 ∧ p2 ≤ e ∧ (d2 = true → p2 = e)) (hp1 : p ≤ p1 ∧ p1 ≤ e ∧ (d1 = true → p1 = e)) (hdd : d1 = true → d2 = true) (hk : e - p + (if dr = true then 0 else 1) < k + 1) : e - p2 + (if d2 = true then 0 else 1) < k := by
  rw [hd, if_neg (by decide)] at hk
  cases hd1 : d1
  · obtain ⟨-, c, -, -⟩ := Rl_f h1 hd1
    have := sRowL_gt h0 hn c
    simp only at this
    split <;> omega
  · have := hp1.2.2 hd1
    by_cases h2 : d2 = true
    · rw [if_pos h2]; omega
    · exact absurd (hdd hd1) h2
set_option maxRecDepth 100000 in
set_option maxHeartbeats 4000000 in
theorem kX1_part_loop {D : va_G} {cI cJ cT : ClassId} {X : vX} {q d w n : Nat} {f : Nat → Int32} {fr e : Nat} {num den : Nat} (he : e ≤ 32 * n) (hn : n ≤ 512) (h0 : 0 < num) (hnd : num < den) (hden : den < 2 ^ 62) {W0 : va_W} {post : Nat × Nat × Bool → Prop} (hE : vE (gG D cI cJ cT) X (some .int) W0 post (fun u => some (.int (nI u.1))) (fun u => [(q, .inr (1, [.ref d])), (d, .inr (0, [.ref w, .int (nI fr), .int (nI u.2.1), .int (nI e), .int (dI u.2.2)])), (w, .inl (cI, n, .inl f))])) :
    ∀ (k : Nat) (p : Nat) (j : Nat) (dr : Bool), e - p + (if dr = true then 0 else 1) < k → p ≤ e → (dr = true → p = e) → j + k ≤ 100000 → (∀ u, Rl (sOncL (bitW f) e num den k p) e p dr u ∧ u.1 < 500000 → post u) → V (gG D cI cJ cT) X (rmD 3) cX1_poissonPart 7 RX1 [(q, .inr (1, [.ref d])), (d, .inr (0, [.ref w, .int (nI fr), .int (nI p), .int (nI e), .int (dI dr)])), (w, .inl (cI, n, .inl f))] 0 0 [(0, .ref q), (1, .long (lN num)), (3, .long (lN den)), (5, .int (nI j))] 3 [] := by
  intro k
  induction k with
  | zero => intro p j dr hk hp hdr hj hq; omega
  | succ k ih =>
    intro p j dr hk hp hdr hj hq
    refine v_iload 3 dX1_poissonPart_3 rfl ?_
    refine v_ldc (v := nI 1000000) k_c_Laws_30 dX1_poissonPart_5 ?_
    refine v_icmp_ge (tgt := 49) dX1_poissonPart_7 (by decide) (fun b7 => absurd b7 (fun q => absurd ((nI_leI (by decide) (by omega)).mp q) (by omega))) (fun b7 => ?_)
    refine v_aload_n 0 dX1_poissonPart_10 rfl rfl ?_
    refine v_get f_Laws_9 0 rfl rfl dX1_poissonPart_11 ?_
    refine v_get f_Laws_15 1 rfl rfl dX1_poissonPart_14 ?_
    refine v_if_ne (tgt := 49) dX1_poissonPart_17 (by decide) (fun b17 => ?_) (fun b17 => ?_)
    · have b17 : ¬ (dr = false) := fun q => b17 ((dI_0 dr).mpr q)
      refine v_iconst (v := nI 0) dX1_poissonPart_49 (by decide) ?_
      exact v_iret hE dX1_poissonPart_50 (0, p, dr) (hq _ ⟨Rl_over (by simpa using b17) (hdr (by simpa using b17)), by show 0 < 500000; decide⟩) rfl rfl
    · have b17 : dr = false := (dI_0 dr).mp b17
      refine v_aload_n 0 dX1_poissonPart_20 rfl rfl ?_
      refine v_get f_Laws_9 0 rfl rfl dX1_poissonPart_21 ?_
      refine v_lload_n 1 dX1_poissonPart_24 rfl rfl ?_
      refine v_lload_n 2 dX1_poissonPart_25 rfl rfl ?_
      refine v_callV (as := [.long (lN num), .long (lN den)]) (rest := []) (ws' := fun u => [(q, .inr (1, [.ref d])), (d, .inr (0, [.ref w, .int (nI fr), .int (nI u.2.1), .int (nI e), .int (dI u.2.2)])), (w, .inl (cI, n, .inl f))]) m_Laws_31 (kX0_coinsInARow X.l (d := d) (w := w) (n := n) (f := f) (fr := fr) (p := p) (e := e) (dr := dr) (num := num) (den := den) (by omega) he hn hdr h0 hnd hden) k_code_X0_coinsInARow [1, 2] 1 rfl rfl rfl rfl dX1_poissonPart_26 (Nat.le_of_ble_eq_true rfl) ⟨rfl, rfl, by decide, by decide⟩ ⟨Nat.zero_le _, Nat.zero_le _⟩ rfl rfl (fun _ => rfl) (fun _ => rfl) ?_
      intro u26 c26
      obtain ⟨r1, p1, d1⟩ := u26
      try dsimp only at c26
      show V (gG D cI cJ cT) X (rmD 3) cX1_poissonPart 7 RX1 [(q, .inr (1, [.ref d])), (d, .inr (0, [.ref w, .int (nI fr), .int (nI p1), .int (nI e), .int (dI d1)])), (w, .inl (cI, n, .inl f))] 0 0 [(0, .ref q), (1, .long (lN num)), (3, .long (lN den)), (5, .int (nI j))] 29 [.int (nI r1)]
      have hr1 : r1 < 500000 := c26.2
      have hp1 := Rl_p c26.1
      refine v_istore (lv' := [(6, .int (nI r1)), (0, .ref q), (1, .long (lN num)), (3, .long (lN den)), (5, .int (nI j))]) dX1_poissonPart_29 (by decide) rfl ?_
      refine v_aload_n 1 dX1_poissonPart_31 rfl rfl ?_
      refine v_iload 0 dX1_poissonPart_32 rfl ?_
      refine v_callV (as := [.int (nI r1)]) (rest := []) (ws' := fun u => [(q, .inr (1, [.ref d])), (d, .inr (0, [.ref w, .int (nI fr), .int (nI u.2.1), .int (nI e), .int (dI u.2.2)])), (w, .inl (cI, n, .inl f))]) m_Laws_34 (kX1_areZero X.l (q := q) (d := d) (w := w) (n := n) (f := f) (fr := fr) (p := p1) (e := e) (dr := d1) (nn := r1) (by omega) he hn hp1.2.2 (by omega)) k_code_X1_areZero [0, 1, 2] 0 rfl rfl rfl rfl dX1_poissonPart_34 (Nat.le_of_ble_eq_true rfl) ⟨rfl, rfl, by decide, by decide⟩ ⟨Nat.zero_le _, Nat.zero_le _⟩ rfl rfl (fun _ => rfl) (fun _ => rfl) ?_
      intro u34 c34
      obtain ⟨z, p2, d2⟩ := u34
      try dsimp only at c34
      show V (gG D cI cJ cT) X (rmD 3) cX1_poissonPart 7 RX1 [(q, .inr (1, [.ref d])), (d, .inr (0, [.ref w, .int (nI fr), .int (nI p2), .int (nI e), .int (dI d2)])), (w, .inl (cI, n, .inl f))] 0 0 [(6, .int (nI r1)), (0, .ref q), (1, .long (lN num)), (3, .long (lN den)), (5, .int (nI j))] 37 [.int (nI z)]
      have hz : z ≤ 1 := c34.2
      have hp2 := Rl_p c34.1
      refine v_if_eq (tgt := 43) dX1_poissonPart_37 (by decide) (fun b37 => ?_) (fun b37 => ?_)
      · have b37 : z = 0 := ((show nI z = 0 ↔ z = 0 from nI_eq (b := 0) (by omega) (by decide))).mp b37
        have ha := onc_adv h0 hnd c26.1 b17 hp2 hp1 c34.1.1 hk
        refine v_iinc (lv' := [(5, .int (nI (j + 1))), (6, .int (nI r1)), (0, .ref q), (1, .long (lN num)), (3, .long (lN den))]) (v := nI (j + 1)) 4 dX1_poissonPart_43 rfl (nI_1 j) (by decide) rfl ?_
        refine v_goto (tgt := 3) dX1_poissonPart_46 (by decide) ?_
        refine v_lv [2, 3, 4, 0] rfl ?_
        exact ih p2 (j + 1) d2 ha hp2.2.1 hp2.2.2 (by omega) (fun u hu => hq u ⟨sOnc_go c26.1 c34.1 (by omega) hu.1, hu.2⟩)
      · have b37 : ¬ (z = 0) := fun q => b37 (((show nI z = 0 ↔ z = 0 from nI_eq (b := 0) (by omega) (by decide))).mpr q)
        refine v_iload 0 dX1_poissonPart_40 rfl ?_
        exact v_iret hE dX1_poissonPart_42 (r1, p2, d2) (hq _ ⟨sOnc_out c26.1 c34.1 (by omega), hr1⟩) rfl rfl
set_option maxRecDepth 100000 in
set_option maxHeartbeats 4000000 in
theorem kX1_poissonPart {D : va_G} {cI cJ cT : ClassId} (l : Launch) {q d w n : Nat} {f : Nat → Int32} {fr p e : Nat} {dr : Bool} {num den : Nat} (hp : p ≤ e) (he : e ≤ 32 * n) (hn : n ≤ 512) (hdr : dr = true → p = e) (h0 : 0 < num) (hnd : num < den) (hden : den < 2 ^ 62) : Fn (S := Nat × Nat × Bool) (gG D cI cJ cT) l yX1_poissonPart (.code yX1_poissonPart cX1_poissonPart 7 (some .int)) (rmD 3) [.ref q, .long (lN num), .long (lN den)] [(q, .inr (1, [.ref d])), (d, .inr (0, [.ref w, .int (nI fr), .int (nI p), .int (nI e), .int (dI dr)])), (w, .inl (cI, n, .inl f))] (fun u => Rl (sOnc (bitW f) e num den p) e p dr u ∧ u.1 < 500000) (fun u => some (.int (nI u.1))) (fun u => [(q, .inr (1, [.ref d])), (d, .inr (0, [.ref w, .int (nI fr), .int (nI u.2.1), .int (nI e), .int (dI u.2.2)])), (w, .inl (cI, n, .inl f))]) := by
  refine Fn.intro (by decide) (Nat.le_of_ble_eq_true rfl) ?_
  intro X hX hE hin
  subst hX
  show V (gG D cI cJ cT) X _ cX1_poissonPart 7 RX1 _ 0 0 [(0, .ref q), (1, .long (lN num)), (3, .long (lN den))] 0 []
  refine v_iconst (v := nI 0) dX1_poissonPart_0 (by decide) ?_
  refine v_istore (lv' := [(5, .int (nI 0)), (0, .ref q), (1, .long (lN num)), (3, .long (lN den))]) dX1_poissonPart_1 (by decide) rfl ?_
  refine v_lv [1, 2, 3, 0] rfl ?_
  exact kX1_part_loop he hn h0 hnd hden hE (e - p + 2) p 0 dr (by split <;> omega) hp hdr (by omega) (fun u hu => hu)
set_option maxRecDepth 100000 in
set_option maxHeartbeats 4000000 in
theorem kX1_poisson_loop {D : va_G} {cI cJ cT : ClassId} {X : vX} {q d w n : Nat} {f : Nat → Int32} {fr e : Nat} {num den tt : Nat} (he : e ≤ 32 * n) (hn : n ≤ 512) (h0 : 0 < num) (hnum : num < 2 ^ 31) (hden : den < 2 ^ 31) (htt : tt ≤ 128) (htd : num < tt * den) (htd2 : tt * den < 2 ^ 62) {W0 : va_W} {post : Nat × Nat × Bool → Prop} (hE : vE (gG D cI cJ cT) X (some .long) W0 post (fun u => some (.long (lN u.1))) (fun u => [(q, .inr (1, [.ref d])), (d, .inr (0, [.ref w, .int (nI fr), .int (nI u.2.1), .int (nI e), .int (dI u.2.2)])), (w, .inl (cI, n, .inl f))])) :
    ∀ (k : Nat) (c : Nat) (i : Nat) (p : Nat) (dr : Bool), i ≤ tt → tt - i < k → p ≤ e → (dr = true → p = e) → (∀ u, Rl (sPoi (bitW f) e num (tt * den) (tt - i) c p) e p dr u → post u) → V (gG D cI cJ cT) X (rmD 4) cX1_poisson 9 RX1 [(q, .inr (1, [.ref d])), (d, .inr (0, [.ref w, .int (nI fr), .int (nI p), .int (nI e), .int (dI dr)])), (w, .inl (cI, n, .inl f))] 0 0 [(0, .ref q), (1, .int (nI num)), (2, .int (nI den)), (3, .long (lN tt)), (5, .long (lN c)), (7, .long (lN i))] 32 [] := by
  intro k
  induction k with
  | zero => intro c i p dr hi hk hp hdr hq; omega
  | succ k ih =>
    intro c i p dr hi hk hp hdr hq
    refine v_lload 5 dX1_poisson_32 rfl ?_
    refine v_lload_n 3 dX1_poisson_34 rfl rfl ?_
    refine v_lcmp dX1_poisson_35 ?_
    refine v_if_ge (tgt := 74) dX1_poisson_36 (by decide) (fun b36 => ?_) (fun b36 => ?_)
    · have b36 : tt ≤ i := (z_ge (by omega) (by omega)).mp b36
      refine v_lload 4 dX1_poisson_74 rfl ?_
      exact v_lret hE dX1_poisson_76 (c, p, dr) (hq _ (Rl_here hp hdr (sPoi_end b36))) rfl rfl
    · have b36 : ¬ (tt ≤ i) := fun q => b36 ((z_ge (by omega) (by omega)).mpr q)
      refine v_aload_n 0 dX1_poisson_39 rfl rfl ?_
      refine v_get f_Laws_9 0 rfl rfl dX1_poisson_40 ?_
      refine v_get f_Laws_15 1 rfl rfl dX1_poisson_43 ?_
      refine v_if_ne (tgt := 74) dX1_poisson_46 (by decide) (fun b46 => ?_) (fun b46 => ?_)
      · have b46 : ¬ (dr = false) := fun q => b46 ((dI_0 dr).mpr q)
        refine v_lload 4 dX1_poisson_74 rfl ?_
        exact v_lret hE dX1_poisson_76 (c, p, dr) (hq _ (Rl_over (by simpa using b46) (hdr (by simpa using b46)))) rfl rfl
      · have b46 : dr = false := (dI_0 dr).mp b46
        refine v_lload 4 dX1_poisson_49 rfl ?_
        refine v_aload_n 0 dX1_poisson_51 rfl rfl ?_
        refine v_iload_n 1 dX1_poisson_52 rfl rfl ?_
        refine v_i2l (v := lN num) dX1_poisson_53 (nI_l (by omega)) ?_
        refine v_lload_n 3 dX1_poisson_54 rfl rfl ?_
        refine v_iload_n 2 dX1_poisson_55 rfl rfl ?_
        refine v_i2l (v := lN den) dX1_poisson_56 (nI_l (by omega)) ?_
        refine v_lmul dX1_poisson_57 ?_
        refine v_topl (y := lN (tt * den)) (lN_mul _ _) ?_
        refine v_callV (as := [.long (lN num), .long (lN (tt * den))]) (rest := [.long (lN c)]) (ws' := fun u => [(q, .inr (1, [.ref d])), (d, .inr (0, [.ref w, .int (nI fr), .int (nI u.2.1), .int (nI e), .int (dI u.2.2)])), (w, .inl (cI, n, .inl f))]) m_Laws_27 (kX1_poissonPart X.l (q := q) (d := d) (w := w) (n := n) (f := f) (fr := fr) (p := p) (e := e) (dr := dr) (num := num) (den := tt * den) (by omega) he hn hdr h0 htd (by omega)) k_code_X1_poissonPart [0, 1, 2] 0 rfl rfl rfl rfl dX1_poisson_58 (Nat.le_of_ble_eq_true rfl) ⟨rfl, rfl, by decide, by decide⟩ ⟨Nat.zero_le _, Nat.zero_le _⟩ rfl rfl (fun _ => rfl) (fun _ => rfl) ?_
        intro u58 c58
        obtain ⟨r1, p1, d1⟩ := u58
        try dsimp only at c58
        show V (gG D cI cJ cT) X (rmD 4) cX1_poisson 9 RX1 [(q, .inr (1, [.ref d])), (d, .inr (0, [.ref w, .int (nI fr), .int (nI p1), .int (nI e), .int (dI d1)])), (w, .inl (cI, n, .inl f))] 0 0 [(0, .ref q), (1, .int (nI num)), (2, .int (nI den)), (3, .long (lN tt)), (5, .long (lN c)), (7, .long (lN i))] 61 [.int (nI r1), .long (lN c)]
        have hr1 : r1 < 500000 := c58.2
        refine v_i2l (v := lN r1) dX1_poisson_61 (nI_l (by omega)) ?_
        refine v_ladd dX1_poisson_62 ?_
        refine v_topl (y := lN (c + r1)) (lN_add _ _) ?_
        refine v_lstore (lv' := [(5, .long (lN (c + r1))), (0, .ref q), (1, .int (nI num)), (2, .int (nI den)), (3, .long (lN tt)), (7, .long (lN i))]) dX1_poisson_63 (by decide) rfl ?_
        refine v_lload 5 dX1_poisson_65 rfl ?_
        refine v_lconst (v := lN 1) dX1_poisson_67 (by decide) ?_
        refine v_ladd dX1_poisson_68 ?_
        refine v_topl (y := lN (i + 1)) (lN_add _ _) ?_
        refine v_lstore (lv' := [(7, .long (lN (i + 1))), (5, .long (lN (c + r1))), (0, .ref q), (1, .int (nI num)), (2, .int (nI den)), (3, .long (lN tt))]) dX1_poisson_69 (by decide) rfl ?_
        refine v_goto (tgt := 32) dX1_poisson_71 (by decide) ?_
        refine v_lv [2, 3, 4, 5, 1, 0] rfl ?_
        exact ih (c + r1) (i + 1) p1 d1 (by omega) (by omega) (Rl_p c58.1).2.1 (Rl_p c58.1).2.2 (fun u hu => hq u (sPoi_go (by omega) c58.1 hu))
set_option maxRecDepth 100000 in
set_option maxHeartbeats 4000000 in
theorem kX1_poisson {D : va_G} {cI cJ cT : ClassId} (l : Launch) {q d w n : Nat} {f : Nat → Int32} {fr p e : Nat} {dr : Bool} {num den : Nat} (hp : p ≤ e) (he : e ≤ 32 * n) (hn : n ≤ 512) (hdr : dr = true → p = e) (hn31 : num < 2 ^ 31) (hd0 : 0 < den) (hnum : num ≤ 64 * den) (hden : den < 2 ^ 31) : Fn (S := Nat × Nat × Bool) (gG D cI cJ cT) l yX1_poisson (.code yX1_poisson cX1_poisson 9 (some .long)) (rmD 4) [.ref q, .int (nI num), .int (nI den)] [(q, .inr (1, [.ref d])), (d, .inr (0, [.ref w, .int (nI fr), .int (nI p), .int (nI e), .int (dI dr)])), (w, .inl (cI, n, .inl f))] (fun u => Rl (sPoisson (bitW f) e num den p) e p dr u) (fun u => some (.long (lN u.1))) (fun u => [(q, .inr (1, [.ref d])), (d, .inr (0, [.ref w, .int (nI fr), .int (nI u.2.1), .int (nI e), .int (dI u.2.2)])), (w, .inl (cI, n, .inl f))]) := by
  refine Fn.intro (by decide) (Nat.le_of_ble_eq_true rfl) ?_
  intro X hX hE hin
  subst hX
  show V (gG D cI cJ cT) X _ cX1_poisson 9 RX1 _ 0 0 [(0, .ref q), (1, .int (nI num)), (2, .int (nI den))] 0 []
  refine v_iload_n 1 dX1_poisson_0 rfl rfl ?_
  refine v_if_eq (tgt := 9) dX1_poisson_1 (by decide) (fun b1 => ?_) (fun b1 => ?_)
  · have b1 : num = 0 := ((show nI num = 0 ↔ num = 0 from nI_eq (b := 0) (by omega) (by decide))).mp b1
    refine v_lconst (v := lN 0) dX1_poisson_9 (by decide) ?_
    exact v_lret hE dX1_poisson_10 (0, p, dr) (Rl_here hp hdr (by simp [sPoisson, b1])) rfl rfl
  · have b1 : ¬ (num = 0) := fun q => b1 (((show nI num = 0 ↔ num = 0 from nI_eq (b := 0) (by omega) (by decide))).mpr q)
    refine v_iload_n 2 dX1_poisson_4 rfl rfl ?_
    refine v_iconst (v := nI 1) dX1_poisson_5 (by decide) ?_
    refine v_icmp_ge (tgt := 11) dX1_poisson_6 (by decide) (fun b6 => ?_) (fun b6 => absurd ((nI_leI (by decide) (by omega)).mpr hd0) b6)
    refine v_ldc2 (v := lN 2) k_c_Laws_25 dX1_poisson_11 ?_
    refine v_iload_n 1 dX1_poisson_14 rfl rfl ?_
    refine v_i2l (v := lN num) dX1_poisson_15 (nI_l (by omega)) ?_
    refine v_lmul dX1_poisson_16 ?_
    refine v_topl (y := lN (2 * num)) (lN_mul _ _) ?_
    refine v_iload_n 2 dX1_poisson_17 rfl rfl ?_
    refine v_i2l (v := lN den) dX1_poisson_18 (nI_l (by omega)) ?_
    refine v_ladd dX1_poisson_19 ?_
    refine v_topl (y := lN (2 * num + den)) (lN_add _ _) ?_
    refine v_lconst (v := lN 1) dX1_poisson_20 (by decide) ?_
    refine v_lsub dX1_poisson_21 ?_
    refine v_topl (y := lN (2 * num + den - 1)) (lN_sub (by omega)) ?_
    refine v_iload_n 2 dX1_poisson_22 rfl rfl ?_
    refine v_i2l (v := lN den) dX1_poisson_23 (nI_l (by omega)) ?_
    refine v_ldiv dX1_poisson_24 (fun h => absurd ((pk_lEQ (by omega) (by decide)).mp (show lN den = lN 0 from h)) (by omega)) ?_
    refine v_topl (y := lN (poT num den)) (pk_lDiv (by omega) (by omega) (by omega)) ?_
    refine v_lstore_n (lv' := [(3, .long (lN (poT num den))), (0, .ref q), (1, .int (nI num)), (2, .int (nI den))]) dX1_poisson_25 rfl (by decide) rfl ?_
    refine v_lconst (v := lN 0) dX1_poisson_26 (by decide) ?_
    refine v_lstore (lv' := [(5, .long (lN 0)), (3, .long (lN (poT num den))), (0, .ref q), (1, .int (nI num)), (2, .int (nI den))]) dX1_poisson_27 (by decide) rfl ?_
    refine v_lconst (v := lN 0) dX1_poisson_29 (by decide) ?_
    refine v_lstore (lv' := [(7, .long (lN 0)), (5, .long (lN 0)), (3, .long (lN (poT num den))), (0, .ref q), (1, .int (nI num)), (2, .int (nI den))]) dX1_poisson_30 (by decide) rfl ?_
    have hpo := poT_bounds (num := num) (den := den) (by omega) hd0 hnum
    refine v_lv [3, 4, 5, 2, 1, 0] rfl ?_
    exact kX1_poisson_loop he hn (by omega) (by omega) hden hpo.2.1 (by omega) (by omega) hE (poT num den + 1) 0 0 p dr (by omega) (by omega) hp hdr (fun u hu => by rw [sPoisson, if_neg b1]; exact hu)
