set_option maxRecDepth 100000 in
set_option maxHeartbeats 4000000 in
theorem kX0_coinsInARow_loop {D : va_G} {cI cJ cT : ClassId} {X : vX} {d w n : Nat} {f : Nat → Int32} {fr e : Nat} {num den : Nat} (he : e ≤ 32 * n) (hn : n ≤ 512) (h0 : 0 < num) (hnd : num < den) (hden : den < 2 ^ 62) {W0 : va_W} {post : Nat × Nat × Bool → Prop} (hE : vE (gG D cI cJ cT) X (some .int) W0 post (fun u => some (.int (nI u.1))) (fun u => [(d, .inr (0, [.ref w, .int (nI fr), .int (nI u.2.1), .int (nI e), .int (dI u.2.2)])), (w, .inl (cI, n, .inl f))])) :
    ∀ (k : Nat) (c : Nat) (p : Nat) (dr : Bool), e - p < k → p ≤ e → (dr = true → p = e) → c + k ≤ 100000 → (∀ u, Rl (sRowL (bitW f) e num den k c p) e p dr u ∧ u.1 < 500000 → post u) → V (gG D cI cJ cT) X (rmD 2) cX0_coinsInARow 6 RX0 [(d, .inr (0, [.ref w, .int (nI fr), .int (nI p), .int (nI e), .int (dI dr)])), (w, .inl (cI, n, .inl f))] 0 0 [(0, .ref d), (1, .long (lN num)), (3, .long (lN den)), (5, .int (nI c))] 3 [] := by
  intro k
  induction k with
  | zero => intro c p dr hk hp hdr hj hq; omega
  | succ k ih =>
    intro c p dr hk hp hdr hj hq
    refine v_iload 3 dX0_coinsInARow_3 rfl ?_
    refine v_ldc (v := nI 1000000) k_c_Dice_35 dX0_coinsInARow_5 ?_
    refine v_icmp_ge (tgt := 26) dX0_coinsInARow_7 (by decide) (fun b7 => absurd b7 (fun q => absurd ((nI_leI (by decide) (by omega)).mp q) (by omega))) (fun b7 => ?_)
    refine v_aload_n 0 dX0_coinsInARow_10 rfl rfl ?_
    refine v_lload_n 1 dX0_coinsInARow_11 rfl rfl ?_
    refine v_lload_n 2 dX0_coinsInARow_12 rfl rfl ?_
    refine v_callV (as := [.long (lN num), .long (lN den)]) (rest := []) (ws' := fun u => [(d, .inr (0, [.ref w, .int (nI fr), .int (nI u.2.1), .int (nI e), .int (dI u.2.2)])), (w, .inl (cI, n, .inl f))]) m_Dice_40 (kX0_coin X.l (d := d) (w := w) (n := n) (f := f) (fr := fr) (p := p) (e := e) (dr := dr) (num := num) (den := den) (by omega) he hn hdr (by omega) (by omega)) k_code_X0_coin [0, 1] 0 rfl rfl rfl rfl dX0_coinsInARow_13 (Nat.le_of_ble_eq_true rfl) ⟨rfl, rfl, by decide, by decide⟩ ⟨Nat.zero_le _, Nat.zero_le _⟩ rfl rfl (fun _ => rfl) (fun _ => rfl) ?_
    intro u13 c13
    obtain ⟨r1, p1, d1⟩ := u13
    try dsimp only at c13
    show V (gG D cI cJ cT) X (rmD 2) cX0_coinsInARow 6 RX0 [(d, .inr (0, [.ref w, .int (nI fr), .int (nI p1), .int (nI e), .int (dI d1)])), (w, .inl (cI, n, .inl f))] 0 0 [(0, .ref d), (1, .long (lN num)), (3, .long (lN den)), (5, .int (nI c))] 16 [.int (nI r1)]
    have hr1 : r1 ≤ 1 := c13.2.1
    refine v_iconst (v := nI 1) dX0_coinsInARow_16 (by decide) ?_
    refine v_icmp_ne (tgt := 26) dX0_coinsInARow_17 (by decide) (fun b17 => ?_) (fun b17 => ?_)
    · have b17 : ¬ (r1 = 1) := fun q => b17 ((nI_eq (by omega) (by decide)).mpr q)
      refine v_iload 3 dX0_coinsInARow_26 rfl ?_
      exact v_iret hE dX0_coinsInARow_28 (c, p1, d1) (hq _ ⟨sRow_out c13.1 b17, by show c < 500000; omega⟩) rfl rfl
    · have b17 : r1 = 1 := (nI_eq (by omega) (by decide)).mp b17
      have ha := coin_adv h0 hnd c13.1 c13.2.2.1 b17
      have hp1 := (Rl_p c13.1).2.1
      refine v_iinc (lv' := [(5, .int (nI (c + 1))), (0, .ref d), (1, .long (lN num)), (3, .long (lN den))]) (v := nI (c + 1)) 3 dX0_coinsInARow_20 rfl (nI_1 c) (by decide) rfl ?_
      refine v_goto (tgt := 3) dX0_coinsInARow_23 (by decide) ?_
      refine v_lv [1, 2, 3, 0] rfl ?_
      exact ih (c + 1) p1 d1 (by omega) (Rl_p c13.1).2.1 (Rl_p c13.1).2.2 (by omega) (fun u hu => hq u ⟨sRow_go c13.1 b17 hu.1, hu.2⟩)
set_option maxRecDepth 100000 in
set_option maxHeartbeats 4000000 in
theorem kX0_coinsInARow {D : va_G} {cI cJ cT : ClassId} (l : Launch) {d w n : Nat} {f : Nat → Int32} {fr p e : Nat} {dr : Bool} {num den : Nat} (hp : p ≤ e) (he : e ≤ 32 * n) (hn : n ≤ 512) (hdr : dr = true → p = e) (h0 : 0 < num) (hnd : num < den) (hden : den < 2 ^ 62) : Fn (S := Nat × Nat × Bool) (gG D cI cJ cT) l yX0_coinsInARow (.code yX0_coinsInARow cX0_coinsInARow 6 (some .int)) (rmD 2) [.ref d, .long (lN num), .long (lN den)] [(d, .inr (0, [.ref w, .int (nI fr), .int (nI p), .int (nI e), .int (dI dr)])), (w, .inl (cI, n, .inl f))] (fun u => Rl (sRow (bitW f) e num den p) e p dr u ∧ u.1 < 500000) (fun u => some (.int (nI u.1))) (fun u => [(d, .inr (0, [.ref w, .int (nI fr), .int (nI u.2.1), .int (nI e), .int (dI u.2.2)])), (w, .inl (cI, n, .inl f))]) := by
  refine Fn.intro (by decide) (Nat.le_of_ble_eq_true rfl) ?_
  intro X hX hE hin
  subst hX
  show V (gG D cI cJ cT) X _ cX0_coinsInARow 6 RX0 _ 0 0 [(0, .ref d), (1, .long (lN num)), (3, .long (lN den))] 0 []
  refine v_iconst (v := nI 0) dX0_coinsInARow_0 (by decide) ?_
  refine v_istore (lv' := [(5, .int (nI 0)), (0, .ref d), (1, .long (lN num)), (3, .long (lN den))]) dX0_coinsInARow_1 (by decide) rfl ?_
  refine v_lv [1, 2, 3, 0] rfl ?_
  exact kX0_coinsInARow_loop he hn h0 hnd hden hE (e - p + 1) 0 p dr (by omega) hp hdr (by omega) (fun u hu => hu)
theorem uex_step {b : Nat → Nat} {e num den k c p r1 p1 : Nat} {dr d1 : Bool} (hc : 0 < c) (hnum : num ≤ den) (hden : 0 < den) (hk : (e - p) + (if c = 1 then 1 else 0) < k + 1) (h1 : Rl (sCoin b e num (c * den) p) e p dr (r1, p1, d1)) (hz : 0 < num → num < c * den → d1 = true → r1 = 0) (hzz : num = 0 → r1 = 0) (hr : r1 = 1) : (e - p1) + (if c + 1 = 1 then 1 else 0) < k := by
  rw [if_neg (by omega)]
  have hp := Rl_p h1
  have h0 : 0 < num := by
    rcases Nat.eq_zero_or_pos num with h | h
    · have := hzz h; omega
    · exact h
  by_cases hc1 : c = 1
  · rw [if_pos hc1] at hk
    omega
  · rw [if_neg hc1] at hk
    have : 2 * den ≤ c * den := Nat.mul_le_mul_right _ (by omega)
    have := coin_adv h0 (by omega) h1 hz hr
    omega
set_option maxRecDepth 100000 in
set_option maxHeartbeats 4000000 in
theorem kX0_uex_loop {D : va_G} {cI cJ cT : ClassId} {X : vX} {d w n : Nat} {f : Nat → Int32} {fr e : Nat} {num den : Nat} (he : e ≤ 32 * n) (hn : n ≤ 512) (hden0 : 0 < den) (hnum : num ≤ den) (hden : den < 2 ^ 44) {W0 : va_W} {post : Nat × Nat × Bool → Prop} (hE : vE (gG D cI cJ cT) X (some .int) W0 post (fun u => some (.int (nI u.1))) (fun u => [(d, .inr (0, [.ref w, .int (nI fr), .int (nI u.2.1), .int (nI e), .int (dI u.2.2)])), (w, .inl (cI, n, .inl f))])) :
    ∀ (k : Nat) (c : Nat) (p : Nat) (dr : Bool), 0 < c → (e - p) + (if c = 1 then 1 else 0) < k → p ≤ e → (dr = true → p = e) → c + k ≤ 100000 → (∀ u, Rl (sUexL (bitW f) e num den k c p) e p dr u ∧ u.1 ≤ 1 ∧ (u.2.2 = true → u.1 = 0) → post u) → V (gG D cI cJ cT) X (rmD 2) cX0_unitExponentialCoin 6 RX0 [(d, .inr (0, [.ref w, .int (nI fr), .int (nI p), .int (nI e), .int (dI dr)])), (w, .inl (cI, n, .inl f))] 0 0 [(0, .ref d), (1, .long (lN num)), (3, .long (lN den)), (5, .int (nI c))] 3 [] := by
  intro k
  induction k with
  | zero => intro c p dr hc hk hp hdr hj hq; omega
  | succ k ih =>
    intro c p dr hc hk hp hdr hj hq
    refine v_iload 3 dX0_unitExponentialCoin_3 rfl ?_
    refine v_ldc (v := nI 1000000) k_c_Dice_35 dX0_unitExponentialCoin_5 ?_
    refine v_icmp_ge (tgt := 30) dX0_unitExponentialCoin_7 (by decide) (fun b7 => absurd b7 (fun q => absurd ((nI_leI (by decide) (by omega)).mp q) (by omega))) (fun b7 => ?_)
    refine v_aload_n 0 dX0_unitExponentialCoin_10 rfl rfl ?_
    refine v_lload_n 1 dX0_unitExponentialCoin_11 rfl rfl ?_
    refine v_iload 3 dX0_unitExponentialCoin_12 rfl ?_
    refine v_i2l (v := lN c) dX0_unitExponentialCoin_14 (nI_l (by omega)) ?_
    refine v_lload_n 2 dX0_unitExponentialCoin_15 rfl rfl ?_
    have hcd : c * den ≤ 100000 * den := Nat.mul_le_mul_right _ (by omega)
    have hcd1 : den ≤ c * den := Nat.le_mul_of_pos_left _ hc
    refine v_lmul dX0_unitExponentialCoin_16 ?_
    refine v_topl (y := lN (c * den)) (lN_mul _ _) ?_
    refine v_callV (as := [.long (lN num), .long (lN (c * den))]) (rest := []) (ws' := fun u => [(d, .inr (0, [.ref w, .int (nI fr), .int (nI u.2.1), .int (nI e), .int (dI u.2.2)])), (w, .inl (cI, n, .inl f))]) m_Dice_40 (kX0_coin X.l (d := d) (w := w) (n := n) (f := f) (fr := fr) (p := p) (e := e) (dr := dr) (num := num) (den := (c * den)) (by omega) he hn hdr (by omega) (by omega)) k_code_X0_coin [0, 1] 0 rfl rfl rfl rfl dX0_unitExponentialCoin_17 (Nat.le_of_ble_eq_true rfl) ⟨rfl, rfl, by decide, by decide⟩ ⟨Nat.zero_le _, Nat.zero_le _⟩ rfl rfl (fun _ => rfl) (fun _ => rfl) ?_
    intro u17 c17
    obtain ⟨r1, p1, d1⟩ := u17
    try dsimp only at c17
    show V (gG D cI cJ cT) X (rmD 2) cX0_unitExponentialCoin 6 RX0 [(d, .inr (0, [.ref w, .int (nI fr), .int (nI p1), .int (nI e), .int (dI d1)])), (w, .inl (cI, n, .inl f))] 0 0 [(0, .ref d), (1, .long (lN num)), (3, .long (lN den)), (5, .int (nI c))] 20 [.int (nI r1)]
    have hr1 : r1 ≤ 1 := c17.2.1
    refine v_iconst (v := nI 1) dX0_unitExponentialCoin_20 (by decide) ?_
    refine v_icmp_ne (tgt := 30) dX0_unitExponentialCoin_21 (by decide) (fun b21 => ?_) (fun b21 => ?_)
    · have b21 : ¬ (r1 = 1) := fun q => b21 ((nI_eq (by omega) (by decide)).mpr q)
      refine v_aload_n 0 dX0_unitExponentialCoin_30 rfl rfl ?_
      refine v_get f_Dice_31 0 rfl rfl dX0_unitExponentialCoin_31 ?_
      refine v_if_eq (tgt := 41) dX0_unitExponentialCoin_34 (by decide) (fun b34 => ?_) (fun b34 => ?_)
      · have b34 : d1 = false := (dI_0 d1).mp b34
        refine v_iload 3 dX0_unitExponentialCoin_41 rfl ?_
        refine v_iconst (v := nI 2) dX0_unitExponentialCoin_43 (by decide) ?_
        refine v_irem dX0_unitExponentialCoin_44 (by decide) ?_
        refine v_topi (y := nI (c % 2)) (pk_rem (by omega) (by decide) (by decide)) ?_
        exact v_iret hE dX0_unitExponentialCoin_45 (c % 2, p1, d1) (hq _ ⟨sUex_out c17.1 b21 b34, Nat.le_of_lt_succ (Nat.mod_lt _ (by decide)), fun h => absurd (b34.symm.trans h) (by decide)⟩) rfl rfl
      · have b34 : ¬ (d1 = false) := fun q => b34 ((dI_0 d1).mpr q)
        refine v_iconst (v := nI 0) dX0_unitExponentialCoin_37 (by decide) ?_
        refine v_goto (tgt := 45) dX0_unitExponentialCoin_38 (by decide) ?_
        exact v_iret hE dX0_unitExponentialCoin_45 (0, p1, d1) (hq _ ⟨sUex_dry c17.1 (by simpa using b34), Nat.zero_le _, fun _ => rfl⟩) rfl rfl
    · have b21 : r1 = 1 := (nI_eq (by omega) (by decide)).mp b21
      have ha := uex_step hc hnum hden0 hk c17.1 c17.2.2.1 c17.2.2.2 b21
      refine v_iinc (lv' := [(5, .int (nI (c + 1))), (0, .ref d), (1, .long (lN num)), (3, .long (lN den))]) (v := nI (c + 1)) 3 dX0_unitExponentialCoin_24 rfl (nI_1 c) (by decide) rfl ?_
      refine v_goto (tgt := 3) dX0_unitExponentialCoin_27 (by decide) ?_
      refine v_lv [1, 2, 3, 0] rfl ?_
      exact ih (c + 1) p1 d1 (by omega) ha (Rl_p c17.1).2.1 (Rl_p c17.1).2.2 (by omega) (fun u hu => hq u ⟨sUex_go c17.1 b21 hu.1, hu.2⟩)
set_option maxRecDepth 100000 in
set_option maxHeartbeats 4000000 in
theorem kX0_unitExponentialCoin {D : va_G} {cI cJ cT : ClassId} (l : Launch) {d w n : Nat} {f : Nat → Int32} {fr p e : Nat} {dr : Bool} {num den : Nat} (hp : p ≤ e) (he : e ≤ 32 * n) (hn : n ≤ 512) (hdr : dr = true → p = e) (hden0 : 0 < den) (hnum : num ≤ den) (hden : den < 2 ^ 44) : Fn (S := Nat × Nat × Bool) (gG D cI cJ cT) l yX0_unitExponentialCoin (.code yX0_unitExponentialCoin cX0_unitExponentialCoin 6 (some .int)) (rmD 2) [.ref d, .long (lN num), .long (lN den)] [(d, .inr (0, [.ref w, .int (nI fr), .int (nI p), .int (nI e), .int (dI dr)])), (w, .inl (cI, n, .inl f))] (fun u => Rl (sUex (bitW f) e num den p) e p dr u ∧ u.1 ≤ 1 ∧ (u.2.2 = true → u.1 = 0)) (fun u => some (.int (nI u.1))) (fun u => [(d, .inr (0, [.ref w, .int (nI fr), .int (nI u.2.1), .int (nI e), .int (dI u.2.2)])), (w, .inl (cI, n, .inl f))]) := by
  refine Fn.intro (by decide) (Nat.le_of_ble_eq_true rfl) ?_
  intro X hX hE hin
  subst hX
  show V (gG D cI cJ cT) X _ cX0_unitExponentialCoin 6 RX0 _ 0 0 [(0, .ref d), (1, .long (lN num)), (3, .long (lN den))] 0 []
  refine v_iconst (v := nI 1) dX0_unitExponentialCoin_0 (by decide) ?_
  refine v_istore (lv' := [(5, .int (nI 1)), (0, .ref d), (1, .long (lN num)), (3, .long (lN den))]) dX0_unitExponentialCoin_1 (by decide) rfl ?_
  refine v_lv [1, 2, 3, 0] rfl ?_
  exact kX0_uex_loop he hn hden0 hnum hden hE (e - p + 2) 1 p dr (by omega) (by rw [if_pos rfl]; omega) hp hdr (by omega) (fun u hu => hu)
theorem exp_adv {b : Nat → Nat} {e p r1 p1 : Nat} {dr d1 : Bool} (h1 : Rl (sUex b e 1 1 p) e p dr (r1, p1, d1)) (hz : d1 = true → r1 = 0) (hr : ¬ r1 = 0) : p < p1 := by
  cases hd1 : d1
  · obtain ⟨a, c, -, -⟩ := Rl_f h1 hd1
    exact sUex_gt11 c
  · exact absurd (hz hd1) hr
set_option maxRecDepth 100000 in
set_option maxHeartbeats 4000000 in
theorem kX0_exp_loop {D : va_G} {cI cJ cT : ClassId} {X : vX} {d w n : Nat} {f : Nat → Int32} {fr e : Nat} {num den : Nat} (he : e ≤ 32 * n) (hn : n ≤ 512) (hden0 : 0 < den) (hden : den < 2 ^ 44) {W0 : va_W} {post : Nat × Nat × Bool → Prop} (hE : vE (gG D cI cJ cT) X (some .int) W0 post (fun u => some (.int (nI u.1))) (fun u => [(d, .inr (0, [.ref w, .int (nI fr), .int (nI u.2.1), .int (nI e), .int (dI u.2.2)])), (w, .inl (cI, n, .inl f))])) :
    ∀ (k : Nat) (left : Nat) (p : Nat) (j : Nat) (dr : Bool), left < 2 ^ 62 → e - p < k → p ≤ e → (dr = true → p = e) → j + k ≤ 100000 → (∀ u, Rl (sExpL (bitW f) e den k left p) e p dr u ∧ u.1 ≤ 1 ∧ (u.2.2 = true → u.1 = 0) → post u) → V (gG D cI cJ cT) X (rmD 3) cX0_exponentialCoin 8 RX0 [(d, .inr (0, [.ref w, .int (nI fr), .int (nI p), .int (nI e), .int (dI dr)])), (w, .inl (cI, n, .inl f))] 0 0 [(0, .ref d), (1, .long (lN num)), (3, .long (lN den)), (5, .long (lN left)), (7, .int (nI j))] 6 [] := by
  intro k
  induction k with
  | zero => intro left p j dr hl hk hp hdr hj hq; omega
  | succ k ih =>
    intro left p j dr hl hk hp hdr hj hq
    refine v_iload 4 dX0_exponentialCoin_6 rfl ?_
    refine v_ldc (v := nI 1000000) k_c_Dice_35 dX0_exponentialCoin_8 ?_
    refine v_icmp_ge (tgt := 43) dX0_exponentialCoin_10 (by decide) (fun b10 => absurd b10 (fun q => absurd ((nI_leI (by decide) (by omega)).mp q) (by omega))) (fun b10 => ?_)
    refine v_lload 3 dX0_exponentialCoin_13 rfl ?_
    refine v_lload_n 2 dX0_exponentialCoin_15 rfl rfl ?_
    refine v_lcmp dX0_exponentialCoin_16 ?_
    refine v_if_lt (tgt := 43) dX0_exponentialCoin_17 (by decide) (fun b17 => ?_) (fun b17 => ?_)
    · have b17 : left < den := (z_lt (by omega) (by omega)).mp b17
      refine v_aload_n 0 dX0_exponentialCoin_43 rfl rfl ?_
      refine v_lload 3 dX0_exponentialCoin_44 rfl ?_
      refine v_lload_n 2 dX0_exponentialCoin_46 rfl rfl ?_
      refine v_callV (as := [.long (lN left), .long (lN den)]) (rest := []) (ws' := fun u => [(d, .inr (0, [.ref w, .int (nI fr), .int (nI u.2.1), .int (nI e), .int (dI u.2.2)])), (w, .inl (cI, n, .inl f))]) m_Dice_44 (kX0_unitExponentialCoin X.l (d := d) (w := w) (n := n) (f := f) (fr := fr) (p := p) (e := e) (dr := dr) (num := left) (den := den) (by omega) he hn hdr (by omega) (by omega) (by omega)) k_code_X0_unitExponentialCoin [0, 1] 0 rfl rfl rfl rfl dX0_exponentialCoin_47 (Nat.le_of_ble_eq_true rfl) ⟨rfl, rfl, by decide, by decide⟩ ⟨Nat.zero_le _, Nat.zero_le _⟩ rfl rfl (fun _ => rfl) (fun _ => rfl) ?_
      intro u47 c47
      obtain ⟨r1, p1, d1⟩ := u47
      try dsimp only at c47
      show V (gG D cI cJ cT) X (rmD 3) cX0_exponentialCoin 8 RX0 [(d, .inr (0, [.ref w, .int (nI fr), .int (nI p1), .int (nI e), .int (dI d1)])), (w, .inl (cI, n, .inl f))] 0 0 [(0, .ref d), (1, .long (lN num)), (3, .long (lN den)), (5, .long (lN left)), (7, .int (nI j))] 50 [.int (nI r1)]
      exact v_iret hE dX0_exponentialCoin_50 (r1, p1, d1) (hq _ (by rw [sExp_end (by omega)]; exact c47)) rfl rfl
    · have b17 : ¬ (left < den) := fun q => b17 ((z_lt (by omega) (by omega)).mpr q)
      refine v_aload_n 0 dX0_exponentialCoin_20 rfl rfl ?_
      refine v_lconst (v := lN 1) dX0_exponentialCoin_21 (by decide) ?_
      refine v_lconst (v := lN 1) dX0_exponentialCoin_22 (by decide) ?_
      refine v_callV (as := [.long (lN 1), .long (lN 1)]) (rest := []) (ws' := fun u => [(d, .inr (0, [.ref w, .int (nI fr), .int (nI u.2.1), .int (nI e), .int (dI u.2.2)])), (w, .inl (cI, n, .inl f))]) m_Dice_44 (kX0_unitExponentialCoin X.l (d := d) (w := w) (n := n) (f := f) (fr := fr) (p := p) (e := e) (dr := dr) (num := 1) (den := 1) (by omega) he hn hdr (by omega) (by omega) (by omega)) k_code_X0_unitExponentialCoin [0, 1] 0 rfl rfl rfl rfl dX0_exponentialCoin_23 (Nat.le_of_ble_eq_true rfl) ⟨rfl, rfl, by decide, by decide⟩ ⟨Nat.zero_le _, Nat.zero_le _⟩ rfl rfl (fun _ => rfl) (fun _ => rfl) ?_
      intro u23 c23
      obtain ⟨r1, p1, d1⟩ := u23
      try dsimp only at c23
      show V (gG D cI cJ cT) X (rmD 3) cX0_exponentialCoin 8 RX0 [(d, .inr (0, [.ref w, .int (nI fr), .int (nI p1), .int (nI e), .int (dI d1)])), (w, .inl (cI, n, .inl f))] 0 0 [(0, .ref d), (1, .long (lN num)), (3, .long (lN den)), (5, .long (lN left)), (7, .int (nI j))] 26 [.int (nI r1)]
      have hr1 : r1 ≤ 1 := c23.2.1
      refine v_topi (y := nI r1) (rfl) ?_
      refine v_if_ne (tgt := 31) dX0_exponentialCoin_26 (by decide) (fun b26 => ?_) (fun b26 => ?_)
      · have b26 : ¬ (r1 = 0) := fun q => b26 (((show nI r1 = 0 ↔ r1 = 0 from nI_eq (b := 0) (by omega) (by decide))).mpr q)
        have ha := exp_adv c23.1 c23.2.2 b26
        have hp1 := (Rl_p c23.1).2.1
        refine v_lload 3 dX0_exponentialCoin_31 rfl ?_
        refine v_lload_n 2 dX0_exponentialCoin_33 rfl rfl ?_
        refine v_lsub dX0_exponentialCoin_34 ?_
        refine v_topl (y := lN (left - den)) (lN_sub (by omega)) ?_
        refine v_lstore (lv' := [(5, .long (lN (left - den))), (0, .ref d), (1, .long (lN num)), (3, .long (lN den)), (7, .int (nI j))]) dX0_exponentialCoin_35 (by decide) rfl ?_
        refine v_iinc (lv' := [(7, .int (nI (j + 1))), (5, .long (lN (left - den))), (0, .ref d), (1, .long (lN num)), (3, .long (lN den))]) (v := nI (j + 1)) 4 dX0_exponentialCoin_37 rfl (nI_1 j) (by decide) rfl ?_
        refine v_goto (tgt := 6) dX0_exponentialCoin_40 (by decide) ?_
        refine v_lv [2, 3, 4, 1, 0] rfl ?_
        exact ih (left - den) p1 (j + 1) d1 (by omega) (by omega) hp1 (Rl_p c23.1).2.2 (by omega) (fun u hu => hq u ⟨sExp_go (by omega) c23.1 b26 hu.1, hu.2⟩)
      · have b26 : r1 = 0 := ((show nI r1 = 0 ↔ r1 = 0 from nI_eq (b := 0) (by omega) (by decide))).mp b26
        refine v_iconst (v := nI 0) dX0_exponentialCoin_29 (by decide) ?_
        exact v_iret hE dX0_exponentialCoin_30 (0, p1, d1) (hq _ ⟨sExp_out (by omega) c23.1 b26, Nat.zero_le _, fun _ => rfl⟩) rfl rfl
set_option maxRecDepth 100000 in
set_option maxHeartbeats 4000000 in
theorem kX0_exponentialCoin {D : va_G} {cI cJ cT : ClassId} (l : Launch) {d w n : Nat} {f : Nat → Int32} {fr p e : Nat} {dr : Bool} {num den : Nat} (hp : p ≤ e) (he : e ≤ 32 * n) (hn : n ≤ 512) (hdr : dr = true → p = e) (hden0 : 0 < den) (hnum : num < 2 ^ 62) (hden : den < 2 ^ 44) : Fn (S := Nat × Nat × Bool) (gG D cI cJ cT) l yX0_exponentialCoin (.code yX0_exponentialCoin cX0_exponentialCoin 8 (some .int)) (rmD 3) [.ref d, .long (lN num), .long (lN den)] [(d, .inr (0, [.ref w, .int (nI fr), .int (nI p), .int (nI e), .int (dI dr)])), (w, .inl (cI, n, .inl f))] (fun u => Rl (sExp (bitW f) e num den p) e p dr u ∧ u.1 ≤ 1 ∧ (u.2.2 = true → u.1 = 0)) (fun u => some (.int (nI u.1))) (fun u => [(d, .inr (0, [.ref w, .int (nI fr), .int (nI u.2.1), .int (nI e), .int (dI u.2.2)])), (w, .inl (cI, n, .inl f))]) := by
  refine Fn.intro (by decide) (Nat.le_of_ble_eq_true rfl) ?_
  intro X hX hE hin
  subst hX
  show V (gG D cI cJ cT) X _ cX0_exponentialCoin 8 RX0 _ 0 0 [(0, .ref d), (1, .long (lN num)), (3, .long (lN den))] 0 []
  refine v_lload_n 1 dX0_exponentialCoin_0 rfl rfl ?_
  refine v_lstore (lv' := [(5, .long (lN num)), (0, .ref d), (1, .long (lN num)), (3, .long (lN den))]) dX0_exponentialCoin_1 (by decide) rfl ?_
  refine v_iconst (v := nI 0) dX0_exponentialCoin_3 (by decide) ?_
  refine v_istore (lv' := [(7, .int (nI 0)), (5, .long (lN num)), (0, .ref d), (1, .long (lN num)), (3, .long (lN den))]) dX0_exponentialCoin_4 (by decide) rfl ?_
  refine v_lv [2, 3, 4, 1, 0] rfl ?_
  exact kX0_exp_loop he hn hden0 hden hE (e - p + 1) num p 0 dr (by omega) (by omega) hp hdr (by omega) (fun u hu => hu)
set_option maxRecDepth 100000 in
set_option maxHeartbeats 4000000 in
theorem kX0_bitsRead {D : va_G} {cI cJ cT : ClassId} (l : Launch) {d w n : Nat} {f : Nat → Int32} {fr p e : Nat} {dr : Bool} (hfp : fr ≤ p) : Fn (S := Unit) (gG D cI cJ cT) l yX0_bitsRead (.code yX0_bitsRead cX0_bitsRead 1 (some .int)) (rmD 0) [.ref d] [(d, .inr (0, [.ref w, .int (nI fr), .int (nI p), .int (nI e), .int (dI dr)])), (w, .inl (cI, n, .inl f))] (fun _ => True) (fun u => some (.int (nI (p - fr)))) (fun u => [(d, .inr (0, [.ref w, .int (nI fr), .int (nI p), .int (nI e), .int (dI dr)])), (w, .inl (cI, n, .inl f))]) := by
  refine Fn.intro (by decide) (Nat.le_of_ble_eq_true rfl) ?_
  intro X hX hE hin
  subst hX
  show V (gG D cI cJ cT) X _ cX0_bitsRead 1 RX0 _ 0 0 [(0, .ref d)] 0 []
  refine v_aload_n 0 dX0_bitsRead_0 rfl rfl ?_
  refine v_get f_Dice_19 0 rfl rfl dX0_bitsRead_1 ?_
  refine v_aload_n 0 dX0_bitsRead_4 rfl rfl ?_
  refine v_get f_Dice_15 0 rfl rfl dX0_bitsRead_5 ?_
  refine v_isub dX0_bitsRead_8 ?_
  refine v_topi (y := nI (p - fr)) (pk_sub hfp) ?_
  exact v_iret hE dX0_bitsRead_9 () (trivial) rfl rfl
