set_option maxRecDepth 100000 in
set_option maxHeartbeats 4000000 in
theorem kX0_nextBit {D : va_G} {cI cJ cT : ClassId} (l : Launch) {d w n : Nat} {f : Nat → Int32} {fr p e : Nat} {dr : Bool} (hp : p ≤ e) (he : e ≤ 32 * n) (hn : n ≤ 512) : Fn (S := Nat × Nat × Bool) (gG D cI cJ cT) l yX0_nextBit (.code yX0_nextBit cX0_nextBit 2 (some .int)) (rmD 0) [.ref d] [(d, .inr (0, [.ref w, .int (nI fr), .int (nI p), .int (nI e), .int (dI dr)])), (w, .inl (cI, n, .inl f))] (Rbit (bitW f) e p dr) (fun u => some (.int (nI u.1))) (fun u => [(d, .inr (0, [.ref w, .int (nI fr), .int (nI u.2.1), .int (nI e), .int (dI u.2.2)])), (w, .inl (cI, n, .inl f))]) := by
  refine Fn.intro (by decide) (Nat.le_of_ble_eq_true rfl) ?_
  intro X hX hE hin
  subst hX
  show V (gG D cI cJ cT) X _ cX0_nextBit 2 RX0 _ 0 0 [(0, .ref d)] 0 []
  refine v_aload_n 0 dX0_nextBit_0 rfl rfl ?_
  refine v_get f_Dice_19 0 rfl rfl dX0_nextBit_1 ?_
  refine v_if_lt (tgt := 18) dX0_nextBit_4 (by decide) (fun b4 => absurd b4 (nI_pos (by omega))) (fun b4 => ?_)
  refine v_aload_n 0 dX0_nextBit_7 rfl rfl ?_
  refine v_get f_Dice_19 0 rfl rfl dX0_nextBit_8 ?_
  refine v_aload_n 0 dX0_nextBit_11 rfl rfl ?_
  refine v_get f_Dice_28 0 rfl rfl dX0_nextBit_12 ?_
  refine v_icmp_lt (tgt := 25) dX0_nextBit_15 (by decide) (fun b15 => ?_) (fun b15 => ?_)
  · have b15 : p < e := (nI_ltI (by omega) (by omega)).mp b15
    refine v_aload_n 0 dX0_nextBit_25 rfl rfl ?_
    refine v_get f_Dice_9 0 rfl rfl dX0_nextBit_26 ?_
    refine v_aload_n 0 dX0_nextBit_29 rfl rfl ?_
    refine v_get f_Dice_19 0 rfl rfl dX0_nextBit_30 ?_
    refine v_bipush (v := nI 32) dX0_nextBit_33 (by decide) ?_
    refine v_idiv dX0_nextBit_35 (by decide) ?_
    refine v_topi (y := nI (p / 32)) (pk_div (by omega) (by decide) (by decide)) ?_
    refine v_iald 0 1 rfl rfl (by omega) (by omega) dX0_nextBit_36 ?_
    refine v_bipush (v := nI 31) dX0_nextBit_37 (by decide) ?_
    refine v_aload_n 0 dX0_nextBit_39 rfl rfl ?_
    refine v_get f_Dice_19 0 rfl rfl dX0_nextBit_40 ?_
    refine v_bipush (v := nI 32) dX0_nextBit_43 (by decide) ?_
    refine v_irem dX0_nextBit_45 (by decide) ?_
    refine v_topi (y := nI (p % 32)) (pk_rem (by omega) (by decide) (by decide)) ?_
    refine v_isub dX0_nextBit_46 ?_
    refine v_topi (y := nI (31 - p % 32)) (pk_sub (by omega)) ?_
    refine v_iushr (v := ((f ((p / 32))).toUInt32 >>> ((nI (31 - p % 32)).toUInt32 &&& Int32.toUInt32 31)).toInt32) dX0_nextBit_47 (rfl) ?_
    refine v_iconst (v := nI 1) dX0_nextBit_48 (by decide) ?_
    refine v_iand dX0_nextBit_49 ?_
    refine v_topi (y := nI (bitW f p)) (bitW_eq _ (by omega)) ?_
    refine v_istore_n (lv' := [(1, .int (nI (bitW f p))), (0, .ref d)]) dX0_nextBit_50 rfl (by decide) rfl ?_
    refine v_aload_n 1 dX0_nextBit_51 rfl rfl ?_
    refine v_dup dX0_nextBit_52 rfl ?_
    refine v_get f_Dice_19 0 rfl rfl dX0_nextBit_53 ?_
    refine v_iconst (v := 1) dX0_nextBit_56 (by decide) ?_
    refine v_iadd dX0_nextBit_57 ?_
    refine v_topi (y := nI (p + 1)) (nI_1 p) ?_
    refine v_put (ws' := [(d, .inr (0, [.ref w, .int (nI fr), .int (nI (p + 1)), .int (nI e), .int (dI dr)])), (w, .inl (cI, n, .inl f))]) fw_Dice_19 0 rfl (rfl) (rfl) (Nat.le_of_ble_eq_true rfl) dX0_nextBit_58 rfl ?_
    refine v_iload_n 0 dX0_nextBit_61 rfl rfl ?_
    exact v_iret hE dX0_nextBit_62 (bitW f p, p + 1, dr) (Or.inl ⟨b15, rfl⟩) rfl rfl
  · have b15 : ¬ (p < e) := fun q => b15 ((nI_ltI (by omega) (by omega)).mpr q)
    refine v_aload_n 0 dX0_nextBit_18 rfl rfl ?_
    refine v_iconst (v := 1) dX0_nextBit_19 (by decide) ?_
    refine v_put (ws' := [(d, .inr (0, [.ref w, .int (nI fr), .int (nI p), .int (nI e), .int 1])), (w, .inl (cI, n, .inl f))]) fw_Dice_31 0 rfl (rfl) (rfl) (Nat.le_of_ble_eq_true rfl) dX0_nextBit_20 rfl ?_
    refine v_iconst (v := 0) dX0_nextBit_23 (by decide) ?_
    exact v_iret hE dX0_nextBit_24 (0, p, true) (Or.inr ⟨b15, rfl⟩) rfl rfl
set_option maxRecDepth 100000 in
set_option maxHeartbeats 4000000 in
theorem kX0_coin_loop {D : va_G} {cI cJ cT : ClassId} {X : vX} {d w n : Nat} {f : Nat → Int32} {fr e : Nat} {num den : Nat} (he : e ≤ 32 * n) (hn : n ≤ 512) (hden : den < 2 ^ 62) {W0 : va_W} {post : Nat × Nat × Bool → Prop} (hE : vE (gG D cI cJ cT) X (some .int) W0 post (fun u => some (.int (nI u.1))) (fun u => [(d, .inr (0, [.ref w, .int (nI fr), .int (nI u.2.1), .int (nI e), .int (dI u.2.2)])), (w, .inl (cI, n, .inl f))])) :
    ∀ (k r p j : Nat) (dr : Bool), 0 < r → r < den → e - p < k → p ≤ e → (dr = true → p = e) → j + k ≤ 500000 → (∀ u, Rl (sCoinL (bitW f) e den k r p) e p dr u ∧ u.1 ≤ 1 ∧ (u.2.2 = true → u.1 = 0) → post u) → V (gG D cI cJ cT) X (rmD 1) cX0_coin 10 RX0 [(d, .inr (0, [.ref w, .int (nI fr), .int (nI p), .int (nI e), .int (dI dr)])), (w, .inl (cI, n, .inl f))] 0 0 [(0, .ref d), (1, .long (lN num)), (3, .long (lN den)), (5, .long (lN r)), (7, .int (nI j))] 30 [] := by
  intro k
  induction k with
  | zero => intro r p j dr h1 h2 h3; omega
  | succ k ih =>
    intro r p j dr h0 hr hk hp hdr hj hq
    refine v_iload 4 dX0_coin_30 rfl ?_
    refine v_ldc (v := nI 1000000) k_c_Dice_35 dX0_coin_32 ?_
    refine v_icmp_ge (tgt := 108) dX0_coin_34 (by decide) (fun b34 => absurd b34 (fun q => absurd ((nI_leI (by decide) (by omega)).mp q) (by omega))) (fun b34 => ?_)
    refine v_lload 3 dX0_coin_37 rfl ?_
    refine v_lload 3 dX0_coin_39 rfl ?_
    refine v_ladd dX0_coin_41 ?_
    refine v_topl (y := lN (2 * r)) (lN_dbl r) ?_
    refine v_lstore (lv' := [(5, .long (lN (2 * r))), (0, .ref d), (1, .long (lN num)), (3, .long (lN den)), (7, .int (nI j))]) dX0_coin_42 (by decide) rfl ?_
    refine v_lload 0 dX0_coin_44 rfl ?_
    refine v_lload_n 3 dX0_coin_46 rfl rfl ?_
    refine v_lcmp dX0_coin_47 ?_
    refine v_if_lt (tgt := 55) dX0_coin_48 (by decide) (fun b48 => ?_) (fun b48 => ?_)
    · have b48 : 2 * r < den := (z_lt (by omega) (by omega)).mp b48
      refine v_iconst (v := nI 0) dX0_coin_55 (by decide) ?_
      refine v_istore (lv' := [(8, .int (nI 0)), (5, .long (lN (2 * r))), (0, .ref d), (1, .long (lN num)), (3, .long (lN den)), (7, .int (nI j))]) dX0_coin_56 (by decide) rfl ?_
      refine v_lload 1 dX0_coin_58 rfl ?_
      refine v_iload 0 dX0_coin_60 rfl ?_
      refine v_i2l (v := lN 0) dX0_coin_62 (nI_l (by omega)) ?_
      refine v_lload_n 4 dX0_coin_63 rfl rfl ?_
      refine v_lmul dX0_coin_64 ?_
      refine v_topl (y := lN 0) (by rw [lN_mul, Nat.zero_mul]) ?_
      refine v_lsub dX0_coin_65 ?_
      refine v_topl (y := lN (2 * r)) (lN_sub (Nat.zero_le _)) ?_
      refine v_lstore (lv' := [(5, .long (lN (2 * r))), (8, .int (nI 0)), (0, .ref d), (1, .long (lN num)), (3, .long (lN den)), (7, .int (nI j))]) dX0_coin_66 (by decide) rfl ?_
      refine v_aload_n 2 dX0_coin_68 rfl rfl ?_
      refine v_callV (as := []) (rest := []) (ws' := fun u => [(d, .inr (0, [.ref w, .int (nI fr), .int (nI u.2.1), .int (nI e), .int (dI u.2.2)])), (w, .inl (cI, n, .inl f))]) m_Dice_36 (kX0_nextBit X.l (d := d) (w := w) (n := n) (f := f) (fr := fr) (p := p) (e := e) (dr := dr) (by omega) he hn) k_code_X0_nextBit [0, 1] 0 rfl rfl rfl rfl dX0_coin_69 (Nat.le_of_ble_eq_true rfl) ⟨rfl, rfl, by decide, by decide⟩ ⟨Nat.zero_le _, Nat.zero_le _⟩ rfl rfl (fun _ => rfl) (fun _ => rfl) ?_
      intro u69 c69
      obtain ⟨r1, p1, d1⟩ := u69
      try dsimp only at c69
      show V (gG D cI cJ cT) X (rmD 1) cX0_coin 10 RX0 [(d, .inr (0, [.ref w, .int (nI fr), .int (nI p1), .int (nI e), .int (dI d1)])), (w, .inl (cI, n, .inl f))] 0 0 [(5, .long (lN (2 * r))), (8, .int (nI 0)), (0, .ref d), (1, .long (lN num)), (3, .long (lN den)), (7, .int (nI j))] 72 [.int (nI r1)]
      refine v_istore (lv' := [(9, .int (nI r1)), (5, .long (lN (2 * r))), (8, .int (nI 0)), (0, .ref d), (1, .long (lN num)), (3, .long (lN den)), (7, .int (nI j))]) dX0_coin_72 (by decide) rfl ?_
      refine v_aload_n 3 dX0_coin_74 rfl rfl ?_
      refine v_get f_Dice_31 0 rfl rfl dX0_coin_75 ?_
      refine v_if_eq (tgt := 83) dX0_coin_78 (by decide) (fun b78 => ?_) (fun b78 => ?_)
      · have b78 : d1 = false := (dI_0 d1).mp b78
        have hb1 : p < e ∧ r1 = bitW f p ∧ p1 = p + 1 ∧ dr = false := Rbit_f (by rw [b78] at c69; exact c69)
        have hr1 : r1 < 2 := by rw [hb1.2.1]; exact bitW_lt f p
        refine v_iload 0 dX0_coin_83 rfl ?_
        refine v_iload 2 dX0_coin_85 rfl ?_
        refine v_icmp_eq (tgt := 93) dX0_coin_87 (by decide) (fun b87 => ?_) (fun b87 => ?_)
        · have b87 : r1 = 0 := (nI_eq (by omega) (by decide)).mp b87
          refine v_lload 1 dX0_coin_93 rfl ?_
          refine v_lconst (v := lN 0) dX0_coin_95 (by decide) ?_
          refine v_lcmp dX0_coin_96 ?_
          refine v_if_ne (tgt := 102) dX0_coin_97 (by decide) (fun b97 => ?_) (fun b97 => ?_)
          · have b97 : ¬ (2 * r = 0) := fun q => b97 ((z_eq (by omega) (by decide)).mpr q)
            refine v_iinc (lv' := [(7, .int (nI (j + 1))), (9, .int (nI r1)), (5, .long (lN (2 * r))), (8, .int (nI 0)), (0, .ref d), (1, .long (lN num)), (3, .long (lN den))]) (v := nI (j + 1)) 6 dX0_coin_102 rfl (nI_1 j) (by decide) rfl ?_
            refine v_goto (tgt := 30) dX0_coin_105 (by decide) ?_
            refine v_lv [4, 5, 6, 2, 0] rfl ?_
            exact ih (2 * r) p1 (j + 1) d1 (by omega) (by omega) (by omega) (by omega) (fun h => by rw [b78] at h; cases h) (by omega) (fun u hu => hq u ⟨sCoin_go0 hb1 b48 b87 b97 b78 hu.1, hu.2⟩)
          · have b97 : 2 * r = 0 := (z_eq (by omega) (by decide)).mp b97
            refine v_iconst (v := 0) dX0_coin_100 (by decide) ?_
            exact v_iret hE dX0_coin_101 (0, p1, d1) (hq _ ⟨sCoin_end0 hb1 b48 b87 b97 b78, Nat.le_of_ble_eq_true rfl, fun _ => rfl⟩) rfl rfl
        · have b87 : ¬ (r1 = 0) := fun q => b87 ((nI_eq (by omega) (by decide)).mpr q)
          refine v_iload 2 dX0_coin_90 rfl ?_
          exact v_iret hE dX0_coin_92 (0, p1, d1) (hq _ ⟨sCoin_out0 hb1 b48 b87 b78, Nat.le_of_ble_eq_true rfl, fun h => absurd (b78.symm.trans h) (by decide)⟩) rfl rfl
      · have b78 : ¬ (d1 = false) := fun q => b78 ((dI_0 d1).mpr q)
        have hb1 : p = e ∧ p1 = e ∧ d1 = true := Rbit_t hp hdr c69 (by simpa using b78)
        refine v_iconst (v := 0) dX0_coin_81 (by decide) ?_
        exact v_iret hE dX0_coin_82 (0, p1, d1) (hq _ ⟨Rl_dry hb1 (sCoin_dry hb1.1), Nat.zero_le _, fun _ => rfl⟩) rfl rfl
    · have b48 : ¬ (2 * r < den) := fun q => b48 ((z_lt (by omega) (by omega)).mpr q)
      refine v_iconst (v := nI 1) dX0_coin_51 (by decide) ?_
      refine v_goto (tgt := 56) dX0_coin_52 (by decide) ?_
      refine v_istore (lv' := [(8, .int (nI 1)), (5, .long (lN (2 * r))), (0, .ref d), (1, .long (lN num)), (3, .long (lN den)), (7, .int (nI j))]) dX0_coin_56 (by decide) rfl ?_
      refine v_lload 1 dX0_coin_58 rfl ?_
      refine v_iload 0 dX0_coin_60 rfl ?_
      refine v_i2l (v := lN 1) dX0_coin_62 (nI_l (by omega)) ?_
      refine v_lload_n 4 dX0_coin_63 rfl rfl ?_
      refine v_lmul dX0_coin_64 ?_
      refine v_topl (y := lN den) (by rw [lN_mul, Nat.one_mul]) ?_
      refine v_lsub dX0_coin_65 ?_
      refine v_topl (y := lN (2 * r - den)) (lN_sub (by omega)) ?_
      refine v_lstore (lv' := [(5, .long (lN (2 * r - den))), (8, .int (nI 1)), (0, .ref d), (1, .long (lN num)), (3, .long (lN den)), (7, .int (nI j))]) dX0_coin_66 (by decide) rfl ?_
      refine v_aload_n 2 dX0_coin_68 rfl rfl ?_
      refine v_callV (as := []) (rest := []) (ws' := fun u => [(d, .inr (0, [.ref w, .int (nI fr), .int (nI u.2.1), .int (nI e), .int (dI u.2.2)])), (w, .inl (cI, n, .inl f))]) m_Dice_36 (kX0_nextBit X.l (d := d) (w := w) (n := n) (f := f) (fr := fr) (p := p) (e := e) (dr := dr) (by omega) he hn) k_code_X0_nextBit [0, 1] 0 rfl rfl rfl rfl dX0_coin_69 (Nat.le_of_ble_eq_true rfl) ⟨rfl, rfl, by decide, by decide⟩ ⟨Nat.zero_le _, Nat.zero_le _⟩ rfl rfl (fun _ => rfl) (fun _ => rfl) ?_
      intro u69 c69
      obtain ⟨r1, p1, d1⟩ := u69
      try dsimp only at c69
      show V (gG D cI cJ cT) X (rmD 1) cX0_coin 10 RX0 [(d, .inr (0, [.ref w, .int (nI fr), .int (nI p1), .int (nI e), .int (dI d1)])), (w, .inl (cI, n, .inl f))] 0 0 [(5, .long (lN (2 * r - den))), (8, .int (nI 1)), (0, .ref d), (1, .long (lN num)), (3, .long (lN den)), (7, .int (nI j))] 72 [.int (nI r1)]
      refine v_istore (lv' := [(9, .int (nI r1)), (5, .long (lN (2 * r - den))), (8, .int (nI 1)), (0, .ref d), (1, .long (lN num)), (3, .long (lN den)), (7, .int (nI j))]) dX0_coin_72 (by decide) rfl ?_
      refine v_aload_n 3 dX0_coin_74 rfl rfl ?_
      refine v_get f_Dice_31 0 rfl rfl dX0_coin_75 ?_
      refine v_if_eq (tgt := 83) dX0_coin_78 (by decide) (fun b78 => ?_) (fun b78 => ?_)
      · have b78 : d1 = false := (dI_0 d1).mp b78
        have hb1 : p < e ∧ r1 = bitW f p ∧ p1 = p + 1 ∧ dr = false := Rbit_f (by rw [b78] at c69; exact c69)
        have hr1 : r1 < 2 := by rw [hb1.2.1]; exact bitW_lt f p
        refine v_iload 0 dX0_coin_83 rfl ?_
        refine v_iload 2 dX0_coin_85 rfl ?_
        refine v_icmp_eq (tgt := 93) dX0_coin_87 (by decide) (fun b87 => ?_) (fun b87 => ?_)
        · have b87 : r1 = 1 := (nI_eq (by omega) (by decide)).mp b87
          refine v_lload 1 dX0_coin_93 rfl ?_
          refine v_lconst (v := lN 0) dX0_coin_95 (by decide) ?_
          refine v_lcmp dX0_coin_96 ?_
          refine v_if_ne (tgt := 102) dX0_coin_97 (by decide) (fun b97 => ?_) (fun b97 => ?_)
          · have b97 : ¬ (2 * r - den = 0) := fun q => b97 ((z_eq (by omega) (by decide)).mpr q)
            refine v_iinc (lv' := [(7, .int (nI (j + 1))), (9, .int (nI r1)), (5, .long (lN (2 * r - den))), (8, .int (nI 1)), (0, .ref d), (1, .long (lN num)), (3, .long (lN den))]) (v := nI (j + 1)) 6 dX0_coin_102 rfl (nI_1 j) (by decide) rfl ?_
            refine v_goto (tgt := 30) dX0_coin_105 (by decide) ?_
            refine v_lv [4, 5, 6, 2, 0] rfl ?_
            exact ih (2 * r - den) p1 (j + 1) d1 (by omega) (by omega) (by omega) (by omega) (fun h => by rw [b78] at h; cases h) (by omega) (fun u hu => hq u ⟨sCoin_go1 hb1 b48 b87 b97 b78 hu.1, hu.2⟩)
          · have b97 : 2 * r - den = 0 := (z_eq (by omega) (by decide)).mp b97
            refine v_iconst (v := 0) dX0_coin_100 (by decide) ?_
            exact v_iret hE dX0_coin_101 (0, p1, d1) (hq _ ⟨sCoin_end1 hb1 b48 b87 b97 b78, Nat.le_of_ble_eq_true rfl, fun _ => rfl⟩) rfl rfl
        · have b87 : ¬ (r1 = 1) := fun q => b87 ((nI_eq (by omega) (by decide)).mpr q)
          refine v_iload 2 dX0_coin_90 rfl ?_
          exact v_iret hE dX0_coin_92 (1, p1, d1) (hq _ ⟨sCoin_out1 hb1 b48 b87 b78, Nat.le_of_ble_eq_true rfl, fun h => absurd (b78.symm.trans h) (by decide)⟩) rfl rfl
      · have b78 : ¬ (d1 = false) := fun q => b78 ((dI_0 d1).mpr q)
        have hb1 : p = e ∧ p1 = e ∧ d1 = true := Rbit_t hp hdr c69 (by simpa using b78)
        refine v_iconst (v := 0) dX0_coin_81 (by decide) ?_
        exact v_iret hE dX0_coin_82 (0, p1, d1) (hq _ ⟨Rl_dry hb1 (sCoin_dry hb1.1), Nat.zero_le _, fun _ => rfl⟩) rfl rfl
set_option maxRecDepth 100000 in
set_option maxHeartbeats 4000000 in
theorem kX0_coin {D : va_G} {cI cJ cT : ClassId} (l : Launch) {d w n : Nat} {f : Nat → Int32} {fr p e : Nat} {dr : Bool} {num den : Nat} (hp : p ≤ e) (he : e ≤ 32 * n) (hn : n ≤ 512) (hdr : dr = true → p = e) (hden : den < 2 ^ 62) (hnum : num ≤ den) : Fn (S := Nat × Nat × Bool) (gG D cI cJ cT) l yX0_coin (.code yX0_coin cX0_coin 10 (some .int)) (rmD 1) [.ref d, .long (lN num), .long (lN den)] [(d, .inr (0, [.ref w, .int (nI fr), .int (nI p), .int (nI e), .int (dI dr)])), (w, .inl (cI, n, .inl f))] (fun u => Rl (sCoin (bitW f) e num den p) e p dr u ∧ u.1 ≤ 1 ∧ (0 < num → num < den → u.2.2 = true → u.1 = 0) ∧ (num = 0 → u.1 = 0)) (fun u => some (.int (nI u.1))) (fun u => [(d, .inr (0, [.ref w, .int (nI fr), .int (nI u.2.1), .int (nI e), .int (dI u.2.2)])), (w, .inl (cI, n, .inl f))]) := by
  refine Fn.intro (by decide) (Nat.le_of_ble_eq_true rfl) ?_
  intro X hX hE hin
  subst hX
  show V (gG D cI cJ cT) X _ cX0_coin 10 RX0 _ 0 0 [(0, .ref d), (1, .long (lN num)), (3, .long (lN den))] 0 []
  refine v_lload_n 1 dX0_coin_0 rfl rfl ?_
  refine v_lconst (v := lN 0) dX0_coin_1 (by decide) ?_
  refine v_lcmp dX0_coin_2 ?_
  refine v_if_le (tgt := 12) dX0_coin_3 (by decide) (fun b3 => ?_) (fun b3 => ?_)
  · have b3 : num ≤ 0 := (z_le (by omega) (by decide)).mp b3
    refine v_lload_n 1 dX0_coin_12 rfl rfl ?_
    refine v_lconst (v := lN 0) dX0_coin_13 (by decide) ?_
    refine v_lcmp dX0_coin_14 ?_
    refine v_if_gt (tgt := 22) dX0_coin_15 (by decide) (fun b15 => ?_) (fun b15 => ?_)
    · have b15 : 0 < num := (z_gt (by omega) (by decide)).mp b15
      refine v_iconst (v := nI 1) dX0_coin_22 (by decide) ?_
      exact v_iret hE dX0_coin_23 (1, p, dr) (⟨sCoin_triv1 hp hdr (by omega), Nat.le_of_ble_eq_true rfl, by omega, by omega⟩) rfl rfl
    · have b15 : ¬ (0 < num) := fun q => b15 ((z_gt (by omega) (by decide)).mpr q)
      refine v_iconst (v := nI 0) dX0_coin_18 (by decide) ?_
      refine v_goto (tgt := 23) dX0_coin_19 (by decide) ?_
      exact v_iret hE dX0_coin_23 (0, p, dr) (⟨sCoin_triv0 hp hdr (by omega), Nat.le_of_ble_eq_true rfl, by omega, by omega⟩) rfl rfl
  · have b3 : ¬ (num ≤ 0) := fun q => b3 ((z_le (by omega) (by decide)).mpr q)
    refine v_lload_n 1 dX0_coin_6 rfl rfl ?_
    refine v_lload_n 2 dX0_coin_7 rfl rfl ?_
    refine v_lcmp dX0_coin_8 ?_
    refine v_if_lt (tgt := 24) dX0_coin_9 (by decide) (fun b9 => ?_) (fun b9 => ?_)
    · have b9 : num < den := (z_lt (by omega) (by omega)).mp b9
      refine v_lload_n 1 dX0_coin_24 rfl rfl ?_
      refine v_lstore (lv' := [(5, .long (lN num)), (0, .ref d), (1, .long (lN num)), (3, .long (lN den))]) dX0_coin_25 (by decide) rfl ?_
      refine v_iconst (v := nI 0) dX0_coin_27 (by decide) ?_
      refine v_istore (lv' := [(7, .int (nI 0)), (5, .long (lN num)), (0, .ref d), (1, .long (lN num)), (3, .long (lN den))]) dX0_coin_28 (by decide) rfl ?_
      refine v_lv [2, 3, 4, 1, 0] rfl ?_
      exact kX0_coin_loop he hn hden hE (e - p + 1) num p 0 dr (by omega) (by omega) (by omega) hp hdr (by omega) (fun u hu => ⟨by rw [sCoin, if_neg (by omega), if_neg (by omega)]; exact hu.1, hu.2.1, fun _ _ h => hu.2.2 h, by omega⟩)
    · have b9 : ¬ (num < den) := fun q => b9 ((z_lt (by omega) (by omega)).mpr q)
      refine v_lload_n 1 dX0_coin_12 rfl rfl ?_
      refine v_lconst (v := lN 0) dX0_coin_13 (by decide) ?_
      refine v_lcmp dX0_coin_14 ?_
      refine v_if_gt (tgt := 22) dX0_coin_15 (by decide) (fun b15 => ?_) (fun b15 => ?_)
      · have b15 : 0 < num := (z_gt (by omega) (by decide)).mp b15
        refine v_iconst (v := nI 1) dX0_coin_22 (by decide) ?_
        exact v_iret hE dX0_coin_23 (1, p, dr) (⟨sCoin_triv1 hp hdr (by omega), Nat.le_of_ble_eq_true rfl, by omega, by omega⟩) rfl rfl
      · have b15 : ¬ (0 < num) := fun q => b15 ((z_gt (by omega) (by decide)).mpr q)
        refine v_iconst (v := nI 0) dX0_coin_18 (by decide) ?_
        refine v_goto (tgt := 23) dX0_coin_19 (by decide) ?_
        exact v_iret hE dX0_coin_23 (0, p, dr) (⟨sCoin_triv0 hp hdr (by omega), Nat.le_of_ble_eq_true rfl, by omega, by omega⟩) rfl rfl
set_option maxRecDepth 100000 in
set_option maxHeartbeats 4000000 in
theorem kX0_uniform_loop {D : va_G} {cI cJ cT : ClassId} {X : vX} {d w n : Nat} {f : Nat → Int32} {fr e : Nat} {nn : Nat} (he : e ≤ 32 * n) (hn : n ≤ 512) (hnn : 0 < nn) (hnn2 : nn < 2 ^ 61) {W0 : va_W} {post : Nat × Nat × Bool → Prop} (hE : vE (gG D cI cJ cT) X (some .long) W0 post (fun u => some (.long (lN u.1))) (fun u => [(d, .inr (0, [.ref w, .int (nI fr), .int (nI u.2.1), .int (nI e), .int (dI u.2.2)])), (w, .inl (cI, n, .inl f))])) :
    ∀ (k m v p j : Nat) (dr : Bool), 0 < k → (dr = false → v < m ∧ m < 2 * nn ∧ 2 * (e - p) + (if m < nn then 0 else 1) + 1 < k) → p ≤ e → (dr = true → p = e) → j + k ≤ 500000 → (∀ u, Rl (sUniL (bitW f) e nn k m v p) e p dr u ∧ u.1 < nn → post u) → V (gG D cI cJ cT) X (rmD 1) cX0_uniform 8 RX0 [(d, .inr (0, [.ref w, .int (nI fr), .int (nI p), .int (nI e), .int (dI dr)])), (w, .inl (cI, n, .inl f))] 0 0 [(0, .ref d), (1, .long (lN nn)), (3, .long (lN m)), (5, .long (lN v)), (7, .int (nI j))] 8 [] := by
  intro k
  induction k with
  | zero => intro m v p j dr h1; omega
  | succ k ih =>
    intro m v p j dr hk hinv hp hdr hj hq
    refine v_iload 4 dX0_uniform_8 rfl ?_
    refine v_ldc (v := nI 1000000) k_c_Dice_35 dX0_uniform_10 ?_
    refine v_icmp_ge (tgt := 74) dX0_uniform_12 (by decide) (fun b12 => absurd b12 (fun q => absurd ((nI_leI (by decide) (by omega)).mp q) (by omega))) (fun b12 => ?_)
    refine v_aload_n 0 dX0_uniform_15 rfl rfl ?_
    refine v_get f_Dice_31 0 rfl rfl dX0_uniform_16 ?_
    refine v_if_ne (tgt := 74) dX0_uniform_19 (by decide) (fun b19 => ?_) (fun b19 => ?_)
    · have b19 : ¬ (dr = false) := fun q => b19 ((dI_0 dr).mpr q)
      refine v_lconst (v := lN 0) dX0_uniform_74 (by decide) ?_
      exact v_lret hE dX0_uniform_75 (0, p, dr) (hq _ ⟨Rl_over (by simpa using b19) (hdr (by simpa using b19)), hnn⟩) rfl rfl
    · have b19 : dr = false := (dI_0 dr).mp b19
      have hi := hinv b19
      refine v_lload_n 2 dX0_uniform_22 rfl rfl ?_
      refine v_lload_n 1 dX0_uniform_23 rfl rfl ?_
      refine v_lcmp dX0_uniform_24 ?_
      refine v_if_ge (tgt := 48) dX0_uniform_25 (by decide) (fun b25 => ?_) (fun b25 => ?_)
      · have b25 : nn ≤ m := (z_ge (by omega) (by omega)).mp b25
        refine v_lload 3 dX0_uniform_48 rfl ?_
        refine v_lload_n 1 dX0_uniform_50 rfl rfl ?_
        refine v_lcmp dX0_uniform_51 ?_
        refine v_if_ge (tgt := 58) dX0_uniform_52 (by decide) (fun b52 => ?_) (fun b52 => ?_)
        · have b52 : nn ≤ v := (z_ge (by omega) (by omega)).mp b52
          refine v_lload_n 2 dX0_uniform_58 rfl rfl ?_
          refine v_lload_n 1 dX0_uniform_59 rfl rfl ?_
          refine v_lsub dX0_uniform_60 ?_
          refine v_topl (y := lN (m - nn)) (lN_sub (by omega)) ?_
          refine v_lstore_n (lv' := [(3, .long (lN (m - nn))), (0, .ref d), (1, .long (lN nn)), (5, .long (lN v)), (7, .int (nI j))]) dX0_uniform_61 rfl (by decide) rfl ?_
          refine v_lload 3 dX0_uniform_62 rfl ?_
          refine v_lload_n 2 dX0_uniform_64 rfl rfl ?_
          refine v_lsub dX0_uniform_65 ?_
          refine v_topl (y := lN (v - nn)) (lN_sub (by omega)) ?_
          refine v_lstore (lv' := [(5, .long (lN (v - nn))), (3, .long (lN (m - nn))), (0, .ref d), (1, .long (lN nn)), (7, .int (nI j))]) dX0_uniform_66 (by decide) rfl ?_
          refine v_iinc (lv' := [(7, .int (nI (j + 1))), (5, .long (lN (v - nn))), (3, .long (lN (m - nn))), (0, .ref d), (1, .long (lN nn))]) (v := nI (j + 1)) 4 dX0_uniform_68 rfl (nI_1 j) (by decide) rfl ?_
          refine v_goto (tgt := 8) dX0_uniform_71 (by decide) ?_
          refine v_lv [3, 4, 2, 1, 0] rfl ?_
          exact ih (m - nn) (v - nn) p (j + 1) dr (by have := hi.2.2; omega) (fun _ => sUni_inv2 hi b25 b52) hp hdr (by omega) (fun u hu => hq u ⟨sUni_sub b19 b25 b52 hu.1, hu.2⟩)
        · have b52 : ¬ (nn ≤ v) := fun q => b52 ((z_ge (by omega) (by omega)).mpr q)
          refine v_lload 3 dX0_uniform_55 rfl ?_
          exact v_lret hE dX0_uniform_57 (v, p, dr) (hq _ ⟨sUni_out b19 hp b25 b52, by show v < nn; omega⟩) rfl rfl
      · have b25 : ¬ (nn ≤ m) := fun q => b25 ((z_ge (by omega) (by omega)).mpr q)
        refine v_lload_n 2 dX0_uniform_28 rfl rfl ?_
        refine v_lload_n 2 dX0_uniform_29 rfl rfl ?_
        refine v_ladd dX0_uniform_30 ?_
        refine v_topl (y := lN (2 * m)) (lN_dbl m) ?_
        refine v_lstore_n (lv' := [(3, .long (lN (2 * m))), (0, .ref d), (1, .long (lN nn)), (5, .long (lN v)), (7, .int (nI j))]) dX0_uniform_31 rfl (by decide) rfl ?_
        refine v_lload 3 dX0_uniform_32 rfl ?_
        refine v_lload 3 dX0_uniform_34 rfl ?_
        refine v_aload_n 1 dX0_uniform_36 rfl rfl ?_
        refine v_callV (as := []) (rest := [.long (lN v), .long (lN v)]) (ws' := fun u => [(d, .inr (0, [.ref w, .int (nI fr), .int (nI u.2.1), .int (nI e), .int (dI u.2.2)])), (w, .inl (cI, n, .inl f))]) m_Dice_36 (kX0_nextBit X.l (d := d) (w := w) (n := n) (f := f) (fr := fr) (p := p) (e := e) (dr := dr) (by omega) he hn) k_code_X0_nextBit [0, 1] 0 rfl rfl rfl rfl dX0_uniform_37 (Nat.le_of_ble_eq_true rfl) ⟨rfl, rfl, by decide, by decide⟩ ⟨Nat.zero_le _, Nat.zero_le _⟩ rfl rfl (fun _ => rfl) (fun _ => rfl) ?_
        intro u37 c37
        obtain ⟨r1, p1, d1⟩ := u37
        try dsimp only at c37
        show V (gG D cI cJ cT) X (rmD 1) cX0_uniform 8 RX0 [(d, .inr (0, [.ref w, .int (nI fr), .int (nI p1), .int (nI e), .int (dI d1)])), (w, .inl (cI, n, .inl f))] 0 0 [(3, .long (lN (2 * m))), (0, .ref d), (1, .long (lN nn)), (5, .long (lN v)), (7, .int (nI j))] 40 [.int (nI r1), .long (lN v), .long (lN v)]
        have hr1 : r1 < 2 := Rbit_lt (bitW_lt f) c37
        have hb1 := Rbit_c hp b19 c37
        refine v_i2l (v := lN r1) dX0_uniform_40 (nI_l (by omega)) ?_
        refine v_ladd dX0_uniform_41 ?_
        refine v_ladd dX0_uniform_42 ?_
        refine v_topl (y := lN (2 * v + r1)) (by rw [lN_add, lN_add]; congr 1; omega) ?_
        refine v_lstore (lv' := [(5, .long (lN (2 * v + r1))), (3, .long (lN (2 * m))), (0, .ref d), (1, .long (lN nn)), (7, .int (nI j))]) dX0_uniform_43 (by decide) rfl ?_
        refine v_goto (tgt := 68) dX0_uniform_45 (by decide) ?_
        refine v_iinc (lv' := [(7, .int (nI (j + 1))), (5, .long (lN (2 * v + r1))), (3, .long (lN (2 * m))), (0, .ref d), (1, .long (lN nn))]) (v := nI (j + 1)) 4 dX0_uniform_68 rfl (nI_1 j) (by decide) rfl ?_
        refine v_goto (tgt := 8) dX0_uniform_71 (by decide) ?_
        refine v_lv [3, 4, 2, 1, 0] rfl ?_
        exact ih (2 * m) (2 * v + r1) p1 (j + 1) d1 (by omega) (sUni_inv hb1 hr1 hi (by omega)) (Rbit_le hp c37) (Rb_e hb1) (by omega) (fun u hu => hq u ⟨sUni_bit hb1 b19 (by omega) hu.1, hu.2⟩)
set_option maxRecDepth 100000 in
set_option maxHeartbeats 4000000 in
theorem kX0_uniform {D : va_G} {cI cJ cT : ClassId} (l : Launch) {d w n : Nat} {f : Nat → Int32} {fr p e : Nat} {dr : Bool} {nn : Nat} (hp : p ≤ e) (he : e ≤ 32 * n) (hn : n ≤ 512) (hdr : dr = true → p = e) (hnn : 0 < nn) (hnn2 : nn < 2 ^ 61) : Fn (S := Nat × Nat × Bool) (gG D cI cJ cT) l yX0_uniform (.code yX0_uniform cX0_uniform 8 (some .long)) (rmD 1) [.ref d, .long (lN nn)] [(d, .inr (0, [.ref w, .int (nI fr), .int (nI p), .int (nI e), .int (dI dr)])), (w, .inl (cI, n, .inl f))] (fun u => Rl (sUni (bitW f) e nn p) e p dr u ∧ u.1 < nn) (fun u => some (.long (lN u.1))) (fun u => [(d, .inr (0, [.ref w, .int (nI fr), .int (nI u.2.1), .int (nI e), .int (dI u.2.2)])), (w, .inl (cI, n, .inl f))]) := by
  refine Fn.intro (by decide) (Nat.le_of_ble_eq_true rfl) ?_
  intro X hX hE hin
  subst hX
  show V (gG D cI cJ cT) X _ cX0_uniform 8 RX0 _ 0 0 [(0, .ref d), (1, .long (lN nn))] 0 []
  refine v_lconst (v := lN 1) dX0_uniform_0 (by decide) ?_
  refine v_lstore_n (lv' := [(3, .long (lN 1)), (0, .ref d), (1, .long (lN nn))]) dX0_uniform_1 rfl (by decide) rfl ?_
  refine v_lconst (v := lN 0) dX0_uniform_2 (by decide) ?_
  refine v_lstore (lv' := [(5, .long (lN 0)), (3, .long (lN 1)), (0, .ref d), (1, .long (lN nn))]) dX0_uniform_3 (by decide) rfl ?_
  refine v_iconst (v := nI 0) dX0_uniform_5 (by decide) ?_
  refine v_istore (lv' := [(7, .int (nI 0)), (5, .long (lN 0)), (3, .long (lN 1)), (0, .ref d), (1, .long (lN nn))]) dX0_uniform_6 (by decide) rfl ?_
  refine v_lv [3, 4, 2, 1, 0] rfl ?_
  exact kX0_uniform_loop he hn hnn hnn2 hE (2 * (e - p) + 3) 1 0 p 0 dr (by omega) (fun h => ⟨by omega, by omega, by split <;> omega⟩) hp hdr (by omega) (fun u hu => hu)
