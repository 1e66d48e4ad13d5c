set_option maxRecDepth 100000 in
set_option maxHeartbeats 4000000 in
theorem kX7_append {D : va_G} {cI cJ cT : ClassId} (l : Launch) {ta w : Nat} {sz pl : Nat} {f : Nat → Int32} {v : Int32} (hsz : sz + 32 ≤ 16384) : Fn (S := Unit) (gG D cI cJ cT) l yX7_append (.code yX7_append cX7_append 3 none) (rmD 0) [.ref ta, .int v] [(ta, .inr (7, [.ref w, .int (nI sz), .int (nI pl)])), (w, .inl (cI, 512, .inl f))] (fun _ => True) (fun u => none) (fun u => [(ta, .inr (7, [.ref w, .int (nI (sz + 32)), .int (nI pl)])), (w, .inl (cI, 512, .inl (upd f (sz / 32) v)))]) := by
  refine Fn.intro (by decide) (Nat.le_of_ble_eq_true rfl) ?_
  intro X hX hE hin
  subst hX
  show V (gG D cI cJ cT) X _ cX7_append 3 RX7 _ 0 0 [(0, .ref ta), (1, .int v)] 0 []
  refine v_aload_n 0 dX7_append_0 rfl rfl ?_
  refine v_get f_Tape_15 0 rfl rfl dX7_append_1 ?_
  refine v_bipush (v := nI 32) dX7_append_4 (by decide) ?_
  refine v_idiv dX7_append_6 (by decide) ?_
  refine v_topi (y := nI (sz / 32)) (pk_div (by omega) (by decide) (by decide)) ?_
  refine v_istore_n (lv' := [(2, .int (nI (sz / 32))), (0, .ref ta), (1, .int v)]) dX7_append_7 rfl (by decide) rfl ?_
  refine v_iload_n 0 dX7_append_8 rfl rfl ?_
  refine v_aload_n 1 dX7_append_9 rfl rfl ?_
  refine v_get f_Tape_9 0 rfl rfl dX7_append_10 ?_
  refine v_alen 0 1 rfl rfl dX7_append_13 ?_
  refine v_topi (y := nI 512) rfl ?_
  refine v_icmp_ge (tgt := 35) dX7_append_14 (by decide) (fun b14 => absurd b14 (fun q => absurd ((nI_leI (by decide) (by omega)).mp q) (by omega))) (fun b14 => ?_)
  refine v_aload_n 1 dX7_append_17 rfl rfl ?_
  refine v_get f_Tape_9 0 rfl rfl dX7_append_18 ?_
  refine v_iload_n 0 dX7_append_21 rfl rfl ?_
  refine v_iload_n 2 dX7_append_22 rfl rfl ?_
  refine v_iast (ws' := [(ta, .inr (7, [.ref w, .int (nI sz), .int (nI pl)])), (w, .inl (cI, 512, .inl (upd f ((sz / 32)) v)))]) 0 1 rfl rfl (by omega) (by omega) dX7_append_23 rfl ?_
  refine v_aload_n 1 dX7_append_24 rfl rfl ?_
  refine v_dup dX7_append_25 rfl ?_
  refine v_get f_Tape_15 0 rfl rfl dX7_append_26 ?_
  refine v_bipush (v := nI 32) dX7_append_29 (by decide) ?_
  refine v_iadd dX7_append_31 ?_
  refine v_topi (y := nI (sz + 32)) (nI_add _ _) ?_
  refine v_put (ws' := [(ta, .inr (7, [.ref w, .int (nI (sz + 32)), .int (nI pl)])), (w, .inl (cI, 512, .inl (upd f ((sz / 32)) v)))]) fw_Tape_15 0 rfl (rfl) (rfl) (Nat.le_of_ble_eq_true rfl) dX7_append_32 rfl ?_
  exact v_vret hE dX7_append_35 () trivial rfl rfl
set_option maxRecDepth 100000 in
set_option maxHeartbeats 4000000 in
theorem kX7_exchange {D : va_G} {cI cJ cT : ClassId} (l : Launch) {ta w : Nat} {sz pl a t : Nat} {f : Nat → Int32} (ha : a < 16384) : Fn (S := Unit) (gG D cI cJ cT) l yX7_exchange (.code yX7_exchange cX7_exchange 5 (some .int)) (rmD 0) [.ref ta, .int (nI a), .int (nI t)] [(ta, .inr (7, [.ref w, .int (nI sz), .int (nI pl)])), (w, .inl (cI, 512, .inl f))] (fun _ => True) (fun u => some (.int (nI (bitW f a)))) (fun u => [(ta, .inr (7, [.ref w, .int (nI sz), .int (nI pl)])), (w, .inl (cI, 512, .inl (exW f a t)))]) := by
  refine Fn.intro (by decide) (Nat.le_of_ble_eq_true rfl) ?_
  intro X hX hE hin
  subst hX
  show V (gG D cI cJ cT) X _ cX7_exchange 5 RX7 _ 0 0 [(0, .ref ta), (1, .int (nI a)), (2, .int (nI t))] 0 []
  refine v_bipush (v := nI 31) dX7_exchange_0 (by decide) ?_
  refine v_iload_n 1 dX7_exchange_2 rfl rfl ?_
  refine v_bipush (v := nI 32) dX7_exchange_3 (by decide) ?_
  refine v_irem dX7_exchange_5 (by decide) ?_
  refine v_topi (y := nI (a % 32)) (pk_rem (by omega) (by decide) (by decide)) ?_
  refine v_isub dX7_exchange_6 ?_
  refine v_topi (y := nI (31 - a % 32)) (pk_sub (by omega)) ?_
  refine v_istore_n (lv' := [(3, .int (nI (31 - a % 32))), (0, .ref ta), (1, .int (nI a)), (2, .int (nI t))]) dX7_exchange_7 rfl (by decide) rfl ?_
  refine v_aload_n 1 dX7_exchange_8 rfl rfl ?_
  refine v_get f_Tape_9 0 rfl rfl dX7_exchange_9 ?_
  refine v_iload_n 2 dX7_exchange_12 rfl rfl ?_
  refine v_bipush (v := nI 32) dX7_exchange_13 (by decide) ?_
  refine v_idiv dX7_exchange_15 (by decide) ?_
  refine v_topi (y := nI (a / 32)) (pk_div (by omega) (by decide) (by decide)) ?_
  refine v_iald 0 1 rfl rfl (by omega) (by omega) dX7_exchange_16 ?_
  refine v_iload_n 0 dX7_exchange_17 rfl rfl ?_
  refine v_iushr (v := ((f ((a / 32))).toUInt32 >>> ((nI (31 - a % 32)).toUInt32 &&& Int32.toUInt32 31)).toInt32) dX7_exchange_18 (rfl) ?_
  refine v_iconst (v := nI 1) dX7_exchange_19 (by decide) ?_
  refine v_iand dX7_exchange_20 ?_
  refine v_topi (y := nI (bitW f a)) (bitW_eq _ (by omega)) ?_
  refine v_istore (lv' := [(4, .int (nI (bitW f a))), (3, .int (nI (31 - a % 32))), (0, .ref ta), (1, .int (nI a)), (2, .int (nI t))]) dX7_exchange_21 (by decide) rfl ?_
  refine v_aload_n 2 dX7_exchange_23 rfl rfl ?_
  refine v_get f_Tape_9 0 rfl rfl dX7_exchange_24 ?_
  refine v_iload_n 3 dX7_exchange_27 rfl rfl ?_
  refine v_bipush (v := nI 32) dX7_exchange_28 (by decide) ?_
  refine v_idiv dX7_exchange_30 (by decide) ?_
  refine v_topi (y := nI (a / 32)) (pk_div (by omega) (by decide) (by decide)) ?_
  refine v_dup2_11 dX7_exchange_31 rfl rfl ?_
  refine v_iald 0 1 rfl rfl (by omega) (by omega) dX7_exchange_32 ?_
  refine v_iload 0 dX7_exchange_33 rfl ?_
  refine v_iload_n 4 dX7_exchange_35 rfl rfl ?_
  refine v_ixor dX7_exchange_36 ?_
  refine v_iload_n 1 dX7_exchange_37 rfl rfl ?_
  refine v_ishl dX7_exchange_38 ?_
  refine v_ixor dX7_exchange_39 ?_
  refine v_iast (ws' := [(ta, .inr (7, [.ref w, .int (nI sz), .int (nI pl)])), (w, .inl (cI, 512, .inl (upd f ((a / 32)) ((f ((a / 32))) ^^^ (((nI (bitW f a)) ^^^ (nI t)) <<< ((nI (31 - a % 32)) &&& 31))))))]) 0 1 rfl rfl (by omega) (by omega) dX7_exchange_40 rfl ?_
  refine v_iload 0 dX7_exchange_41 rfl ?_
  exact v_iret hE dX7_exchange_43 () (trivial) rfl rfl
set_option maxRecDepth 100000 in
set_option maxHeartbeats 4000000 in
theorem kX3_set {D : va_G} {cI cJ cT : ClassId} (l : Launch) {oo : Nat} {k0 a0 b0 c0 kd a b c : Int32} : Fn (S := Unit) (gG D cI cJ cT) l yX3_set (.code yX3_set cX3_set 5 none) (rmD 0) [.ref oo, .int kd, .int a, .int b, .int c] [(oo, .inr (3, [.int k0, .int a0, .int b0, .int c0]))] (fun _ => True) (fun u => none) (fun u => [(oo, .inr (3, [.int kd, .int a, .int b, .int c]))]) := by
  refine Fn.intro (by decide) (Nat.le_of_ble_eq_true rfl) ?_
  intro X hX hE hin
  subst hX
  show V (gG D cI cJ cT) X _ cX3_set 5 RX3 _ 0 0 [(0, .ref oo), (1, .int kd), (2, .int a), (3, .int b), (4, .int c)] 0 []
  refine v_aload_n 0 dX3_set_0 rfl rfl ?_
  refine v_iload_n 1 dX3_set_1 rfl rfl ?_
  refine v_put (ws' := [(oo, .inr (3, [.int kd, .int a0, .int b0, .int c0]))]) fw_Order_9 0 rfl (rfl) (rfl) (Nat.le_of_ble_eq_true rfl) dX3_set_2 rfl ?_
  refine v_aload_n 0 dX3_set_5 rfl rfl ?_
  refine v_iload_n 2 dX3_set_6 rfl rfl ?_
  refine v_put (ws' := [(oo, .inr (3, [.int kd, .int a, .int b0, .int c0]))]) fw_Order_15 0 rfl (rfl) (rfl) (Nat.le_of_ble_eq_true rfl) dX3_set_7 rfl ?_
  refine v_aload_n 0 dX3_set_10 rfl rfl ?_
  refine v_iload_n 3 dX3_set_11 rfl rfl ?_
  refine v_put (ws' := [(oo, .inr (3, [.int kd, .int a, .int b, .int c0]))]) fw_Order_18 0 rfl (rfl) (rfl) (Nat.le_of_ble_eq_true rfl) dX3_set_12 rfl ?_
  refine v_aload_n 0 dX3_set_15 rfl rfl ?_
  refine v_iload 4 dX3_set_16 rfl ?_
  refine v_put (ws' := [(oo, .inr (3, [.int kd, .int a, .int b, .int c]))]) fw_Order_21 0 rfl (rfl) (rfl) (Nat.le_of_ble_eq_true rfl) dX3_set_18 rfl ?_
  exact v_vret hE dX3_set_21 () trivial rfl rfl
set_option maxRecDepth 100000 in
set_option maxHeartbeats 4000000 in
theorem kX3_isUpTo {D : va_G} {cI cJ cT : ClassId} (l : Launch) {x m : Int32} : Fn (S := Unit) (gG D cI cJ cT) l yX3_isUpTo (.code yX3_isUpTo cX3_isUpTo 2 (some .boolean)) (rmD 0) [.int x, .int m] [] (fun _ => True) (fun u => some (.int (dI (up x m)))) (fun u => []) := by
  refine Fn.intro (by decide) (Nat.le_of_ble_eq_true rfl) ?_
  intro X hX hE hin
  subst hX
  show V (gG D cI cJ cT) X _ cX3_isUpTo 2 RX3 _ 0 0 [(0, .int x), (1, .int m)] 0 []
  refine v_iload_n 0 dX3_isUpTo_0 rfl rfl ?_
  refine v_if_lt (tgt := 13) dX3_isUpTo_1 (by decide) (fun b1 => ?_) (fun b1 => ?_)
  · refine v_iconst (v := 0) dX3_isUpTo_13 (by decide) ?_
    exact v_zret hE rfl dX3_isUpTo_14 () trivial (by simp [up, dI, *]) rfl
  · refine v_iload_n 0 dX3_isUpTo_4 rfl rfl ?_
    refine v_iload_n 1 dX3_isUpTo_5 rfl rfl ?_
    refine v_icmp_gt (tgt := 13) dX3_isUpTo_6 (by decide) (fun b6 => ?_) (fun b6 => ?_)
    · refine v_iconst (v := 0) dX3_isUpTo_13 (by decide) ?_
      exact v_zret hE rfl dX3_isUpTo_14 () trivial (by simp [up, dI, *]) rfl
    · refine v_iconst (v := 1) dX3_isUpTo_9 (by decide) ?_
      refine v_goto (tgt := 14) dX3_isUpTo_10 (by decide) ?_
      exact v_zret hE rfl dX3_isUpTo_14 () trivial (by simp [up, dI, *]) rfl
set_option maxRecDepth 100000 in
set_option maxHeartbeats 4000000 in
theorem kX3_isRatio {D : va_G} {cI cJ cT : ClassId} (l : Launch) {x y : Int32} {m : Int64} : Fn (S := Unit) (gG D cI cJ cT) l yX3_isRatio (.code yX3_isRatio cX3_isRatio 4 (some .boolean)) (rmD 0) [.int x, .int y, .long m] [] (fun _ => True) (fun u => some (.int (dI (ra x y m)))) (fun u => []) := by
  refine Fn.intro (by decide) (Nat.le_of_ble_eq_true rfl) ?_
  intro X hX hE hin
  subst hX
  show V (gG D cI cJ cT) X _ cX3_isRatio 4 RX3 _ 0 0 [(0, .int x), (1, .int y), (2, .long m)] 0 []
  refine v_iload_n 0 dX3_isRatio_0 rfl rfl ?_
  refine v_if_lt (tgt := 23) dX3_isRatio_1 (by decide) (fun b1 => ?_) (fun b1 => ?_)
  · refine v_iconst (v := 0) dX3_isRatio_23 (by decide) ?_
    exact v_zret hE rfl dX3_isRatio_24 () trivial (by simp [ra, dI, *]) rfl
  · refine v_iload_n 1 dX3_isRatio_4 rfl rfl ?_
    refine v_iconst (v := 1) dX3_isRatio_5 (by decide) ?_
    refine v_icmp_lt (tgt := 23) dX3_isRatio_6 (by decide) (fun b6 => ?_) (fun b6 => ?_)
    · refine v_iconst (v := 0) dX3_isRatio_23 (by decide) ?_
      exact v_zret hE rfl dX3_isRatio_24 () trivial (by simp [ra, dI, *]) rfl
    · refine v_iload_n 0 dX3_isRatio_9 rfl rfl ?_
      refine v_i2l (v := x.toInt64) dX3_isRatio_10 (rfl) ?_
      refine v_lload_n 2 dX3_isRatio_11 rfl rfl ?_
      refine v_iload_n 1 dX3_isRatio_12 rfl rfl ?_
      refine v_i2l (v := y.toInt64) dX3_isRatio_13 (rfl) ?_
      refine v_lmul dX3_isRatio_14 ?_
      refine v_lcmp dX3_isRatio_15 ?_
      refine v_if_gt (tgt := 23) dX3_isRatio_16 (by decide) (fun b16 => ?_) (fun b16 => ?_)
      · have b16 : m * y.toInt64 < x.toInt64 := (lg_cmp_gt _ _).mp b16
        refine v_iconst (v := 0) dX3_isRatio_23 (by decide) ?_
        exact v_zret hE rfl dX3_isRatio_24 () trivial (by simp [ra, dI, *]) rfl
      · have b16 : ¬ (m * y.toInt64 < x.toInt64) := fun q => b16 ((lg_cmp_gt _ _).mpr q)
        refine v_iconst (v := 1) dX3_isRatio_19 (by decide) ?_
        refine v_goto (tgt := 24) dX3_isRatio_20 (by decide) ?_
        exact v_zret hE rfl dX3_isRatio_24 () trivial (by simp [ra, dI, *]) rfl
set_option maxRecDepth 100000 in
set_option maxHeartbeats 4000000 in
theorem kX3_width {D : va_G} {cI cJ cT : ClassId} (l : Launch) {oo : Nat} {kd a b c : Int32} : Fn (S := Unit) (gG D cI cJ cT) l yX3_width (.code yX3_width cX3_width 1 (some .long)) (rmD 0) [.ref oo] [(oo, .inr (3, [.int kd, .int a, .int b, .int c]))] (fun _ => True) (fun u => some (.long (wd a b))) (fun u => [(oo, .inr (3, [.int kd, .int a, .int b, .int c]))]) := by
  refine Fn.intro (by decide) (Nat.le_of_ble_eq_true rfl) ?_
  intro X hX hE hin
  subst hX
  show V (gG D cI cJ cT) X _ cX3_width 1 RX3 _ 0 0 [(0, .ref oo)] 0 []
  refine v_aload_n 0 dX3_width_0 rfl rfl ?_
  refine v_get f_Order_15 0 rfl rfl dX3_width_1 ?_
  refine v_i2l (v := a.toInt64) dX3_width_4 (rfl) ?_
  refine v_ldc2 (v := 2147483648) k_c_Order_41 dX3_width_5 ?_
  refine v_aload_n 0 dX3_width_8 rfl rfl ?_
  refine v_get f_Order_18 0 rfl rfl dX3_width_9 ?_
  refine v_i2l (v := b.toInt64) dX3_width_12 (rfl) ?_
  refine v_lmul dX3_width_13 ?_
  refine v_ladd dX3_width_14 ?_
  exact v_lret hE dX3_width_15 () (trivial) rfl rfl
set_option maxRecDepth 100000 in
set_option maxHeartbeats 4000000 in
theorem kX3_isAllowed_0 {D : va_G} {cI cJ cT : ClassId} (l : Launch) {oo : Nat} {a b c : Int32} : Fn (S := Unit) (gG D cI cJ cT) l yX3_isAllowed (.code yX3_isAllowed cX3_isAllowed 1 (some .boolean)) (rmD 1) [.ref oo] [(oo, .inr (3, [.int (nI 0), .int a, .int b, .int c]))] (fun _ => True) (fun u => some (.int (dI (okK 0 a b c)))) (fun u => [(oo, .inr (3, [.int (nI 0), .int a, .int b, .int c]))]) := by
  refine Fn.intro (by decide) (Nat.le_of_ble_eq_true rfl) ?_
  intro X hX hE hin
  subst hX
  show V (gG D cI cJ cT) X _ cX3_isAllowed 1 RX3 _ 0 0 [(0, .ref oo)] 0 []
  refine v_aload_n 0 dX3_isAllowed_0 rfl rfl ?_
  refine v_get f_Order_9 0 rfl rfl dX3_isAllowed_1 ?_
  refine v_tableIn (off := 72) (tgt := 76) dX3_isAllowed_4 (by decide) (by decide) (by decide) (by decide) ?_
  refine v_aload_n 0 dX3_isAllowed_76 rfl rfl ?_
  refine v_get f_Order_15 0 rfl rfl dX3_isAllowed_77 ?_
  refine v_bipush (v := 7) dX3_isAllowed_80 (by decide) ?_
  refine v_callS (as := [.int a, .int 7]) (rest := []) (ws' := fun u => [(oo, .inr (3, [.int (nI 0), .int a, .int b, .int c]))]) m_Order_24 (kX3_isUpTo X.l (x := a) (m := 7)) k_code_X3_isUpTo [] rfl rfl dX3_isAllowed_82 (Nat.le_of_ble_eq_true rfl) ⟨rfl, rfl, by decide, by decide⟩ ⟨Nat.zero_le _, Nat.zero_le _⟩ rfl rfl (fun _ => rfl) (fun _ => rfl) ?_
  intro uu c82
  try dsimp only at c82
  show V (gG D cI cJ cT) X (rmD 1) cX3_isAllowed 1 RX3 [(oo, .inr (3, [.int (nI 0), .int a, .int b, .int c]))] 0 0 [(0, .ref oo)] 85 [.int (dI (up a 7))]
  exact v_zret hE (dI_nar _) dX3_isAllowed_85 () trivial (by rfl) rfl
set_option maxRecDepth 100000 in
set_option maxHeartbeats 4000000 in
theorem kX3_isAllowed_1 {D : va_G} {cI cJ cT : ClassId} (l : Launch) {oo : Nat} {a b c : Int32} : Fn (S := Unit) (gG D cI cJ cT) l yX3_isAllowed (.code yX3_isAllowed cX3_isAllowed 1 (some .boolean)) (rmD 1) [.ref oo] [(oo, .inr (3, [.int (nI 1), .int a, .int b, .int c]))] (fun _ => True) (fun u => some (.int (dI (okK 1 a b c)))) (fun u => [(oo, .inr (3, [.int (nI 1), .int a, .int b, .int c]))]) := by
  refine Fn.intro (by decide) (Nat.le_of_ble_eq_true rfl) ?_
  intro X hX hE hin
  subst hX
  show V (gG D cI cJ cT) X _ cX3_isAllowed 1 RX3 _ 0 0 [(0, .ref oo)] 0 []
  refine v_aload_n 0 dX3_isAllowed_0 rfl rfl ?_
  refine v_get f_Order_9 0 rfl rfl dX3_isAllowed_1 ?_
  refine v_tableIn (off := 82) (tgt := 86) dX3_isAllowed_4 (by decide) (by decide) (by decide) (by decide) ?_
  refine v_aload_n 0 dX3_isAllowed_86 rfl rfl ?_
  refine v_get f_Order_15 0 rfl rfl dX3_isAllowed_87 ?_
  refine v_if_lt (tgt := 119) dX3_isAllowed_90 (by decide) (fun b90 => ?_) (fun b90 => ?_)
  · refine v_iconst (v := 0) dX3_isAllowed_119 (by decide) ?_
    exact v_zret hE (rfl) dX3_isAllowed_120 () trivial (by simp [okK, dI, *]) rfl
  · refine v_aload_n 0 dX3_isAllowed_93 rfl rfl ?_
    refine v_get f_Order_18 0 rfl rfl dX3_isAllowed_94 ?_
    refine v_sipush (v := 511) dX3_isAllowed_97 (by decide) ?_
    refine v_callS (as := [.int b, .int 511]) (rest := []) (ws' := fun u => [(oo, .inr (3, [.int (nI 1), .int a, .int b, .int c]))]) m_Order_24 (kX3_isUpTo X.l (x := b) (m := 511)) k_code_X3_isUpTo [] rfl rfl dX3_isAllowed_100 (Nat.le_of_ble_eq_true rfl) ⟨rfl, rfl, by decide, by decide⟩ ⟨Nat.zero_le _, Nat.zero_le _⟩ rfl rfl (fun _ => rfl) (fun _ => rfl) ?_
    intro uu c100
    try dsimp only at c100
    show V (gG D cI cJ cT) X (rmD 1) cX3_isAllowed 1 RX3 [(oo, .inr (3, [.int (nI 1), .int a, .int b, .int c]))] 0 0 [(0, .ref oo)] 103 [.int (dI (up b 511))]
    refine v_if_eq (tgt := 119) dX3_isAllowed_103 (by decide) (fun b103 => ?_) (fun b103 => ?_)
    · have b103 : (up b 511) = false := (dI_0 _).mp b103
      refine v_iconst (v := 0) dX3_isAllowed_119 (by decide) ?_
      exact v_zret hE (rfl) dX3_isAllowed_120 () trivial (by simp [okK, dI, *]) rfl
    · have b103 : ¬ ((up b 511) = false) := fun q => b103 ((dI_0 _).mpr q)
      have q103 : (up b 511) = true := by simpa using b103
      refine v_aload_n 0 dX3_isAllowed_106 rfl rfl ?_
      refine v_callV (as := []) (rest := []) (ws' := fun u => [(oo, .inr (3, [.int (nI 1), .int a, .int b, .int c]))]) m_Order_28 (kX3_width X.l (oo := oo) (kd := nI 1) (a := a) (b := b) (c := c)) k_code_X3_width [0] 0 rfl rfl rfl rfl dX3_isAllowed_107 (Nat.le_of_ble_eq_true rfl) ⟨rfl, rfl, by decide, by decide⟩ ⟨Nat.zero_le _, Nat.zero_le _⟩ rfl rfl (fun _ => rfl) (fun _ => rfl) ?_
      intro uu c107
      try dsimp only at c107
      show V (gG D cI cJ cT) X (rmD 1) cX3_isAllowed 1 RX3 [(oo, .inr (3, [.int (nI 1), .int a, .int b, .int c]))] 0 0 [(0, .ref oo)] 110 [.long (wd a b)]
      refine v_lconst (v := 1) dX3_isAllowed_110 (by decide) ?_
      refine v_lcmp dX3_isAllowed_111 ?_
      refine v_if_lt (tgt := 119) dX3_isAllowed_112 (by decide) (fun b112 => ?_) (fun b112 => ?_)
      · have b112 : wd a b < 1 := (lg_cmp_lt _ _).mp b112
        refine v_iconst (v := 0) dX3_isAllowed_119 (by decide) ?_
        exact v_zret hE (rfl) dX3_isAllowed_120 () trivial (by simp [okK, dI, *]) rfl
      · have b112 : ¬ (wd a b < 1) := fun q => b112 ((lg_cmp_lt _ _).mpr q)
        refine v_iconst (v := 1) dX3_isAllowed_115 (by decide) ?_
        refine v_goto (tgt := 120) dX3_isAllowed_116 (by decide) ?_
        exact v_zret hE (rfl) dX3_isAllowed_120 () trivial (by simp [okK, dI, *]) rfl
set_option maxRecDepth 100000 in
set_option maxHeartbeats 4000000 in
theorem kX3_isAllowed_2 {D : va_G} {cI cJ cT : ClassId} (l : Launch) {oo : Nat} {a b c : Int32} : Fn (S := Unit) (gG D cI cJ cT) l yX3_isAllowed (.code yX3_isAllowed cX3_isAllowed 1 (some .boolean)) (rmD 1) [.ref oo] [(oo, .inr (3, [.int (nI 2), .int a, .int b, .int c]))] (fun _ => True) (fun u => some (.int (dI (okK 2 a b c)))) (fun u => [(oo, .inr (3, [.int (nI 2), .int a, .int b, .int c]))]) := by
  refine Fn.intro (by decide) (Nat.le_of_ble_eq_true rfl) ?_
  intro X hX hE hin
  subst hX
  show V (gG D cI cJ cT) X _ cX3_isAllowed 1 RX3 _ 0 0 [(0, .ref oo)] 0 []
  refine v_aload_n 0 dX3_isAllowed_0 rfl rfl ?_
  refine v_get f_Order_9 0 rfl rfl dX3_isAllowed_1 ?_
  refine v_tableIn (off := 117) (tgt := 121) dX3_isAllowed_4 (by decide) (by decide) (by decide) (by decide) ?_
  refine v_aload_n 0 dX3_isAllowed_121 rfl rfl ?_
  refine v_get f_Order_15 0 rfl rfl dX3_isAllowed_122 ?_
  refine v_aload_n 0 dX3_isAllowed_125 rfl rfl ?_
  refine v_get f_Order_18 0 rfl rfl dX3_isAllowed_126 ?_
  refine v_lconst (v := 1) dX3_isAllowed_129 (by decide) ?_
  refine v_callS (as := [.int a, .int b, .long 1]) (rest := []) (ws' := fun u => [(oo, .inr (3, [.int (nI 2), .int a, .int b, .int c]))]) m_Order_32 (kX3_isRatio X.l (x := a) (y := b) (m := 1)) k_code_X3_isRatio [] rfl rfl dX3_isAllowed_130 (Nat.le_of_ble_eq_true rfl) ⟨rfl, rfl, by decide, by decide⟩ ⟨Nat.zero_le _, Nat.zero_le _⟩ rfl rfl (fun _ => rfl) (fun _ => rfl) ?_
  intro uu c130
  try dsimp only at c130
  show V (gG D cI cJ cT) X (rmD 1) cX3_isAllowed 1 RX3 [(oo, .inr (3, [.int (nI 2), .int a, .int b, .int c]))] 0 0 [(0, .ref oo)] 133 [.int (dI (ra a b 1))]
  exact v_zret hE (dI_nar _) dX3_isAllowed_133 () trivial (by rfl) rfl
set_option maxRecDepth 100000 in
set_option maxHeartbeats 4000000 in
theorem kX3_isAllowed_3 {D : va_G} {cI cJ cT : ClassId} (l : Launch) {oo : Nat} {a b c : Int32} : Fn (S := Unit) (gG D cI cJ cT) l yX3_isAllowed (.code yX3_isAllowed cX3_isAllowed 1 (some .boolean)) (rmD 1) [.ref oo] [(oo, .inr (3, [.int (nI 3), .int a, .int b, .int c]))] (fun _ => True) (fun u => some (.int (dI (okK 3 a b c)))) (fun u => [(oo, .inr (3, [.int (nI 3), .int a, .int b, .int c]))]) := by
  refine Fn.intro (by decide) (Nat.le_of_ble_eq_true rfl) ?_
  intro X hX hE hin
  subst hX
  show V (gG D cI cJ cT) X _ cX3_isAllowed 1 RX3 _ 0 0 [(0, .ref oo)] 0 []
  refine v_aload_n 0 dX3_isAllowed_0 rfl rfl ?_
  refine v_get f_Order_9 0 rfl rfl dX3_isAllowed_1 ?_
  refine v_tableIn (off := 130) (tgt := 134) dX3_isAllowed_4 (by decide) (by decide) (by decide) (by decide) ?_
  refine v_aload_n 0 dX3_isAllowed_134 rfl rfl ?_
  refine v_get f_Order_15 0 rfl rfl dX3_isAllowed_135 ?_
  refine v_sipush (v := 1000) dX3_isAllowed_138 (by decide) ?_
  refine v_callS (as := [.int a, .int 1000]) (rest := []) (ws' := fun u => [(oo, .inr (3, [.int (nI 3), .int a, .int b, .int c]))]) m_Order_24 (kX3_isUpTo X.l (x := a) (m := 1000)) k_code_X3_isUpTo [] rfl rfl dX3_isAllowed_141 (Nat.le_of_ble_eq_true rfl) ⟨rfl, rfl, by decide, by decide⟩ ⟨Nat.zero_le _, Nat.zero_le _⟩ rfl rfl (fun _ => rfl) (fun _ => rfl) ?_
  intro uu c141
  try dsimp only at c141
  show V (gG D cI cJ cT) X (rmD 1) cX3_isAllowed 1 RX3 [(oo, .inr (3, [.int (nI 3), .int a, .int b, .int c]))] 0 0 [(0, .ref oo)] 144 [.int (dI (up a 1000))]
  refine v_if_eq (tgt := 166) dX3_isAllowed_144 (by decide) (fun b144 => ?_) (fun b144 => ?_)
  · have b144 : (up a 1000) = false := (dI_0 _).mp b144
    refine v_iconst (v := 0) dX3_isAllowed_166 (by decide) ?_
    exact v_zret hE (rfl) dX3_isAllowed_167 () trivial (by simp [okK, dI, *]) rfl
  · have b144 : ¬ ((up a 1000) = false) := fun q => b144 ((dI_0 _).mpr q)
    have q144 : (up a 1000) = true := by simpa using b144
    refine v_aload_n 0 dX3_isAllowed_147 rfl rfl ?_
    refine v_get f_Order_18 0 rfl rfl dX3_isAllowed_148 ?_
    refine v_aload_n 0 dX3_isAllowed_151 rfl rfl ?_
    refine v_get f_Order_21 0 rfl rfl dX3_isAllowed_152 ?_
    refine v_lconst (v := 1) dX3_isAllowed_155 (by decide) ?_
    refine v_callS (as := [.int b, .int c, .long 1]) (rest := []) (ws' := fun u => [(oo, .inr (3, [.int (nI 3), .int a, .int b, .int c]))]) m_Order_32 (kX3_isRatio X.l (x := b) (y := c) (m := 1)) k_code_X3_isRatio [] rfl rfl dX3_isAllowed_156 (Nat.le_of_ble_eq_true rfl) ⟨rfl, rfl, by decide, by decide⟩ ⟨Nat.zero_le _, Nat.zero_le _⟩ rfl rfl (fun _ => rfl) (fun _ => rfl) ?_
    intro uu c156
    try dsimp only at c156
    show V (gG D cI cJ cT) X (rmD 1) cX3_isAllowed 1 RX3 [(oo, .inr (3, [.int (nI 3), .int a, .int b, .int c]))] 0 0 [(0, .ref oo)] 159 [.int (dI (ra b c 1))]
    refine v_if_eq (tgt := 166) dX3_isAllowed_159 (by decide) (fun b159 => ?_) (fun b159 => ?_)
    · have b159 : (ra b c 1) = false := (dI_0 _).mp b159
      refine v_iconst (v := 0) dX3_isAllowed_166 (by decide) ?_
      exact v_zret hE (rfl) dX3_isAllowed_167 () trivial (by simp [okK, dI, *]) rfl
    · have b159 : ¬ ((ra b c 1) = false) := fun q => b159 ((dI_0 _).mpr q)
      have q159 : (ra b c 1) = true := by simpa using b159
      refine v_iconst (v := 1) dX3_isAllowed_162 (by decide) ?_
      refine v_goto (tgt := 167) dX3_isAllowed_163 (by decide) ?_
      exact v_zret hE (rfl) dX3_isAllowed_167 () trivial (by simp [okK, dI, *]) rfl
set_option maxRecDepth 100000 in
set_option maxHeartbeats 4000000 in
theorem kX3_isAllowed_4 {D : va_G} {cI cJ cT : ClassId} (l : Launch) {oo : Nat} {a b c : Int32} : Fn (S := Unit) (gG D cI cJ cT) l yX3_isAllowed (.code yX3_isAllowed cX3_isAllowed 1 (some .boolean)) (rmD 1) [.ref oo] [(oo, .inr (3, [.int (nI 4), .int a, .int b, .int c]))] (fun _ => True) (fun u => some (.int (dI (okK 4 a b c)))) (fun u => [(oo, .inr (3, [.int (nI 4), .int a, .int b, .int c]))]) := by
  refine Fn.intro (by decide) (Nat.le_of_ble_eq_true rfl) ?_
  intro X hX hE hin
  subst hX
  show V (gG D cI cJ cT) X _ cX3_isAllowed 1 RX3 _ 0 0 [(0, .ref oo)] 0 []
  refine v_aload_n 0 dX3_isAllowed_0 rfl rfl ?_
  refine v_get f_Order_9 0 rfl rfl dX3_isAllowed_1 ?_
  refine v_tableIn (off := 164) (tgt := 168) dX3_isAllowed_4 (by decide) (by decide) (by decide) (by decide) ?_
  refine v_aload_n 0 dX3_isAllowed_168 rfl rfl ?_
  refine v_get f_Order_15 0 rfl rfl dX3_isAllowed_169 ?_
  refine v_aload_n 0 dX3_isAllowed_172 rfl rfl ?_
  refine v_get f_Order_18 0 rfl rfl dX3_isAllowed_173 ?_
  refine v_lconst (v := 1) dX3_isAllowed_176 (by decide) ?_
  refine v_callS (as := [.int a, .int b, .long 1]) (rest := []) (ws' := fun u => [(oo, .inr (3, [.int (nI 4), .int a, .int b, .int c]))]) m_Order_32 (kX3_isRatio X.l (x := a) (y := b) (m := 1)) k_code_X3_isRatio [] rfl rfl dX3_isAllowed_177 (Nat.le_of_ble_eq_true rfl) ⟨rfl, rfl, by decide, by decide⟩ ⟨Nat.zero_le _, Nat.zero_le _⟩ rfl rfl (fun _ => rfl) (fun _ => rfl) ?_
  intro uu c177
  try dsimp only at c177
  show V (gG D cI cJ cT) X (rmD 1) cX3_isAllowed 1 RX3 [(oo, .inr (3, [.int (nI 4), .int a, .int b, .int c]))] 0 0 [(0, .ref oo)] 180 [.int (dI (ra a b 1))]
  refine v_if_eq (tgt := 199) dX3_isAllowed_180 (by decide) (fun b180 => ?_) (fun b180 => ?_)
  · have b180 : (ra a b 1) = false := (dI_0 _).mp b180
    refine v_iconst (v := 0) dX3_isAllowed_199 (by decide) ?_
    exact v_zret hE (rfl) dX3_isAllowed_200 () trivial (by simp [okK, dI, *]) rfl
  · have b180 : ¬ ((ra a b 1) = false) := fun q => b180 ((dI_0 _).mpr q)
    have q180 : (ra a b 1) = true := by simpa using b180
    refine v_aload_n 0 dX3_isAllowed_183 rfl rfl ?_
    refine v_get f_Order_21 0 rfl rfl dX3_isAllowed_184 ?_
    refine v_ldc (v := 100000) k_c_Order_36 dX3_isAllowed_187 ?_
    refine v_callS (as := [.int c, .int 100000]) (rest := []) (ws' := fun u => [(oo, .inr (3, [.int (nI 4), .int a, .int b, .int c]))]) m_Order_24 (kX3_isUpTo X.l (x := c) (m := 100000)) k_code_X3_isUpTo [] rfl rfl dX3_isAllowed_189 (Nat.le_of_ble_eq_true rfl) ⟨rfl, rfl, by decide, by decide⟩ ⟨Nat.zero_le _, Nat.zero_le _⟩ rfl rfl (fun _ => rfl) (fun _ => rfl) ?_
    intro uu c189
    try dsimp only at c189
    show V (gG D cI cJ cT) X (rmD 1) cX3_isAllowed 1 RX3 [(oo, .inr (3, [.int (nI 4), .int a, .int b, .int c]))] 0 0 [(0, .ref oo)] 192 [.int (dI (up c 100000))]
    refine v_if_eq (tgt := 199) dX3_isAllowed_192 (by decide) (fun b192 => ?_) (fun b192 => ?_)
    · have b192 : (up c 100000) = false := (dI_0 _).mp b192
      refine v_iconst (v := 0) dX3_isAllowed_199 (by decide) ?_
      exact v_zret hE (rfl) dX3_isAllowed_200 () trivial (by simp [okK, dI, *]) rfl
    · have b192 : ¬ ((up c 100000) = false) := fun q => b192 ((dI_0 _).mpr q)
      have q192 : (up c 100000) = true := by simpa using b192
      refine v_iconst (v := 1) dX3_isAllowed_195 (by decide) ?_
      refine v_goto (tgt := 200) dX3_isAllowed_196 (by decide) ?_
      exact v_zret hE (rfl) dX3_isAllowed_200 () trivial (by simp [okK, dI, *]) rfl
set_option maxRecDepth 100000 in
set_option maxHeartbeats 4000000 in
theorem kX3_isAllowed_5 {D : va_G} {cI cJ cT : ClassId} (l : Launch) {oo : Nat} {a b c : Int32} : Fn (S := Unit) (gG D cI cJ cT) l yX3_isAllowed (.code yX3_isAllowed cX3_isAllowed 1 (some .boolean)) (rmD 1) [.ref oo] [(oo, .inr (3, [.int (nI 5), .int a, .int b, .int c]))] (fun _ => True) (fun u => some (.int (dI (okK 5 a b c)))) (fun u => [(oo, .inr (3, [.int (nI 5), .int a, .int b, .int c]))]) := by
  refine Fn.intro (by decide) (Nat.le_of_ble_eq_true rfl) ?_
  intro X hX hE hin
  subst hX
  show V (gG D cI cJ cT) X _ cX3_isAllowed 1 RX3 _ 0 0 [(0, .ref oo)] 0 []
  refine v_aload_n 0 dX3_isAllowed_0 rfl rfl ?_
  refine v_get f_Order_9 0 rfl rfl dX3_isAllowed_1 ?_
  refine v_tableIn (off := 197) (tgt := 201) dX3_isAllowed_4 (by decide) (by decide) (by decide) (by decide) ?_
  refine v_aload_n 0 dX3_isAllowed_201 rfl rfl ?_
  refine v_get f_Order_15 0 rfl rfl dX3_isAllowed_202 ?_
  refine v_aload_n 0 dX3_isAllowed_205 rfl rfl ?_
  refine v_get f_Order_18 0 rfl rfl dX3_isAllowed_206 ?_
  refine v_ldc2 (v := 64) k_c_Order_37 dX3_isAllowed_209 ?_
  refine v_callS (as := [.int a, .int b, .long 64]) (rest := []) (ws' := fun u => [(oo, .inr (3, [.int (nI 5), .int a, .int b, .int c]))]) m_Order_32 (kX3_isRatio X.l (x := a) (y := b) (m := 64)) k_code_X3_isRatio [] rfl rfl dX3_isAllowed_212 (Nat.le_of_ble_eq_true rfl) ⟨rfl, rfl, by decide, by decide⟩ ⟨Nat.zero_le _, Nat.zero_le _⟩ rfl rfl (fun _ => rfl) (fun _ => rfl) ?_
  intro uu c212
  try dsimp only at c212
  show V (gG D cI cJ cT) X (rmD 1) cX3_isAllowed 1 RX3 [(oo, .inr (3, [.int (nI 5), .int a, .int b, .int c]))] 0 0 [(0, .ref oo)] 215 [.int (dI (ra a b 64))]
  exact v_zret hE (dI_nar _) dX3_isAllowed_215 () trivial (by rfl) rfl
set_option maxRecDepth 100000 in
set_option maxHeartbeats 4000000 in
theorem kX3_isAllowed_6 {D : va_G} {cI cJ cT : ClassId} (l : Launch) {oo : Nat} {a b c : Int32} : Fn (S := Unit) (gG D cI cJ cT) l yX3_isAllowed (.code yX3_isAllowed cX3_isAllowed 1 (some .boolean)) (rmD 1) [.ref oo] [(oo, .inr (3, [.int (nI 6), .int a, .int b, .int c]))] (fun _ => True) (fun u => some (.int (dI (okK 6 a b c)))) (fun u => [(oo, .inr (3, [.int (nI 6), .int a, .int b, .int c]))]) := by
  refine Fn.intro (by decide) (Nat.le_of_ble_eq_true rfl) ?_
  intro X hX hE hin
  subst hX
  show V (gG D cI cJ cT) X _ cX3_isAllowed 1 RX3 _ 0 0 [(0, .ref oo)] 0 []
  refine v_aload_n 0 dX3_isAllowed_0 rfl rfl ?_
  refine v_get f_Order_9 0 rfl rfl dX3_isAllowed_1 ?_
  refine v_tableIn (off := 212) (tgt := 216) dX3_isAllowed_4 (by decide) (by decide) (by decide) (by decide) ?_
  refine v_aload_n 0 dX3_isAllowed_216 rfl rfl ?_
  refine v_get f_Order_15 0 rfl rfl dX3_isAllowed_217 ?_
  refine v_ldc (v := 100000) k_c_Order_36 dX3_isAllowed_220 ?_
  refine v_callS (as := [.int a, .int 100000]) (rest := []) (ws' := fun u => [(oo, .inr (3, [.int (nI 6), .int a, .int b, .int c]))]) m_Order_24 (kX3_isUpTo X.l (x := a) (m := 100000)) k_code_X3_isUpTo [] rfl rfl dX3_isAllowed_222 (Nat.le_of_ble_eq_true rfl) ⟨rfl, rfl, by decide, by decide⟩ ⟨Nat.zero_le _, Nat.zero_le _⟩ rfl rfl (fun _ => rfl) (fun _ => rfl) ?_
  intro uu c222
  try dsimp only at c222
  show V (gG D cI cJ cT) X (rmD 1) cX3_isAllowed 1 RX3 [(oo, .inr (3, [.int (nI 6), .int a, .int b, .int c]))] 0 0 [(0, .ref oo)] 225 [.int (dI (up a 100000))]
  refine v_if_eq (tgt := 263) dX3_isAllowed_225 (by decide) (fun b225 => ?_) (fun b225 => ?_)
  · have b225 : (up a 100000) = false := (dI_0 _).mp b225
    refine v_iconst (v := 0) dX3_isAllowed_263 (by decide) ?_
    exact v_zret hE (rfl) dX3_isAllowed_264 () trivial (by simp [okK, dI, *]) rfl
  · have b225 : ¬ ((up a 100000) = false) := fun q => b225 ((dI_0 _).mpr q)
    have q225 : (up a 100000) = true := by simpa using b225
    refine v_aload_n 0 dX3_isAllowed_228 rfl rfl ?_
    refine v_get f_Order_18 0 rfl rfl dX3_isAllowed_229 ?_
    refine v_ldc (v := 100000) k_c_Order_36 dX3_isAllowed_232 ?_
    refine v_callS (as := [.int b, .int 100000]) (rest := []) (ws' := fun u => [(oo, .inr (3, [.int (nI 6), .int a, .int b, .int c]))]) m_Order_24 (kX3_isUpTo X.l (x := b) (m := 100000)) k_code_X3_isUpTo [] rfl rfl dX3_isAllowed_234 (Nat.le_of_ble_eq_true rfl) ⟨rfl, rfl, by decide, by decide⟩ ⟨Nat.zero_le _, Nat.zero_le _⟩ rfl rfl (fun _ => rfl) (fun _ => rfl) ?_
    intro uu c234
    try dsimp only at c234
    show V (gG D cI cJ cT) X (rmD 1) cX3_isAllowed 1 RX3 [(oo, .inr (3, [.int (nI 6), .int a, .int b, .int c]))] 0 0 [(0, .ref oo)] 237 [.int (dI (up b 100000))]
    refine v_if_eq (tgt := 263) dX3_isAllowed_237 (by decide) (fun b237 => ?_) (fun b237 => ?_)
    · have b237 : (up b 100000) = false := (dI_0 _).mp b237
      refine v_iconst (v := 0) dX3_isAllowed_263 (by decide) ?_
      exact v_zret hE (rfl) dX3_isAllowed_264 () trivial (by simp [okK, dI, *]) rfl
    · have b237 : ¬ ((up b 100000) = false) := fun q => b237 ((dI_0 _).mpr q)
      have q237 : (up b 100000) = true := by simpa using b237
      refine v_aload_n 0 dX3_isAllowed_240 rfl rfl ?_
      refine v_get f_Order_21 0 rfl rfl dX3_isAllowed_241 ?_
      refine v_aload_n 0 dX3_isAllowed_244 rfl rfl ?_
      refine v_get f_Order_15 0 rfl rfl dX3_isAllowed_245 ?_
      refine v_aload_n 0 dX3_isAllowed_248 rfl rfl ?_
      refine v_get f_Order_18 0 rfl rfl dX3_isAllowed_249 ?_
      refine v_iadd dX3_isAllowed_252 ?_
      refine v_callS (as := [.int c, .int (a + b)]) (rest := []) (ws' := fun u => [(oo, .inr (3, [.int (nI 6), .int a, .int b, .int c]))]) m_Order_24 (kX3_isUpTo X.l (x := c) (m := a + b)) k_code_X3_isUpTo [] rfl rfl dX3_isAllowed_253 (Nat.le_of_ble_eq_true rfl) ⟨rfl, rfl, by decide, by decide⟩ ⟨Nat.zero_le _, Nat.zero_le _⟩ rfl rfl (fun _ => rfl) (fun _ => rfl) ?_
      intro uu c253
      try dsimp only at c253
      show V (gG D cI cJ cT) X (rmD 1) cX3_isAllowed 1 RX3 [(oo, .inr (3, [.int (nI 6), .int a, .int b, .int c]))] 0 0 [(0, .ref oo)] 256 [.int (dI (up c (a + b)))]
      refine v_if_eq (tgt := 263) dX3_isAllowed_256 (by decide) (fun b256 => ?_) (fun b256 => ?_)
      · have b256 : (up c (a + b)) = false := (dI_0 _).mp b256
        refine v_iconst (v := 0) dX3_isAllowed_263 (by decide) ?_
        exact v_zret hE (rfl) dX3_isAllowed_264 () trivial (by simp [okK, dI, *]) rfl
      · have b256 : ¬ ((up c (a + b)) = false) := fun q => b256 ((dI_0 _).mpr q)
        have q256 : (up c (a + b)) = true := by simpa using b256
        refine v_iconst (v := 1) dX3_isAllowed_259 (by decide) ?_
        refine v_goto (tgt := 264) dX3_isAllowed_260 (by decide) ?_
        exact v_zret hE (rfl) dX3_isAllowed_264 () trivial (by simp [okK, dI, *]) rfl
set_option maxRecDepth 100000 in
set_option maxHeartbeats 4000000 in
theorem kX3_isAllowed_7 {D : va_G} {cI cJ cT : ClassId} (l : Launch) {oo : Nat} {a b c : Int32} : Fn (S := Unit) (gG D cI cJ cT) l yX3_isAllowed (.code yX3_isAllowed cX3_isAllowed 1 (some .boolean)) (rmD 1) [.ref oo] [(oo, .inr (3, [.int (nI 7), .int a, .int b, .int c]))] (fun _ => True) (fun u => some (.int (dI (okK 7 a b c)))) (fun u => [(oo, .inr (3, [.int (nI 7), .int a, .int b, .int c]))]) := by
  refine Fn.intro (by decide) (Nat.le_of_ble_eq_true rfl) ?_
  intro X hX hE hin
  subst hX
  show V (gG D cI cJ cT) X _ cX3_isAllowed 1 RX3 _ 0 0 [(0, .ref oo)] 0 []
  refine v_aload_n 0 dX3_isAllowed_0 rfl rfl ?_
  refine v_get f_Order_9 0 rfl rfl dX3_isAllowed_1 ?_
  refine v_tableIn (off := 261) (tgt := 265) dX3_isAllowed_4 (by decide) (by decide) (by decide) (by decide) ?_
  refine v_aload_n 0 dX3_isAllowed_265 rfl rfl ?_
  refine v_get f_Order_15 0 rfl rfl dX3_isAllowed_266 ?_
  refine v_iconst (v := 1) dX3_isAllowed_269 (by decide) ?_
  refine v_icmp_lt (tgt := 310) dX3_isAllowed_270 (by decide) (fun b270 => ?_) (fun b270 => ?_)
  · refine v_iconst (v := 0) dX3_isAllowed_310 (by decide) ?_
    exact v_zret hE (rfl) dX3_isAllowed_311 () trivial (by simp [okK, dI, *]) rfl
  · refine v_aload_n 0 dX3_isAllowed_273 rfl rfl ?_
    refine v_get f_Order_15 0 rfl rfl dX3_isAllowed_274 ?_
    refine v_sipush (v := 1000) dX3_isAllowed_277 (by decide) ?_
    refine v_callS (as := [.int a, .int 1000]) (rest := []) (ws' := fun u => [(oo, .inr (3, [.int (nI 7), .int a, .int b, .int c]))]) m_Order_24 (kX3_isUpTo X.l (x := a) (m := 1000)) k_code_X3_isUpTo [] rfl rfl dX3_isAllowed_280 (Nat.le_of_ble_eq_true rfl) ⟨rfl, rfl, by decide, by decide⟩ ⟨Nat.zero_le _, Nat.zero_le _⟩ rfl rfl (fun _ => rfl) (fun _ => rfl) ?_
    intro uu c280
    try dsimp only at c280
    show V (gG D cI cJ cT) X (rmD 1) cX3_isAllowed 1 RX3 [(oo, .inr (3, [.int (nI 7), .int a, .int b, .int c]))] 0 0 [(0, .ref oo)] 283 [.int (dI (up a 1000))]
    refine v_if_eq (tgt := 310) dX3_isAllowed_283 (by decide) (fun b283 => ?_) (fun b283 => ?_)
    · have b283 : (up a 1000) = false := (dI_0 _).mp b283
      refine v_iconst (v := 0) dX3_isAllowed_310 (by decide) ?_
      exact v_zret hE (rfl) dX3_isAllowed_311 () trivial (by simp [okK, dI, *]) rfl
    · have b283 : ¬ ((up a 1000) = false) := fun q => b283 ((dI_0 _).mpr q)
      have q283 : (up a 1000) = true := by simpa using b283
      refine v_aload_n 0 dX3_isAllowed_286 rfl rfl ?_
      refine v_get f_Order_18 0 rfl rfl dX3_isAllowed_287 ?_
      refine v_iconst (v := 1) dX3_isAllowed_290 (by decide) ?_
      refine v_icmp_lt (tgt := 310) dX3_isAllowed_291 (by decide) (fun b291 => ?_) (fun b291 => ?_)
      · refine v_iconst (v := 0) dX3_isAllowed_310 (by decide) ?_
        exact v_zret hE (rfl) dX3_isAllowed_311 () trivial (by simp [okK, dI, *]) rfl
      · refine v_aload_n 0 dX3_isAllowed_294 rfl rfl ?_
        refine v_get f_Order_18 0 rfl rfl dX3_isAllowed_295 ?_
        refine v_bipush (v := 10) dX3_isAllowed_298 (by decide) ?_
        refine v_callS (as := [.int b, .int 10]) (rest := []) (ws' := fun u => [(oo, .inr (3, [.int (nI 7), .int a, .int b, .int c]))]) m_Order_24 (kX3_isUpTo X.l (x := b) (m := 10)) k_code_X3_isUpTo [] rfl rfl dX3_isAllowed_300 (Nat.le_of_ble_eq_true rfl) ⟨rfl, rfl, by decide, by decide⟩ ⟨Nat.zero_le _, Nat.zero_le _⟩ rfl rfl (fun _ => rfl) (fun _ => rfl) ?_
        intro uu c300
        try dsimp only at c300
        show V (gG D cI cJ cT) X (rmD 1) cX3_isAllowed 1 RX3 [(oo, .inr (3, [.int (nI 7), .int a, .int b, .int c]))] 0 0 [(0, .ref oo)] 303 [.int (dI (up b 10))]
        refine v_if_eq (tgt := 310) dX3_isAllowed_303 (by decide) (fun b303 => ?_) (fun b303 => ?_)
        · have b303 : (up b 10) = false := (dI_0 _).mp b303
          refine v_iconst (v := 0) dX3_isAllowed_310 (by decide) ?_
          exact v_zret hE (rfl) dX3_isAllowed_311 () trivial (by simp [okK, dI, *]) rfl
        · have b303 : ¬ ((up b 10) = false) := fun q => b303 ((dI_0 _).mpr q)
          have q303 : (up b 10) = true := by simpa using b303
          refine v_iconst (v := 1) dX3_isAllowed_306 (by decide) ?_
          refine v_goto (tgt := 311) dX3_isAllowed_307 (by decide) ?_
          exact v_zret hE (rfl) dX3_isAllowed_311 () trivial (by simp [okK, dI, *]) rfl
set_option maxRecDepth 100000 in
set_option maxHeartbeats 4000000 in
theorem kX3_isAllowed_8 {D : va_G} {cI cJ cT : ClassId} (l : Launch) {oo : Nat} {a b c : Int32} : Fn (S := Unit) (gG D cI cJ cT) l yX3_isAllowed (.code yX3_isAllowed cX3_isAllowed 1 (some .boolean)) (rmD 1) [.ref oo] [(oo, .inr (3, [.int (nI 8), .int a, .int b, .int c]))] (fun _ => True) (fun u => some (.int (dI (okK 8 a b c)))) (fun u => [(oo, .inr (3, [.int (nI 8), .int a, .int b, .int c]))]) := by
  refine Fn.intro (by decide) (Nat.le_of_ble_eq_true rfl) ?_
  intro X hX hE hin
  subst hX
  show V (gG D cI cJ cT) X _ cX3_isAllowed 1 RX3 _ 0 0 [(0, .ref oo)] 0 []
  refine v_aload_n 0 dX3_isAllowed_0 rfl rfl ?_
  refine v_get f_Order_9 0 rfl rfl dX3_isAllowed_1 ?_
  refine v_tableIn (off := 308) (tgt := 312) dX3_isAllowed_4 (by decide) (by decide) (by decide) (by decide) ?_
  refine v_aload_n 0 dX3_isAllowed_312 rfl rfl ?_
  refine v_get f_Order_15 0 rfl rfl dX3_isAllowed_313 ?_
  refine v_aload_n 0 dX3_isAllowed_316 rfl rfl ?_
  refine v_get f_Order_18 0 rfl rfl dX3_isAllowed_317 ?_
  refine v_ldc2 (v := 1000) k_c_Order_39 dX3_isAllowed_320 ?_
  refine v_callS (as := [.int a, .int b, .long 1000]) (rest := []) (ws' := fun u => [(oo, .inr (3, [.int (nI 8), .int a, .int b, .int c]))]) m_Order_32 (kX3_isRatio X.l (x := a) (y := b) (m := 1000)) k_code_X3_isRatio [] rfl rfl dX3_isAllowed_323 (Nat.le_of_ble_eq_true rfl) ⟨rfl, rfl, by decide, by decide⟩ ⟨Nat.zero_le _, Nat.zero_le _⟩ rfl rfl (fun _ => rfl) (fun _ => rfl) ?_
  intro uu c323
  try dsimp only at c323
  show V (gG D cI cJ cT) X (rmD 1) cX3_isAllowed 1 RX3 [(oo, .inr (3, [.int (nI 8), .int a, .int b, .int c]))] 0 0 [(0, .ref oo)] 326 [.int (dI (ra a b 1000))]
  exact v_zret hE (dI_nar _) dX3_isAllowed_326 () trivial (by rfl) rfl
set_option maxRecDepth 100000 in
set_option maxHeartbeats 4000000 in
theorem kX3_isAllowed_9 {D : va_G} {cI cJ cT : ClassId} (l : Launch) {oo : Nat} {a b c : Int32} : Fn (S := Unit) (gG D cI cJ cT) l yX3_isAllowed (.code yX3_isAllowed cX3_isAllowed 1 (some .boolean)) (rmD 1) [.ref oo] [(oo, .inr (3, [.int (nI 9), .int a, .int b, .int c]))] (fun _ => True) (fun u => some (.int (dI (okK 9 a b c)))) (fun u => [(oo, .inr (3, [.int (nI 9), .int a, .int b, .int c]))]) := by
  refine Fn.intro (by decide) (Nat.le_of_ble_eq_true rfl) ?_
  intro X hX hE hin
  subst hX
  show V (gG D cI cJ cT) X _ cX3_isAllowed 1 RX3 _ 0 0 [(0, .ref oo)] 0 []
  refine v_aload_n 0 dX3_isAllowed_0 rfl rfl ?_
  refine v_get f_Order_9 0 rfl rfl dX3_isAllowed_1 ?_
  refine v_tableIn (off := 323) (tgt := 327) dX3_isAllowed_4 (by decide) (by decide) (by decide) (by decide) ?_
  refine v_aload_n 0 dX3_isAllowed_327 rfl rfl ?_
  refine v_get f_Order_15 0 rfl rfl dX3_isAllowed_328 ?_
  refine v_sipush (v := 256) dX3_isAllowed_331 (by decide) ?_
  refine v_callS (as := [.int a, .int 256]) (rest := []) (ws' := fun u => [(oo, .inr (3, [.int (nI 9), .int a, .int b, .int c]))]) m_Order_24 (kX3_isUpTo X.l (x := a) (m := 256)) k_code_X3_isUpTo [] rfl rfl dX3_isAllowed_334 (Nat.le_of_ble_eq_true rfl) ⟨rfl, rfl, by decide, by decide⟩ ⟨Nat.zero_le _, Nat.zero_le _⟩ rfl rfl (fun _ => rfl) (fun _ => rfl) ?_
  intro uu c334
  try dsimp only at c334
  show V (gG D cI cJ cT) X (rmD 1) cX3_isAllowed 1 RX3 [(oo, .inr (3, [.int (nI 9), .int a, .int b, .int c]))] 0 0 [(0, .ref oo)] 337 [.int (dI (up a 256))]
  exact v_zret hE (dI_nar _) dX3_isAllowed_337 () trivial (by rfl) rfl
set_option maxRecDepth 100000 in
set_option maxHeartbeats 4000000 in
theorem kX3_isAllowed_10 {D : va_G} {cI cJ cT : ClassId} (l : Launch) {oo : Nat} {a b c : Int32} : Fn (S := Unit) (gG D cI cJ cT) l yX3_isAllowed (.code yX3_isAllowed cX3_isAllowed 1 (some .boolean)) (rmD 1) [.ref oo] [(oo, .inr (3, [.int (nI 10), .int a, .int b, .int c]))] (fun _ => True) (fun u => some (.int (dI (okK 10 a b c)))) (fun u => [(oo, .inr (3, [.int (nI 10), .int a, .int b, .int c]))]) := by
  refine Fn.intro (by decide) (Nat.le_of_ble_eq_true rfl) ?_
  intro X hX hE hin
  subst hX
  show V (gG D cI cJ cT) X _ cX3_isAllowed 1 RX3 _ 0 0 [(0, .ref oo)] 0 []
  refine v_aload_n 0 dX3_isAllowed_0 rfl rfl ?_
  refine v_get f_Order_9 0 rfl rfl dX3_isAllowed_1 ?_
  refine v_tableIn (off := 334) (tgt := 338) dX3_isAllowed_4 (by decide) (by decide) (by decide) (by decide) ?_
  refine v_aload_n 0 dX3_isAllowed_338 rfl rfl ?_
  refine v_get f_Order_15 0 rfl rfl dX3_isAllowed_339 ?_
  refine v_sipush (v := 256) dX3_isAllowed_342 (by decide) ?_
  refine v_callS (as := [.int a, .int 256]) (rest := []) (ws' := fun u => [(oo, .inr (3, [.int (nI 10), .int a, .int b, .int c]))]) m_Order_24 (kX3_isUpTo X.l (x := a) (m := 256)) k_code_X3_isUpTo [] rfl rfl dX3_isAllowed_345 (Nat.le_of_ble_eq_true rfl) ⟨rfl, rfl, by decide, by decide⟩ ⟨Nat.zero_le _, Nat.zero_le _⟩ rfl rfl (fun _ => rfl) (fun _ => rfl) ?_
  intro uu c345
  try dsimp only at c345
  show V (gG D cI cJ cT) X (rmD 1) cX3_isAllowed 1 RX3 [(oo, .inr (3, [.int (nI 10), .int a, .int b, .int c]))] 0 0 [(0, .ref oo)] 348 [.int (dI (up a 256))]
  refine v_if_eq (tgt := 369) dX3_isAllowed_348 (by decide) (fun b348 => ?_) (fun b348 => ?_)
  · have b348 : (up a 256) = false := (dI_0 _).mp b348
    refine v_iconst (v := 0) dX3_isAllowed_369 (by decide) ?_
    exact v_zret hE (rfl) dX3_isAllowed_370 () trivial (by simp [okK, dI, *]) rfl
  · have b348 : ¬ ((up a 256) = false) := fun q => b348 ((dI_0 _).mpr q)
    have q348 : (up a 256) = true := by simpa using b348
    refine v_aload_n 0 dX3_isAllowed_351 rfl rfl ?_
    refine v_get f_Order_18 0 rfl rfl dX3_isAllowed_352 ?_
    refine v_aload_n 0 dX3_isAllowed_355 rfl rfl ?_
    refine v_get f_Order_15 0 rfl rfl dX3_isAllowed_356 ?_
    refine v_callS (as := [.int b, .int a]) (rest := []) (ws' := fun u => [(oo, .inr (3, [.int (nI 10), .int a, .int b, .int c]))]) m_Order_24 (kX3_isUpTo X.l (x := b) (m := a)) k_code_X3_isUpTo [] rfl rfl dX3_isAllowed_359 (Nat.le_of_ble_eq_true rfl) ⟨rfl, rfl, by decide, by decide⟩ ⟨Nat.zero_le _, Nat.zero_le _⟩ rfl rfl (fun _ => rfl) (fun _ => rfl) ?_
    intro uu c359
    try dsimp only at c359
    show V (gG D cI cJ cT) X (rmD 1) cX3_isAllowed 1 RX3 [(oo, .inr (3, [.int (nI 10), .int a, .int b, .int c]))] 0 0 [(0, .ref oo)] 362 [.int (dI (up b a))]
    refine v_if_eq (tgt := 369) dX3_isAllowed_362 (by decide) (fun b362 => ?_) (fun b362 => ?_)
    · have b362 : (up b a) = false := (dI_0 _).mp b362
      refine v_iconst (v := 0) dX3_isAllowed_369 (by decide) ?_
      exact v_zret hE (rfl) dX3_isAllowed_370 () trivial (by simp [okK, dI, *]) rfl
    · have b362 : ¬ ((up b a) = false) := fun q => b362 ((dI_0 _).mpr q)
      have q362 : (up b a) = true := by simpa using b362
      refine v_iconst (v := 1) dX3_isAllowed_365 (by decide) ?_
      refine v_goto (tgt := 370) dX3_isAllowed_366 (by decide) ?_
      exact v_zret hE (rfl) dX3_isAllowed_370 () trivial (by simp [okK, dI, *]) rfl
set_option maxRecDepth 100000 in
set_option maxHeartbeats 4000000 in
theorem kX3_isAllowed_11 {D : va_G} {cI cJ cT : ClassId} (l : Launch) {oo : Nat} {a b c : Int32} : Fn (S := Unit) (gG D cI cJ cT) l yX3_isAllowed (.code yX3_isAllowed cX3_isAllowed 1 (some .boolean)) (rmD 1) [.ref oo] [(oo, .inr (3, [.int (nI 11), .int a, .int b, .int c]))] (fun _ => True) (fun u => some (.int (dI (okK 11 a b c)))) (fun u => [(oo, .inr (3, [.int (nI 11), .int a, .int b, .int c]))]) := by
  refine Fn.intro (by decide) (Nat.le_of_ble_eq_true rfl) ?_
  intro X hX hE hin
  subst hX
  show V (gG D cI cJ cT) X _ cX3_isAllowed 1 RX3 _ 0 0 [(0, .ref oo)] 0 []
  refine v_aload_n 0 dX3_isAllowed_0 rfl rfl ?_
  refine v_get f_Order_9 0 rfl rfl dX3_isAllowed_1 ?_
  refine v_tableIn (off := 367) (tgt := 371) dX3_isAllowed_4 (by decide) (by decide) (by decide) (by decide) ?_
  refine v_aload_n 0 dX3_isAllowed_371 rfl rfl ?_
  refine v_get f_Order_15 0 rfl rfl dX3_isAllowed_372 ?_
  refine v_sipush (v := 128) dX3_isAllowed_375 (by decide) ?_
  refine v_callS (as := [.int a, .int 128]) (rest := []) (ws' := fun u => [(oo, .inr (3, [.int (nI 11), .int a, .int b, .int c]))]) m_Order_24 (kX3_isUpTo X.l (x := a) (m := 128)) k_code_X3_isUpTo [] rfl rfl dX3_isAllowed_378 (Nat.le_of_ble_eq_true rfl) ⟨rfl, rfl, by decide, by decide⟩ ⟨Nat.zero_le _, Nat.zero_le _⟩ rfl rfl (fun _ => rfl) (fun _ => rfl) ?_
  intro uu c378
  try dsimp only at c378
  show V (gG D cI cJ cT) X (rmD 1) cX3_isAllowed 1 RX3 [(oo, .inr (3, [.int (nI 11), .int a, .int b, .int c]))] 0 0 [(0, .ref oo)] 381 [.int (dI (up a 128))]
  exact v_zret hE (dI_nar _) dX3_isAllowed_381 () trivial (by rfl) rfl
set_option maxRecDepth 100000 in
set_option maxHeartbeats 4000000 in
theorem kX3_isAllowed_12 {D : va_G} {cI cJ cT : ClassId} (l : Launch) {oo : Nat} {a b c : Int32} : Fn (S := Unit) (gG D cI cJ cT) l yX3_isAllowed (.code yX3_isAllowed cX3_isAllowed 1 (some .boolean)) (rmD 1) [.ref oo] [(oo, .inr (3, [.int (nI 12), .int a, .int b, .int c]))] (fun _ => True) (fun u => some (.int (dI (okK 12 a b c)))) (fun u => [(oo, .inr (3, [.int (nI 12), .int a, .int b, .int c]))]) := by
  refine Fn.intro (by decide) (Nat.le_of_ble_eq_true rfl) ?_
  intro X hX hE hin
  subst hX
  show V (gG D cI cJ cT) X _ cX3_isAllowed 1 RX3 _ 0 0 [(0, .ref oo)] 0 []
  refine v_aload_n 0 dX3_isAllowed_0 rfl rfl ?_
  refine v_get f_Order_9 0 rfl rfl dX3_isAllowed_1 ?_
  refine v_tableIn (off := 367) (tgt := 371) dX3_isAllowed_4 (by decide) (by decide) (by decide) (by decide) ?_
  refine v_aload_n 0 dX3_isAllowed_371 rfl rfl ?_
  refine v_get f_Order_15 0 rfl rfl dX3_isAllowed_372 ?_
  refine v_sipush (v := 128) dX3_isAllowed_375 (by decide) ?_
  refine v_callS (as := [.int a, .int 128]) (rest := []) (ws' := fun u => [(oo, .inr (3, [.int (nI 12), .int a, .int b, .int c]))]) m_Order_24 (kX3_isUpTo X.l (x := a) (m := 128)) k_code_X3_isUpTo [] rfl rfl dX3_isAllowed_378 (Nat.le_of_ble_eq_true rfl) ⟨rfl, rfl, by decide, by decide⟩ ⟨Nat.zero_le _, Nat.zero_le _⟩ rfl rfl (fun _ => rfl) (fun _ => rfl) ?_
  intro uu c378
  try dsimp only at c378
  show V (gG D cI cJ cT) X (rmD 1) cX3_isAllowed 1 RX3 [(oo, .inr (3, [.int (nI 12), .int a, .int b, .int c]))] 0 0 [(0, .ref oo)] 381 [.int (dI (up a 128))]
  exact v_zret hE (dI_nar _) dX3_isAllowed_381 () trivial (by rfl) rfl
set_option maxRecDepth 100000 in
set_option maxHeartbeats 4000000 in
theorem kX3_isAllowed_13 {D : va_G} {cI cJ cT : ClassId} (l : Launch) {oo : Nat} {a b c : Int32} : Fn (S := Unit) (gG D cI cJ cT) l yX3_isAllowed (.code yX3_isAllowed cX3_isAllowed 1 (some .boolean)) (rmD 1) [.ref oo] [(oo, .inr (3, [.int (nI 13), .int a, .int b, .int c]))] (fun _ => True) (fun u => some (.int (dI (okK 13 a b c)))) (fun u => [(oo, .inr (3, [.int (nI 13), .int a, .int b, .int c]))]) := by
  refine Fn.intro (by decide) (Nat.le_of_ble_eq_true rfl) ?_
  intro X hX hE hin
  subst hX
  show V (gG D cI cJ cT) X _ cX3_isAllowed 1 RX3 _ 0 0 [(0, .ref oo)] 0 []
  refine v_aload_n 0 dX3_isAllowed_0 rfl rfl ?_
  refine v_get f_Order_9 0 rfl rfl dX3_isAllowed_1 ?_
  refine v_tableIn (off := 378) (tgt := 382) dX3_isAllowed_4 (by decide) (by decide) (by decide) (by decide) ?_
  refine v_aload_n 0 dX3_isAllowed_382 rfl rfl ?_
  refine v_get f_Order_15 0 rfl rfl dX3_isAllowed_383 ?_
  refine v_sipush (v := 256) dX3_isAllowed_386 (by decide) ?_
  refine v_callS (as := [.int a, .int 256]) (rest := []) (ws' := fun u => [(oo, .inr (3, [.int (nI 13), .int a, .int b, .int c]))]) m_Order_24 (kX3_isUpTo X.l (x := a) (m := 256)) k_code_X3_isUpTo [] rfl rfl dX3_isAllowed_389 (Nat.le_of_ble_eq_true rfl) ⟨rfl, rfl, by decide, by decide⟩ ⟨Nat.zero_le _, Nat.zero_le _⟩ rfl rfl (fun _ => rfl) (fun _ => rfl) ?_
  intro uu c389
  try dsimp only at c389
  show V (gG D cI cJ cT) X (rmD 1) cX3_isAllowed 1 RX3 [(oo, .inr (3, [.int (nI 13), .int a, .int b, .int c]))] 0 0 [(0, .ref oo)] 392 [.int (dI (up a 256))]
  refine v_if_eq (tgt := 419) dX3_isAllowed_392 (by decide) (fun b392 => ?_) (fun b392 => ?_)
  · have b392 : (up a 256) = false := (dI_0 _).mp b392
    refine v_iconst (v := 0) dX3_isAllowed_419 (by decide) ?_
    exact v_zret hE (rfl) dX3_isAllowed_420 () trivial (by simp [okK, dI, *]) rfl
  · have b392 : ¬ ((up a 256) = false) := fun q => b392 ((dI_0 _).mpr q)
    have q392 : (up a 256) = true := by simpa using b392
    refine v_aload_n 0 dX3_isAllowed_395 rfl rfl ?_
    refine v_get f_Order_18 0 rfl rfl dX3_isAllowed_396 ?_
    refine v_iconst (v := 1) dX3_isAllowed_399 (by decide) ?_
    refine v_icmp_lt (tgt := 419) dX3_isAllowed_400 (by decide) (fun b400 => ?_) (fun b400 => ?_)
    · refine v_iconst (v := 0) dX3_isAllowed_419 (by decide) ?_
      exact v_zret hE (rfl) dX3_isAllowed_420 () trivial (by simp [okK, dI, *]) rfl
    · refine v_aload_n 0 dX3_isAllowed_403 rfl rfl ?_
      refine v_get f_Order_15 0 rfl rfl dX3_isAllowed_404 ?_
      refine v_aload_n 0 dX3_isAllowed_407 rfl rfl ?_
      refine v_get f_Order_18 0 rfl rfl dX3_isAllowed_408 ?_
      refine v_irem dX3_isAllowed_411 (fun q => absurd b400 (by rw [q]; decide)) ?_
      refine v_if_ne (tgt := 419) dX3_isAllowed_412 (by decide) (fun b412 => ?_) (fun b412 => ?_)
      · refine v_iconst (v := 0) dX3_isAllowed_419 (by decide) ?_
        exact v_zret hE (rfl) dX3_isAllowed_420 () trivial (by simp [okK, dI, *]) rfl
      · refine v_iconst (v := 1) dX3_isAllowed_415 (by decide) ?_
        refine v_goto (tgt := 420) dX3_isAllowed_416 (by decide) ?_
        exact v_zret hE (rfl) dX3_isAllowed_420 () trivial (by simp [okK, dI, *]) rfl
set_option maxRecDepth 100000 in
set_option maxHeartbeats 4000000 in
theorem kX3_isAllowed_x {D : va_G} {cI cJ cT : ClassId} (l : Launch) {oo : Nat} {kd a b c : Int32} (hk : kd.toInt < 0 ∨ 13 < kd.toInt) : Fn (S := Unit) (gG D cI cJ cT) l yX3_isAllowed (.code yX3_isAllowed cX3_isAllowed 1 (some .boolean)) (rmD 1) [.ref oo] [(oo, .inr (3, [.int kd, .int a, .int b, .int c]))] (fun _ => True) (fun u => some (.int (dI false))) (fun u => [(oo, .inr (3, [.int kd, .int a, .int b, .int c]))]) := by
  refine Fn.intro (by decide) (Nat.le_of_ble_eq_true rfl) ?_
  intro X hX hE hin
  subst hX
  show V (gG D cI cJ cT) X _ cX3_isAllowed 1 RX3 _ 0 0 [(0, .ref oo)] 0 []
  refine v_aload_n 0 dX3_isAllowed_0 rfl rfl ?_
  refine v_get f_Order_9 0 rfl rfl dX3_isAllowed_1 ?_
  refine v_tableOut (tgt := 421) dX3_isAllowed_4 (hk) (by decide) ?_
  refine v_iconst (v := 0) dX3_isAllowed_421 (by decide) ?_
  exact v_zret hE rfl dX3_isAllowed_422 () trivial rfl rfl
theorem kX3_isAllowed {D : va_G} {cI cJ cT : ClassId} (l : Launch) {oo : Nat} {kd a b c : Int32} : Fn (S := Unit) (gG D cI cJ cT) l yX3_isAllowed (.code yX3_isAllowed cX3_isAllowed 1 (some .boolean)) (rmD 1) [.ref oo] [(oo, .inr (3, [.int kd, .int a, .int b, .int c]))] (fun _ => True) (fun u => some (.int (dI (okD kd a b c)))) (fun u => [(oo, .inr (3, [.int kd, .int a, .int b, .int c]))]) := by
  rcases sw14 kd with h | ⟨k, hk, rfl⟩
  · rw [show okD kd a b c = false from if_pos h]
    exact kX3_isAllowed_x l h
  · rcases (show k = 0 ∨ k = 1 ∨ k = 2 ∨ k = 3 ∨ k = 4 ∨ k = 5 ∨ k = 6 ∨ k = 7 ∨ k = 8 ∨ k = 9 ∨ k = 10 ∨ k = 11 ∨ k = 12 ∨ k = 13 by omega) with rfl | rfl | rfl | rfl | rfl | rfl | rfl | rfl | rfl | rfl | rfl | rfl | rfl | rfl
    · rw [okD_k (by decide)]; exact kX3_isAllowed_0 l
    · rw [okD_k (by decide)]; exact kX3_isAllowed_1 l
    · rw [okD_k (by decide)]; exact kX3_isAllowed_2 l
    · rw [okD_k (by decide)]; exact kX3_isAllowed_3 l
    · rw [okD_k (by decide)]; exact kX3_isAllowed_4 l
    · rw [okD_k (by decide)]; exact kX3_isAllowed_5 l
    · rw [okD_k (by decide)]; exact kX3_isAllowed_6 l
    · rw [okD_k (by decide)]; exact kX3_isAllowed_7 l
    · rw [okD_k (by decide)]; exact kX3_isAllowed_8 l
    · rw [okD_k (by decide)]; exact kX3_isAllowed_9 l
    · rw [okD_k (by decide)]; exact kX3_isAllowed_10 l
    · rw [okD_k (by decide)]; exact kX3_isAllowed_11 l
    · rw [okD_k (by decide)]; exact kX3_isAllowed_12 l
    · rw [okD_k (by decide)]; exact kX3_isAllowed_13 l
set_option maxRecDepth 100000 in
set_option maxHeartbeats 4000000 in
theorem kX0_open {D : va_G} {cI cJ cT : ClassId} (l : Launch) {d w0 w : Nat} {v4 : Int32} {v1 v2 v3 : Int32} {pl by0 n : Nat} {g : Nat → Int32} (hby : by0 < 2 ^ 31) (hn : n ≤ 512) : Fn (S := Unit) (gG D cI cJ cT) l yX0_open (.code yX0_open cX0_open 4 none) (rmD 1) [.ref d, .ref w, .int (nI pl), .int (nI by0)] [(d, .inr (0, [.ref w0, .int v1, .int v2, .int v3, .int v4])), (w, .inl (cI, n, .inl g))] (fun _ => True) (fun u => none) (fun u => [(d, .inr (0, [.ref w, .int (nI pl), .int (nI pl), .int (nI (min by0 (n * 32))), .int (dI false)])), (w, .inl (cI, n, .inl g))]) := by
  refine Fn.intro (by decide) (Nat.le_of_ble_eq_true rfl) ?_
  intro X hX hE hin
  subst hX
  show V (gG D cI cJ cT) X _ cX0_open 4 RX0 _ 0 0 [(0, .ref d), (1, .ref w), (2, .int (nI pl)), (3, .int (nI by0))] 0 []
  refine v_aload_n 0 dX0_open_0 rfl rfl ?_
  refine v_aload_n 1 dX0_open_1 rfl rfl ?_
  refine v_put (ws' := [(d, .inr (0, [.ref w, .int v1, .int v2, .int v3, .int v4])), (w, .inl (cI, n, .inl g))]) fw_Dice_9 0 rfl (rfl) (rfl) (Nat.le_of_ble_eq_true rfl) dX0_open_2 rfl ?_
  refine v_aload_n 0 dX0_open_5 rfl rfl ?_
  refine v_iload_n 2 dX0_open_6 rfl rfl ?_
  refine v_put (ws' := [(d, .inr (0, [.ref w, .int (nI pl), .int v2, .int v3, .int v4])), (w, .inl (cI, n, .inl g))]) fw_Dice_15 0 rfl (rfl) (rfl) (Nat.le_of_ble_eq_true rfl) dX0_open_7 rfl ?_
  refine v_aload_n 0 dX0_open_10 rfl rfl ?_
  refine v_iload_n 2 dX0_open_11 rfl rfl ?_
  refine v_put (ws' := [(d, .inr (0, [.ref w, .int (nI pl), .int (nI pl), .int v3, .int v4])), (w, .inl (cI, n, .inl g))]) fw_Dice_19 0 rfl (rfl) (rfl) (Nat.le_of_ble_eq_true rfl) dX0_open_12 rfl ?_
  refine v_aload_n 0 dX0_open_15 rfl rfl ?_
  refine v_iload_n 3 dX0_open_16 rfl rfl ?_
  refine v_aload_n 1 dX0_open_17 rfl rfl ?_
  refine v_alen 0 1 rfl rfl dX0_open_18 ?_
  refine v_topi (y := nI n) rfl ?_
  refine v_bipush (v := nI 32) dX0_open_19 (by decide) ?_
  refine v_imul dX0_open_21 ?_
  refine v_topi (y := nI (n * 32)) (pk_mul _ _) ?_
  refine v_mmin k_m_Dice_22 (by decide) (Nat.le_of_ble_eq_true rfl) (Nat.zero_le _) (Nat.zero_le _) dX0_open_22 ?_
  refine v_topi (y := nI (min by0 ((n * 32)))) (min_nI (by omega) (by omega)) ?_
  refine v_put (ws' := [(d, .inr (0, [.ref w, .int (nI pl), .int (nI pl), .int (nI (min by0 ((n * 32)))), .int v4])), (w, .inl (cI, n, .inl g))]) fw_Dice_28 0 rfl (rfl) (rfl) (Nat.le_of_ble_eq_true rfl) dX0_open_25 rfl ?_
  refine v_aload_n 0 dX0_open_28 rfl rfl ?_
  refine v_iconst (v := dI false) dX0_open_29 (by decide) ?_
  refine v_put (ws' := [(d, .inr (0, [.ref w, .int (nI pl), .int (nI pl), .int (nI (min by0 ((n * 32)))), .int (dI false)])), (w, .inl (cI, n, .inl g))]) fw_Dice_31 0 rfl (rfl) (rfl) (Nat.le_of_ble_eq_true rfl) dX0_open_30 rfl ?_
  exact v_vret hE dX0_open_33 () trivial rfl rfl
set_option maxRecDepth 100000 in
set_option maxHeartbeats 4000000 in
theorem kX2_cell {D : va_G} {cI cJ cT : ClassId} (l : Launch) {lo lc : Nat} {nx ls dw i wh : Nat} {g : Nat → Int64} (hnx : nx < 100) (hls : ls ≤ 100) (hi : i < 100) (hw : wh < 8) : Fn (S := Unit) (gG D cI cJ cT) l yX2_cell (.code yX2_cell cX2_cell 4 (some .long)) (rmD 0) [.ref lo, .int (nI i), .int (nI wh)] [(lo, .inr (2, [.ref lc, .int (nI nx), .int (nI ls), .int (nI dw)])), (lc, .inl (cJ, 800, .inr (.inl g)))] (fun _ => True) (fun u => some (.long (g ((nx + 100 - ls + i) % 100 * 8 + wh)))) (fun u => [(lo, .inr (2, [.ref lc, .int (nI nx), .int (nI ls), .int (nI dw)])), (lc, .inl (cJ, 800, .inr (.inl g)))]) := by
  refine Fn.intro (by decide) (Nat.le_of_ble_eq_true rfl) ?_
  intro X hX hE hin
  subst hX
  show V (gG D cI cJ cT) X _ cX2_cell 4 RX2 _ 0 0 [(0, .ref lo), (1, .int (nI i)), (2, .int (nI wh))] 0 []
  refine v_aload_n 0 dX2_cell_0 rfl rfl ?_
  refine v_get f_Log_13 0 rfl rfl dX2_cell_1 ?_
  refine v_bipush (v := nI 100) dX2_cell_4 (by decide) ?_
  refine v_iadd dX2_cell_6 ?_
  refine v_topi (y := nI (nx + 100)) (nI_add _ _) ?_
  refine v_aload_n 0 dX2_cell_7 rfl rfl ?_
  refine v_get f_Log_17 0 rfl rfl dX2_cell_8 ?_
  refine v_isub dX2_cell_11 ?_
  refine v_topi (y := nI (nx + 100 - ls)) (pk_sub (by omega)) ?_
  refine v_iload_n 1 dX2_cell_12 rfl rfl ?_
  refine v_iadd dX2_cell_13 ?_
  refine v_topi (y := nI (nx + 100 - ls + i)) (nI_add _ _) ?_
  refine v_bipush (v := nI 100) dX2_cell_14 (by decide) ?_
  refine v_irem dX2_cell_16 (by decide) ?_
  refine v_topi (y := nI ((nx + 100 - ls + i) % 100)) (pk_rem (by omega) (by decide) (by decide)) ?_
  refine v_istore_n (lv' := [(3, .int (nI ((nx + 100 - ls + i) % 100))), (0, .ref lo), (1, .int (nI i)), (2, .int (nI wh))]) dX2_cell_17 rfl (by decide) rfl ?_
  refine v_aload_n 1 dX2_cell_18 rfl rfl ?_
  refine v_get f_Log_9 0 rfl rfl dX2_cell_19 ?_
  refine v_iload_n 0 dX2_cell_22 rfl rfl ?_
  refine v_bipush (v := nI 8) dX2_cell_23 (by decide) ?_
  refine v_imul dX2_cell_25 ?_
  refine v_topi (y := nI ((nx + 100 - ls + i) % 100 * 8)) (pk_mul _ _) ?_
  refine v_iload_n 3 dX2_cell_26 rfl rfl ?_
  refine v_iadd dX2_cell_27 ?_
  refine v_topi (y := nI ((nx + 100 - ls + i) % 100 * 8 + wh)) (nI_add _ _) ?_
  refine v_lald 1 1 rfl rfl (by omega) (by omega) dX2_cell_28 ?_
  exact v_lret hE dX2_cell_29 () (trivial) rfl rfl
set_option maxRecDepth 100000 in
set_option maxHeartbeats 4000000 in
theorem kX2_add {D : va_G} {cI cJ cT : ClassId} (l : Launch) {lo lc oo : Nat} {nx ls dw pl bi : Nat} {g : Nat → Int64} {kd a b c : Int32} {an su : Int64} (hnx : nx < 100) (hls : ls ≤ 100) (hpl : pl < 2 ^ 31) (hbi : bi < 2 ^ 31) : Fn (S := Unit) (gG D cI cJ cT) l yX2_add (.code yX2_add cX2_add 9 none) (rmD 1) [.ref lo, .ref oo, .int (nI pl), .int (nI bi), .long an, .long su] [(lo, .inr (2, [.ref lc, .int (nI nx), .int (nI ls), .int (nI dw)])), (lc, .inl (cJ, 800, .inr (.inl g))), (oo, .inr (3, [.int kd, .int a, .int b, .int c]))] (fun _ => True) (fun u => none) (fun u => [(lo, .inr (2, [.ref lc, .int (nI ((nx + 1) % 100)), .int (nI (min (ls + 1) 100)), .int (nI (dw + 1))])), (lc, .inl (cJ, 800, .inr (.inl (vp_updL (vp_updL (vp_updL (vp_updL (vp_updL (vp_updL (vp_updL (vp_updL (g) (nx * 8 + 0) kd.toInt64) (nx * 8 + 1) a.toInt64) (nx * 8 + 2) b.toInt64) (nx * 8 + 3) c.toInt64) (nx * 8 + 4) (lN pl)) (nx * 8 + 5) (lN bi)) (nx * 8 + 6) an) (nx * 8 + 7) su)))), (oo, .inr (3, [.int kd, .int a, .int b, .int c]))]) := by
  refine Fn.intro (by decide) (Nat.le_of_ble_eq_true rfl) ?_
  intro X hX hE hin
  subst hX
  show V (gG D cI cJ cT) X _ cX2_add 9 RX2 _ 0 0 [(0, .ref lo), (1, .ref oo), (2, .int (nI pl)), (3, .int (nI bi)), (4, .long an), (6, .long su)] 0 []
  refine v_aload_n 0 dX2_add_0 rfl rfl ?_
  refine v_get f_Log_13 0 rfl rfl dX2_add_1 ?_
  refine v_bipush (v := nI 8) dX2_add_4 (by decide) ?_
  refine v_imul dX2_add_6 ?_
  refine v_topi (y := nI (nx * 8)) (pk_mul _ _) ?_
  refine v_istore (lv' := [(8, .int (nI (nx * 8))), (0, .ref lo), (1, .ref oo), (2, .int (nI pl)), (3, .int (nI bi)), (4, .long an), (6, .long su)]) dX2_add_7 (by decide) rfl ?_
  refine v_aload_n 1 dX2_add_9 rfl rfl ?_
  refine v_get f_Log_9 0 rfl rfl dX2_add_10 ?_
  refine v_iload 0 dX2_add_13 rfl ?_
  refine v_iconst (v := nI 0) dX2_add_15 (by decide) ?_
  refine v_iadd dX2_add_16 ?_
  refine v_topi (y := nI (nx * 8 + 0)) (nI_add _ _) ?_
  refine v_aload_n 2 dX2_add_17 rfl rfl ?_
  refine v_get f_Log_23 2 rfl rfl dX2_add_18 ?_
  refine v_i2l (v := kd.toInt64) dX2_add_21 (rfl) ?_
  refine v_last (ws' := [(lo, .inr (2, [.ref lc, .int (nI nx), .int (nI ls), .int (nI dw)])), (lc, .inl (cJ, 800, .inr (.inl (vp_updL g ((nx * 8 + 0)) kd.toInt64)))), (oo, .inr (3, [.int kd, .int a, .int b, .int c]))]) 1 1 rfl rfl (by omega) (by omega) dX2_add_22 rfl ?_
  refine v_aload_n 1 dX2_add_23 rfl rfl ?_
  refine v_get f_Log_9 0 rfl rfl dX2_add_24 ?_
  refine v_iload 0 dX2_add_27 rfl ?_
  refine v_iconst (v := nI 1) dX2_add_29 (by decide) ?_
  refine v_iadd dX2_add_30 ?_
  refine v_topi (y := nI (nx * 8 + 1)) (nI_add _ _) ?_
  refine v_aload_n 2 dX2_add_31 rfl rfl ?_
  refine v_get f_Log_28 2 rfl rfl dX2_add_32 ?_
  refine v_i2l (v := a.toInt64) dX2_add_35 (rfl) ?_
  refine v_last (ws' := [(lo, .inr (2, [.ref lc, .int (nI nx), .int (nI ls), .int (nI dw)])), (lc, .inl (cJ, 800, .inr (.inl (vp_updL (vp_updL g ((nx * 8 + 0)) kd.toInt64) ((nx * 8 + 1)) a.toInt64)))), (oo, .inr (3, [.int kd, .int a, .int b, .int c]))]) 1 1 rfl rfl (by omega) (by omega) dX2_add_36 rfl ?_
  refine v_aload_n 1 dX2_add_37 rfl rfl ?_
  refine v_get f_Log_9 0 rfl rfl dX2_add_38 ?_
  refine v_iload 0 dX2_add_41 rfl ?_
  refine v_iconst (v := nI 2) dX2_add_43 (by decide) ?_
  refine v_iadd dX2_add_44 ?_
  refine v_topi (y := nI (nx * 8 + 2)) (nI_add _ _) ?_
  refine v_aload_n 2 dX2_add_45 rfl rfl ?_
  refine v_get f_Log_31 2 rfl rfl dX2_add_46 ?_
  refine v_i2l (v := b.toInt64) dX2_add_49 (rfl) ?_
  refine v_last (ws' := [(lo, .inr (2, [.ref lc, .int (nI nx), .int (nI ls), .int (nI dw)])), (lc, .inl (cJ, 800, .inr (.inl (vp_updL (vp_updL (vp_updL g ((nx * 8 + 0)) kd.toInt64) ((nx * 8 + 1)) a.toInt64) ((nx * 8 + 2)) b.toInt64)))), (oo, .inr (3, [.int kd, .int a, .int b, .int c]))]) 1 1 rfl rfl (by omega) (by omega) dX2_add_50 rfl ?_
  refine v_aload_n 1 dX2_add_51 rfl rfl ?_
  refine v_get f_Log_9 0 rfl rfl dX2_add_52 ?_
  refine v_iload 0 dX2_add_55 rfl ?_
  refine v_iconst (v := nI 3) dX2_add_57 (by decide) ?_
  refine v_iadd dX2_add_58 ?_
  refine v_topi (y := nI (nx * 8 + 3)) (nI_add _ _) ?_
  refine v_aload_n 2 dX2_add_59 rfl rfl ?_
  refine v_get f_Log_34 2 rfl rfl dX2_add_60 ?_
  refine v_i2l (v := c.toInt64) dX2_add_63 (rfl) ?_
  refine v_last (ws' := [(lo, .inr (2, [.ref lc, .int (nI nx), .int (nI ls), .int (nI dw)])), (lc, .inl (cJ, 800, .inr (.inl (vp_updL (vp_updL (vp_updL (vp_updL g ((nx * 8 + 0)) kd.toInt64) ((nx * 8 + 1)) a.toInt64) ((nx * 8 + 2)) b.toInt64) ((nx * 8 + 3)) c.toInt64)))), (oo, .inr (3, [.int kd, .int a, .int b, .int c]))]) 1 1 rfl rfl (by omega) (by omega) dX2_add_64 rfl ?_
  refine v_aload_n 1 dX2_add_65 rfl rfl ?_
  refine v_get f_Log_9 0 rfl rfl dX2_add_66 ?_
  refine v_iload 0 dX2_add_69 rfl ?_
  refine v_iconst (v := nI 4) dX2_add_71 (by decide) ?_
  refine v_iadd dX2_add_72 ?_
  refine v_topi (y := nI (nx * 8 + 4)) (nI_add _ _) ?_
  refine v_iload_n 3 dX2_add_73 rfl rfl ?_
  refine v_i2l (v := lN pl) dX2_add_74 (nI_l (by omega)) ?_
  refine v_last (ws' := [(lo, .inr (2, [.ref lc, .int (nI nx), .int (nI ls), .int (nI dw)])), (lc, .inl (cJ, 800, .inr (.inl (vp_updL (vp_updL (vp_updL (vp_updL (vp_updL g ((nx * 8 + 0)) kd.toInt64) ((nx * 8 + 1)) a.toInt64) ((nx * 8 + 2)) b.toInt64) ((nx * 8 + 3)) c.toInt64) ((nx * 8 + 4)) (lN pl))))), (oo, .inr (3, [.int kd, .int a, .int b, .int c]))]) 1 1 rfl rfl (by omega) (by omega) dX2_add_75 rfl ?_
  refine v_aload_n 1 dX2_add_76 rfl rfl ?_
  refine v_get f_Log_9 0 rfl rfl dX2_add_77 ?_
  refine v_iload 0 dX2_add_80 rfl ?_
  refine v_iconst (v := nI 5) dX2_add_82 (by decide) ?_
  refine v_iadd dX2_add_83 ?_
  refine v_topi (y := nI (nx * 8 + 5)) (nI_add _ _) ?_
  refine v_iload_n 4 dX2_add_84 rfl rfl ?_
  refine v_i2l (v := lN bi) dX2_add_85 (nI_l (by omega)) ?_
  refine v_last (ws' := [(lo, .inr (2, [.ref lc, .int (nI nx), .int (nI ls), .int (nI dw)])), (lc, .inl (cJ, 800, .inr (.inl (vp_updL (vp_updL (vp_updL (vp_updL (vp_updL (vp_updL g ((nx * 8 + 0)) kd.toInt64) ((nx * 8 + 1)) a.toInt64) ((nx * 8 + 2)) b.toInt64) ((nx * 8 + 3)) c.toInt64) ((nx * 8 + 4)) (lN pl)) ((nx * 8 + 5)) (lN bi))))), (oo, .inr (3, [.int kd, .int a, .int b, .int c]))]) 1 1 rfl rfl (by omega) (by omega) dX2_add_86 rfl ?_
  refine v_aload_n 1 dX2_add_87 rfl rfl ?_
  refine v_get f_Log_9 0 rfl rfl dX2_add_88 ?_
  refine v_iload 0 dX2_add_91 rfl ?_
  refine v_bipush (v := nI 6) dX2_add_93 (by decide) ?_
  refine v_iadd dX2_add_95 ?_
  refine v_topi (y := nI (nx * 8 + 6)) (nI_add _ _) ?_
  refine v_lload 5 dX2_add_96 rfl ?_
  refine v_last (ws' := [(lo, .inr (2, [.ref lc, .int (nI nx), .int (nI ls), .int (nI dw)])), (lc, .inl (cJ, 800, .inr (.inl (vp_updL (vp_updL (vp_updL (vp_updL (vp_updL (vp_updL (vp_updL g ((nx * 8 + 0)) kd.toInt64) ((nx * 8 + 1)) a.toInt64) ((nx * 8 + 2)) b.toInt64) ((nx * 8 + 3)) c.toInt64) ((nx * 8 + 4)) (lN pl)) ((nx * 8 + 5)) (lN bi)) ((nx * 8 + 6)) an)))), (oo, .inr (3, [.int kd, .int a, .int b, .int c]))]) 1 1 rfl rfl (by omega) (by omega) dX2_add_98 rfl ?_
  refine v_aload_n 1 dX2_add_99 rfl rfl ?_
  refine v_get f_Log_9 0 rfl rfl dX2_add_100 ?_
  refine v_iload 0 dX2_add_103 rfl ?_
  refine v_bipush (v := nI 7) dX2_add_105 (by decide) ?_
  refine v_iadd dX2_add_107 ?_
  refine v_topi (y := nI (nx * 8 + 7)) (nI_add _ _) ?_
  refine v_lload 6 dX2_add_108 rfl ?_
  refine v_last (ws' := [(lo, .inr (2, [.ref lc, .int (nI nx), .int (nI ls), .int (nI dw)])), (lc, .inl (cJ, 800, .inr (.inl (vp_updL (vp_updL (vp_updL (vp_updL (vp_updL (vp_updL (vp_updL (vp_updL g ((nx * 8 + 0)) kd.toInt64) ((nx * 8 + 1)) a.toInt64) ((nx * 8 + 2)) b.toInt64) ((nx * 8 + 3)) c.toInt64) ((nx * 8 + 4)) (lN pl)) ((nx * 8 + 5)) (lN bi)) ((nx * 8 + 6)) an) ((nx * 8 + 7)) su)))), (oo, .inr (3, [.int kd, .int a, .int b, .int c]))]) 1 1 rfl rfl (by omega) (by omega) dX2_add_110 rfl ?_
  refine v_aload_n 1 dX2_add_111 rfl rfl ?_
  refine v_aload_n 1 dX2_add_112 rfl rfl ?_
  refine v_get f_Log_13 0 rfl rfl dX2_add_113 ?_
  refine v_iconst (v := 1) dX2_add_116 (by decide) ?_
  refine v_iadd dX2_add_117 ?_
  refine v_topi (y := nI (nx + 1)) (nI_1 nx) ?_
  refine v_bipush (v := nI 100) dX2_add_118 (by decide) ?_
  refine v_irem dX2_add_120 (by decide) ?_
  refine v_topi (y := nI ((nx + 1) % 100)) (pk_rem (by omega) (by decide) (by decide)) ?_
  refine v_put (ws' := [(lo, .inr (2, [.ref lc, .int (nI ((nx + 1) % 100)), .int (nI ls), .int (nI dw)])), (lc, .inl (cJ, 800, .inr (.inl (vp_updL (vp_updL (vp_updL (vp_updL (vp_updL (vp_updL (vp_updL (vp_updL g ((nx * 8 + 0)) kd.toInt64) ((nx * 8 + 1)) a.toInt64) ((nx * 8 + 2)) b.toInt64) ((nx * 8 + 3)) c.toInt64) ((nx * 8 + 4)) (lN pl)) ((nx * 8 + 5)) (lN bi)) ((nx * 8 + 6)) an) ((nx * 8 + 7)) su)))), (oo, .inr (3, [.int kd, .int a, .int b, .int c]))]) fw_Log_13 0 rfl (rfl) (rfl) (Nat.le_of_ble_eq_true rfl) dX2_add_121 rfl ?_
  refine v_aload_n 1 dX2_add_124 rfl rfl ?_
  refine v_aload_n 1 dX2_add_125 rfl rfl ?_
  refine v_get f_Log_17 0 rfl rfl dX2_add_126 ?_
  refine v_iconst (v := 1) dX2_add_129 (by decide) ?_
  refine v_iadd dX2_add_130 ?_
  refine v_topi (y := nI (ls + 1)) (nI_1 ls) ?_
  refine v_bipush (v := nI 100) dX2_add_131 (by decide) ?_
  refine v_mmin k_m_Log_37 (by decide) (Nat.le_of_ble_eq_true rfl) (Nat.zero_le _) (Nat.zero_le _) dX2_add_133 ?_
  refine v_topi (y := nI (min ((ls + 1)) 100)) (min_nI (by omega) (by omega)) ?_
  refine v_put (ws' := [(lo, .inr (2, [.ref lc, .int (nI ((nx + 1) % 100)), .int (nI (min ((ls + 1)) 100)), .int (nI dw)])), (lc, .inl (cJ, 800, .inr (.inl (vp_updL (vp_updL (vp_updL (vp_updL (vp_updL (vp_updL (vp_updL (vp_updL g ((nx * 8 + 0)) kd.toInt64) ((nx * 8 + 1)) a.toInt64) ((nx * 8 + 2)) b.toInt64) ((nx * 8 + 3)) c.toInt64) ((nx * 8 + 4)) (lN pl)) ((nx * 8 + 5)) (lN bi)) ((nx * 8 + 6)) an) ((nx * 8 + 7)) su)))), (oo, .inr (3, [.int kd, .int a, .int b, .int c]))]) fw_Log_17 0 rfl (rfl) (rfl) (Nat.le_of_ble_eq_true rfl) dX2_add_136 rfl ?_
  refine v_aload_n 1 dX2_add_139 rfl rfl ?_
  refine v_dup dX2_add_140 rfl ?_
  refine v_get f_Log_20 0 rfl rfl dX2_add_141 ?_
  refine v_iconst (v := 1) dX2_add_144 (by decide) ?_
  refine v_iadd dX2_add_145 ?_
  refine v_topi (y := nI (dw + 1)) (nI_1 dw) ?_
  refine v_put (ws' := [(lo, .inr (2, [.ref lc, .int (nI ((nx + 1) % 100)), .int (nI (min ((ls + 1)) 100)), .int (nI (dw + 1))])), (lc, .inl (cJ, 800, .inr (.inl (vp_updL (vp_updL (vp_updL (vp_updL (vp_updL (vp_updL (vp_updL (vp_updL g ((nx * 8 + 0)) kd.toInt64) ((nx * 8 + 1)) a.toInt64) ((nx * 8 + 2)) b.toInt64) ((nx * 8 + 3)) c.toInt64) ((nx * 8 + 4)) (lN pl)) ((nx * 8 + 5)) (lN bi)) ((nx * 8 + 6)) an) ((nx * 8 + 7)) su)))), (oo, .inr (3, [.int kd, .int a, .int b, .int c]))]) fw_Log_20 0 rfl (rfl) (rfl) (Nat.le_of_ble_eq_true rfl) dX2_add_146 rfl ?_
  exact v_vret hE dX2_add_149 () trivial rfl rfl
